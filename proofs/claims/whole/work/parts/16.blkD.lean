-- X8_in
theorem mo_114 : mO 114 = 8 := rfl
theorem d_X8_in_0 : decode (mC 114) 0 = .ok (.iload_n 0, 1) := by decide +kernel
theorem d_X8_in_1 : decode (mC 114) 1 = .ok (.iload_n 1, 1) := by decide +kernel
theorem d_X8_in_2 : decode (mC 114) 2 = .ok (.if_icmp .lt 12, 3) := by decide +kernel
theorem d_X8_in_5 : decode (mC 114) 5 = .ok (.iload_n 0, 1) := by decide +kernel
theorem d_X8_in_6 : decode (mC 114) 6 = .ok (.iload_n 2, 1) := by decide +kernel
theorem d_X8_in_7 : decode (mC 114) 7 = .ok (.if_icmp .gt 7, 3) := by decide +kernel
theorem d_X8_in_10 : decode (mC 114) 10 = .ok (.iconst 1, 1) := by decide +kernel
theorem d_X8_in_11 : decode (mC 114) 11 = .ok (.goto 4, 3) := by decide +kernel
theorem d_X8_in_14 : decode (mC 114) 14 = .ok (.iconst 0, 1) := by decide +kernel
theorem d_X8_in_15 : decode (mC 114) 15 = .ok (.ireturn, 1) := by decide +kernel
theorem b_X8_in_0 {x0 x1 x2 : Int32} {h h' : mn_H} {r : Option Value} : mn_E 114 0 [.int x0, .int x1, .int x2] [] h r h' ↔ if x0 < x1 then mn_E 114 14 [.int x0, .int x1, .int x2] [] h r h' else mn_E 114 5 [.int x0, .int x1, .int x2] [] h r h' :=
  (mX_iload_n d_X8_in_0 rfl).trans <| (mX_iload_n d_X8_in_1 rfl).trans <| mX_icmp_lt d_X8_in_2 rfl
theorem b_X8_in_5 {x0 x1 x2 : Int32} {h h' : mn_H} {r : Option Value} : mn_E 114 5 [.int x0, .int x1, .int x2] [] h r h' ↔ if x2 < x0 then mn_E 114 14 [.int x0, .int x1, .int x2] [] h r h' else mn_E 114 10 [.int x0, .int x1, .int x2] [] h r h' :=
  (mX_iload_n d_X8_in_5 rfl).trans <| (mX_iload_n d_X8_in_6 rfl).trans <| mX_icmp_gt d_X8_in_7 rfl
theorem b_X8_in_10 {x0 x1 x2 : Int32} {h h' : mn_H} {r : Option Value} : mn_E 114 10 [.int x0, .int x1, .int x2] [] h r h' ↔ mn_E 114 15 [.int x0, .int x1, .int x2] [.int 1] h r h' :=
  (mX_iconst d_X8_in_10 ci_1).trans <| mX_goto d_X8_in_11 rfl
theorem b_X8_in_14 {x0 x1 x2 : Int32} {h h' : mn_H} {r : Option Value} : mn_E 114 14 [.int x0, .int x1, .int x2] [] h r h' ↔ mn_E 114 15 [.int x0, .int x1, .int x2] [.int 0] h r h' :=
  mX_iconst d_X8_in_14 ci_0
theorem b_X8_in_15 {x0 x1 x2 s0 : Int32} {h h' : mn_H} {r : Option Value} (hy0 : s0 = 0 ∨ s0 = 1) : mn_E 114 15 [.int x0, .int x1, .int x2] [.int s0] h r h' ↔ r = some (.int s0) ∧ h' = h :=
  mX_zret d_X8_in_15 rfl hy0
-- X8_isBell
theorem mo_115 : mO 115 = 8 := rfl
theorem d_X8_isBell_0 : decode (mC 115) 0 = .ok (.iload_n 1, 1) := by decide +kernel
theorem d_X8_isBell_1 : decode (mC 115) 1 = .ok (.iconst 0, 1) := by decide +kernel
theorem d_X8_isBell_2 : decode (mC 115) 2 = .ok (.aload_n 0, 1) := by decide +kernel
theorem d_X8_isBell_3 : decode (mC 115) 3 = .ok (.getfield 13, 3) := by decide +kernel
theorem d_X8_isBell_6 : decode (mC 115) 6 = .ok (.iconst 0, 1) := by decide +kernel
theorem d_X8_isBell_7 : decode (mC 115) 7 = .ok (.iaload, 1) := by decide +kernel
theorem d_X8_isBell_8 : decode (mC 115) 8 = .ok (.iconst 1, 1) := by decide +kernel
theorem d_X8_isBell_9 : decode (mC 115) 9 = .ok (.isub, 1) := by decide +kernel
theorem d_X8_isBell_10 : decode (mC 115) 10 = .ok (.invokestatic 46, 3) := by decide +kernel
theorem d_X8_isBell_13 : decode (mC 115) 13 = .ok (.ireturn, 1) := by decide +kernel
theorem fr_115_13 : mn_fr 115 8 13 8 2 = true := by decide +kernel
theorem cs_115_46 : mn_cs 115 8 46 114 = true := by decide +kernel
theorem b_X8_isBell_0 {x1 : Int32} {h h' : mn_H} {r : Option Value} : mn_E 115 0 [.ref 63, .int x1] [] h r h' ↔ ∃ x h1, mn_X 114 [.int x1, .int 0, .int ((h 65 (0 : Int32).toNatClampNeg) - 1)] h (some (.int x)) h1 ∧ mn_E 115 13 [.ref 63, .int x1] [.int x] h1 r h' :=
  (mX_iload_n d_X8_isBell_0 rfl).trans <| (mX_iconst d_X8_isBell_1 ci_0).trans <| (mX_aload_n d_X8_isBell_2 rfl).trans <| (mG_r (b := 65) d_X8_isBell_3 fr_115_13 rfl (by decide) rfl).trans <| (mX_iconst d_X8_isBell_6 ci_0).trans <| (mX_iaload d_X8_isBell_7 rfl (by decide) (mn_in_iff (by decide +kernel))).trans <| (mX_iconst d_X8_isBell_8 ci_1).trans <| (mX_isub d_X8_isBell_9).trans <| mS_i (vs := [.int x1, .int 0, .int ((h 65 (0 : Int32).toNatClampNeg) - 1)]) (st' := []) d_X8_isBell_10 cs_115_46 (Or.inr (Or.inl rfl)) (Nat.le_of_ble_eq_true rfl) rfl rfl rfl
theorem b_X8_isBell_13 {x1 s0 : Int32} {h h' : mn_H} {r : Option Value} (hy0 : s0 = 0 ∨ s0 = 1) : mn_E 115 13 [.ref 63, .int x1] [.int s0] h r h' ↔ r = some (.int s0) ∧ h' = h :=
  mX_zret d_X8_isBell_13 rfl hy0
-- X8_isGroup
theorem mo_116 : mO 116 = 8 := rfl
theorem d_X8_isGroup_0 : decode (mC 116) 0 = .ok (.iload_n 1, 1) := by decide +kernel
theorem d_X8_isGroup_1 : decode (mC 116) 1 = .ok (.iconst 0, 1) := by decide +kernel
theorem d_X8_isGroup_2 : decode (mC 116) 2 = .ok (.aload_n 0, 1) := by decide +kernel
theorem d_X8_isGroup_3 : decode (mC 116) 3 = .ok (.getfield 13, 3) := by decide +kernel
theorem d_X8_isGroup_6 : decode (mC 116) 6 = .ok (.iconst 1, 1) := by decide +kernel
theorem d_X8_isGroup_7 : decode (mC 116) 7 = .ok (.iaload, 1) := by decide +kernel
theorem d_X8_isGroup_8 : decode (mC 116) 8 = .ok (.iconst 1, 1) := by decide +kernel
theorem d_X8_isGroup_9 : decode (mC 116) 9 = .ok (.isub, 1) := by decide +kernel
theorem d_X8_isGroup_10 : decode (mC 116) 10 = .ok (.invokestatic 46, 3) := by decide +kernel
theorem d_X8_isGroup_13 : decode (mC 116) 13 = .ok (.ireturn, 1) := by decide +kernel
theorem fr_116_13 : mn_fr 116 8 13 8 2 = true := by decide +kernel
theorem cs_116_46 : mn_cs 116 8 46 114 = true := by decide +kernel
theorem b_X8_isGroup_0 {x1 : Int32} {h h' : mn_H} {r : Option Value} : mn_E 116 0 [.ref 63, .int x1] [] h r h' ↔ ∃ x h1, mn_X 114 [.int x1, .int 0, .int ((h 65 (1 : Int32).toNatClampNeg) - 1)] h (some (.int x)) h1 ∧ mn_E 116 13 [.ref 63, .int x1] [.int x] h1 r h' :=
  (mX_iload_n d_X8_isGroup_0 rfl).trans <| (mX_iconst d_X8_isGroup_1 ci_0).trans <| (mX_aload_n d_X8_isGroup_2 rfl).trans <| (mG_r (b := 65) d_X8_isGroup_3 fr_116_13 rfl (by decide) rfl).trans <| (mX_iconst d_X8_isGroup_6 ci_1).trans <| (mX_iaload d_X8_isGroup_7 rfl (by decide) (mn_in_iff (by decide +kernel))).trans <| (mX_iconst d_X8_isGroup_8 ci_1).trans <| (mX_isub d_X8_isGroup_9).trans <| mS_i (vs := [.int x1, .int 0, .int ((h 65 (1 : Int32).toNatClampNeg) - 1)]) (st' := []) d_X8_isGroup_10 cs_116_46 (Or.inr (Or.inl rfl)) (Nat.le_of_ble_eq_true rfl) rfl rfl rfl
theorem b_X8_isGroup_13 {x1 s0 : Int32} {h h' : mn_H} {r : Option Value} (hy0 : s0 = 0 ∨ s0 = 1) : mn_E 116 13 [.ref 63, .int x1] [.int s0] h r h' ↔ r = some (.int s0) ∧ h' = h :=
  mX_zret d_X8_isGroup_13 rfl hy0
-- X8_isDay
theorem mo_117 : mO 117 = 8 := rfl
theorem d_X8_isDay_0 : decode (mC 117) 0 = .ok (.iload_n 0, 1) := by decide +kernel
theorem d_X8_isDay_1 : decode (mC 117) 1 = .ok (.iconst 0, 1) := by decide +kernel
theorem d_X8_isDay_2 : decode (mC 117) 2 = .ok (.bipush 63, 2) := by decide +kernel
theorem d_X8_isDay_4 : decode (mC 117) 4 = .ok (.invokestatic 46, 3) := by decide +kernel
theorem d_X8_isDay_7 : decode (mC 117) 7 = .ok (.ireturn, 1) := by decide +kernel
theorem cs_117_46 : mn_cs 117 8 46 114 = true := by decide +kernel
theorem b_X8_isDay_0 {x0 : Int32} {h h' : mn_H} {r : Option Value} : mn_E 117 0 [.int x0] [] h r h' ↔ ∃ x h1, mn_X 114 [.int x0, .int 0, .int 63] h (some (.int x)) h1 ∧ mn_E 117 7 [.int x0] [.int x] h1 r h' :=
  (mX_iload_n d_X8_isDay_0 rfl).trans <| (mX_iconst d_X8_isDay_1 ci_0).trans <| (mX_bipush d_X8_isDay_2 cb_63).trans <| mS_i (vs := [.int x0, .int 0, .int 63]) (st' := []) d_X8_isDay_4 cs_117_46 (Or.inr (Or.inl rfl)) (Nat.le_of_ble_eq_true rfl) rfl rfl rfl
theorem b_X8_isDay_7 {x0 s0 : Int32} {h h' : mn_H} {r : Option Value} (hy0 : s0 = 0 ∨ s0 = 1) : mn_E 117 7 [.int x0] [.int s0] h r h' ↔ r = some (.int s0) ∧ h' = h :=
  mX_zret d_X8_isDay_7 rfl hy0
-- X8_ones
theorem mo_118 : mO 118 = 8 := rfl
theorem d_X8_ones_0 : decode (mC 118) 0 = .ok (.iconst 0, 1) := by decide +kernel
theorem d_X8_ones_1 : decode (mC 118) 1 = .ok (.istore_n 1, 1) := by decide +kernel
theorem d_X8_ones_2 : decode (mC 118) 2 = .ok (.iconst 0, 1) := by decide +kernel
theorem d_X8_ones_3 : decode (mC 118) 3 = .ok (.istore_n 2, 1) := by decide +kernel
theorem d_X8_ones_4 : decode (mC 118) 4 = .ok (.iload_n 2, 1) := by decide +kernel
theorem d_X8_ones_5 : decode (mC 118) 5 = .ok (.bipush 6, 2) := by decide +kernel
theorem d_X8_ones_7 : decode (mC 118) 7 = .ok (.if_icmp .ge 17, 3) := by decide +kernel
theorem d_X8_ones_10 : decode (mC 118) 10 = .ok (.iload_n 1, 1) := by decide +kernel
theorem d_X8_ones_11 : decode (mC 118) 11 = .ok (.iload_n 0, 1) := by decide +kernel
theorem d_X8_ones_12 : decode (mC 118) 12 = .ok (.iload_n 2, 1) := by decide +kernel
theorem d_X8_ones_13 : decode (mC 118) 13 = .ok (.ishr, 1) := by decide +kernel
theorem d_X8_ones_14 : decode (mC 118) 14 = .ok (.iconst 1, 1) := by decide +kernel
theorem d_X8_ones_15 : decode (mC 118) 15 = .ok (.iand, 1) := by decide +kernel
theorem d_X8_ones_16 : decode (mC 118) 16 = .ok (.iadd, 1) := by decide +kernel
theorem d_X8_ones_17 : decode (mC 118) 17 = .ok (.istore_n 1, 1) := by decide +kernel
theorem d_X8_ones_18 : decode (mC 118) 18 = .ok (.iinc 2 1, 3) := by decide +kernel
theorem d_X8_ones_21 : decode (mC 118) 21 = .ok (.goto (-17), 3) := by decide +kernel
theorem d_X8_ones_24 : decode (mC 118) 24 = .ok (.iload_n 1, 1) := by decide +kernel
theorem d_X8_ones_25 : decode (mC 118) 25 = .ok (.ireturn, 1) := by decide +kernel
theorem b_X8_ones_0 {x0 : Int32} {h h' : mn_H} {r : Option Value} : mn_E 118 0 [.int x0, .null, .null] [] h r h' ↔ mn_E 118 4 [.int x0, .int 0, .int 0] [] h r h' :=
  (mX_iconst d_X8_ones_0 ci_0).trans <| (mX_istore_n (ls' := [.int x0, .int 0, .null]) d_X8_ones_1 rfl rfl).trans <| (mX_iconst d_X8_ones_2 ci_0).trans <| mX_istore_n (ls' := [.int x0, .int 0, .int 0]) d_X8_ones_3 rfl rfl
theorem b_X8_ones_4 {x0 x1 x2 : Int32} {h h' : mn_H} {r : Option Value} : mn_E 118 4 [.int x0, .int x1, .int x2] [] h r h' ↔ if (6 : Int32) ≤ x2 then mn_E 118 24 [.int x0, .int x1, .int x2] [] h r h' else mn_E 118 10 [.int x0, .int x1, .int x2] [] h r h' :=
  (mX_iload_n d_X8_ones_4 rfl).trans <| (mX_bipush d_X8_ones_5 cb_6).trans <| mX_icmp_ge d_X8_ones_7 rfl
theorem b_X8_ones_10 {x0 x1 x2 : Int32} {h h' : mn_H} {r : Option Value} : mn_E 118 10 [.int x0, .int x1, .int x2] [] h r h' ↔ mn_E 118 4 [.int x0, .int (x1 + ((x0 >>> (x2 &&& 31)) &&& 1)), .int (x2 + 1)] [] h r h' :=
  (mX_iload_n d_X8_ones_10 rfl).trans <| (mX_iload_n d_X8_ones_11 rfl).trans <| (mX_iload_n d_X8_ones_12 rfl).trans <| (mX_ishr d_X8_ones_13).trans <| (mX_iconst d_X8_ones_14 ci_1).trans <| (mX_iand d_X8_ones_15).trans <| (mX_iadd d_X8_ones_16).trans <| (mX_istore_n (ls' := [.int x0, .int (x1 + ((x0 >>> (x2 &&& 31)) &&& 1)), .int x2]) d_X8_ones_17 rfl rfl).trans <| (mX_iinc (ls' := [.int x0, .int (x1 + ((x0 >>> (x2 &&& 31)) &&& 1)), .int (x2 + 1)]) d_X8_ones_18 rfl ci_1 rfl rfl).trans <| mX_goto d_X8_ones_21 rfl
theorem b_X8_ones_24 {x0 x1 x2 : Int32} {h h' : mn_H} {r : Option Value} : mn_E 118 24 [.int x0, .int x1, .int x2] [] h r h' ↔ r = some (.int x1) ∧ h' = h :=
  (mX_iload_n d_X8_ones_24 rfl).trans <| mX_iret d_X8_ones_25 rfl
-- X8_feed
theorem mo_119 : mO 119 = 8 := rfl
theorem d_X8_feed_0 : decode (mC 119) 0 = .ok (.iload_n 1, 1) := by decide +kernel
theorem d_X8_feed_1 : decode (mC 119) 1 = .ok (.iconst 0, 1) := by decide +kernel
theorem d_X8_feed_2 : decode (mC 119) 2 = .ok (.sipush 255, 3) := by decide +kernel
theorem d_X8_feed_5 : decode (mC 119) 5 = .ok (.invokestatic 46, 3) := by decide +kernel
theorem d_X8_feed_8 : decode (mC 119) 8 = .ok (.ifCond .ne 6, 3) := by decide +kernel
theorem d_X8_feed_11 : decode (mC 119) 11 = .ok (.ldc 50, 2) := by decide +kernel
theorem d_X8_feed_13 : decode (mC 119) 13 = .ok (.ireturn, 1) := by decide +kernel
theorem d_X8_feed_14 : decode (mC 119) 14 = .ok (.aload_n 0, 1) := by decide +kernel
theorem d_X8_feed_15 : decode (mC 119) 15 = .ok (.getfield 51, 3) := by decide +kernel
theorem d_X8_feed_18 : decode (mC 119) 18 = .ok (.sipush 250, 3) := by decide +kernel
theorem d_X8_feed_21 : decode (mC 119) 21 = .ok (.if_icmp .ne 6, 3) := by decide +kernel
theorem d_X8_feed_24 : decode (mC 119) 24 = .ok (.ldc 54, 2) := by decide +kernel
theorem d_X8_feed_26 : decode (mC 119) 26 = .ok (.ireturn, 1) := by decide +kernel
theorem d_X8_feed_27 : decode (mC 119) 27 = .ok (.aload_n 0, 1) := by decide +kernel
theorem d_X8_feed_28 : decode (mC 119) 28 = .ok (.getfield 7, 3) := by decide +kernel
theorem d_X8_feed_31 : decode (mC 119) 31 = .ok (.aload_n 0, 1) := by decide +kernel
theorem d_X8_feed_32 : decode (mC 119) 32 = .ok (.getfield 51, 3) := by decide +kernel
theorem d_X8_feed_35 : decode (mC 119) 35 = .ok (.iload_n 1, 1) := by decide +kernel
theorem d_X8_feed_36 : decode (mC 119) 36 = .ok (.iastore, 1) := by decide +kernel
theorem d_X8_feed_37 : decode (mC 119) 37 = .ok (.aload_n 0, 1) := by decide +kernel
theorem d_X8_feed_38 : decode (mC 119) 38 = .ok (.dup, 1) := by decide +kernel
theorem d_X8_feed_39 : decode (mC 119) 39 = .ok (.getfield 51, 3) := by decide +kernel
theorem d_X8_feed_42 : decode (mC 119) 42 = .ok (.iconst 1, 1) := by decide +kernel
theorem d_X8_feed_43 : decode (mC 119) 43 = .ok (.iadd, 1) := by decide +kernel
theorem d_X8_feed_44 : decode (mC 119) 44 = .ok (.putfield 51, 3) := by decide +kernel
theorem d_X8_feed_47 : decode (mC 119) 47 = .ok (.aload_n 0, 1) := by decide +kernel
theorem d_X8_feed_48 : decode (mC 119) 48 = .ok (.getfield 51, 3) := by decide +kernel
theorem d_X8_feed_51 : decode (mC 119) 51 = .ok (.ireturn, 1) := by decide +kernel
theorem cs_119_46 : mn_cs 119 8 46 114 = true := by decide +kernel
theorem fi_119_51 : mn_fi 119 8 51 8 1 = true := by decide +kernel
theorem fr_119_7 : mn_fr 119 8 7 8 0 = true := by decide +kernel
theorem b_X8_feed_0 {x1 : Int32} {h h' : mn_H} {r : Option Value} : mn_E 119 0 [.ref 63, .int x1] [] h r h' ↔ ∃ x h1, mn_X 114 [.int x1, .int 0, .int 255] h (some (.int x)) h1 ∧ mn_E 119 8 [.ref 63, .int x1] [.int x] h1 r h' :=
  (mX_iload_n d_X8_feed_0 rfl).trans <| (mX_iconst d_X8_feed_1 ci_0).trans <| (mX_sipush d_X8_feed_2 cs_255).trans <| mS_i (vs := [.int x1, .int 0, .int 255]) (st' := []) d_X8_feed_5 cs_119_46 (Or.inr (Or.inl rfl)) (Nat.le_of_ble_eq_true rfl) rfl rfl rfl
theorem b_X8_feed_8 {x1 s0 : Int32} {h h' : mn_H} {r : Option Value} : mn_E 119 8 [.ref 63, .int x1] [.int s0] h r h' ↔ if ¬ s0 = 0 then mn_E 119 14 [.ref 63, .int x1] [] h r h' else mn_E 119 11 [.ref 63, .int x1] [] h r h' :=
  mX_if_ne d_X8_feed_8 rfl
theorem b_X8_feed_11 {x1 : Int32} {h h' : mn_H} {r : Option Value} : mn_E 119 11 [.ref 63, .int x1] [] h r h' ↔ r = some (.int (-1000000002)) ∧ h' = h :=
  (mX_ldc d_X8_feed_11 mo_119 kc_8_50 (by decide)).trans <| mX_iret d_X8_feed_13 rfl
theorem b_X8_feed_14 {x1 : Int32} {h h' : mn_H} {r : Option Value} : mn_E 119 14 [.ref 63, .int x1] [] h r h' ↔ if ¬ (h 63 1) = 250 then mn_E 119 27 [.ref 63, .int x1] [] h r h' else mn_E 119 24 [.ref 63, .int x1] [] h r h' :=
  (mX_aload_n d_X8_feed_14 rfl).trans <| (mG_i d_X8_feed_15 fi_119_51 rfl (by decide)).trans <| (mX_sipush d_X8_feed_18 cs_250).trans <| mX_icmp_ne d_X8_feed_21 rfl
theorem b_X8_feed_24 {x1 : Int32} {h h' : mn_H} {r : Option Value} : mn_E 119 24 [.ref 63, .int x1] [] h r h' ↔ r = some (.int (-1000000004)) ∧ h' = h :=
  (mX_ldc d_X8_feed_24 mo_119 kc_8_54 (by decide)).trans <| mX_iret d_X8_feed_26 rfl
theorem b_X8_feed_27 {x1 : Int32} {h h' : mn_H} {r : Option Value} (hy0 : vp_in (h 63 1) 250) : mn_E 119 27 [.ref 63, .int x1] [] h r h' ↔ r = some (.int ((mn_up (mn_up h 64 ((h 63 1).toNatClampNeg) x1) 63 1 (((mn_up h 64 ((h 63 1).toNatClampNeg) x1) 63 1) + 1)) 63 1)) ∧ h' = mn_up (mn_up h 64 ((h 63 1).toNatClampNeg) x1) 63 1 (((mn_up h 64 ((h 63 1).toNatClampNeg) x1) 63 1) + 1) :=
  (mX_aload_n d_X8_feed_27 rfl).trans <| (mG_r (b := 64) d_X8_feed_28 fr_119_7 rfl (by decide) rfl).trans <| (mX_aload_n d_X8_feed_31 rfl).trans <| (mG_i d_X8_feed_32 fi_119_51 rfl (by decide)).trans <| (mX_iload_n d_X8_feed_35 rfl).trans <| (mX_iastore d_X8_feed_36 rfl (by decide) hy0).trans <| (mX_aload_n d_X8_feed_37 rfl).trans <| (mX_dup d_X8_feed_38 rfl).trans <| (mG_i d_X8_feed_39 fi_119_51 rfl (by decide)).trans <| (mX_iconst d_X8_feed_42 ci_1).trans <| (mX_iadd d_X8_feed_43).trans <| (mP_i d_X8_feed_44 fi_119_51 rfl (by decide) rfl (Or.inl (by decide))).trans <| (mX_aload_n d_X8_feed_47 rfl).trans <| (mG_i d_X8_feed_48 fi_119_51 rfl (by decide)).trans <| mX_iret d_X8_feed_51 rfl
-- X8_letterAt
theorem mo_120 : mO 120 = 8 := rfl
theorem d_X8_letterAt_0 : decode (mC 120) 0 = .ok (.iload_n 1, 1) := by decide +kernel
theorem d_X8_letterAt_1 : decode (mC 120) 1 = .ok (.aload_n 0, 1) := by decide +kernel
theorem d_X8_letterAt_2 : decode (mC 120) 2 = .ok (.getfield 51, 3) := by decide +kernel
theorem d_X8_letterAt_5 : decode (mC 120) 5 = .ok (.if_icmp .ge 12, 3) := by decide +kernel
theorem d_X8_letterAt_8 : decode (mC 120) 8 = .ok (.aload_n 0, 1) := by decide +kernel
theorem d_X8_letterAt_9 : decode (mC 120) 9 = .ok (.getfield 7, 3) := by decide +kernel
theorem d_X8_letterAt_12 : decode (mC 120) 12 = .ok (.iload_n 1, 1) := by decide +kernel
theorem d_X8_letterAt_13 : decode (mC 120) 13 = .ok (.iaload, 1) := by decide +kernel
theorem d_X8_letterAt_14 : decode (mC 120) 14 = .ok (.goto 4, 3) := by decide +kernel
theorem d_X8_letterAt_17 : decode (mC 120) 17 = .ok (.iconst (-1), 1) := by decide +kernel
theorem d_X8_letterAt_18 : decode (mC 120) 18 = .ok (.ireturn, 1) := by decide +kernel
theorem fi_120_51 : mn_fi 120 8 51 8 1 = true := by decide +kernel
theorem fr_120_7 : mn_fr 120 8 7 8 0 = true := by decide +kernel
theorem b_X8_letterAt_0 {x1 : Int32} {h h' : mn_H} {r : Option Value} : mn_E 120 0 [.ref 63, .int x1] [] h r h' ↔ if (h 63 1) ≤ x1 then mn_E 120 17 [.ref 63, .int x1] [] h r h' else mn_E 120 8 [.ref 63, .int x1] [] h r h' :=
  (mX_iload_n d_X8_letterAt_0 rfl).trans <| (mX_aload_n d_X8_letterAt_1 rfl).trans <| (mG_i d_X8_letterAt_2 fi_120_51 rfl (by decide)).trans <| mX_icmp_ge d_X8_letterAt_5 rfl
theorem b_X8_letterAt_8 {x1 : Int32} {h h' : mn_H} {r : Option Value} (hy0 : vp_in x1 250) : mn_E 120 8 [.ref 63, .int x1] [] h r h' ↔ mn_E 120 18 [.ref 63, .int x1] [.int (h 64 x1.toNatClampNeg)] h r h' :=
  (mX_aload_n d_X8_letterAt_8 rfl).trans <| (mG_r (b := 64) d_X8_letterAt_9 fr_120_7 rfl (by decide) rfl).trans <| (mX_iload_n d_X8_letterAt_12 rfl).trans <| (mX_iaload d_X8_letterAt_13 rfl (by decide) hy0).trans <| mX_goto d_X8_letterAt_14 rfl
theorem b_X8_letterAt_17 {x1 : Int32} {h h' : mn_H} {r : Option Value} : mn_E 120 17 [.ref 63, .int x1] [] h r h' ↔ mn_E 120 18 [.ref 63, .int x1] [.int (-1)] h r h' :=
  mX_iconst d_X8_letterAt_17 ci_m1
theorem b_X8_letterAt_18 {x1 s0 : Int32} {h h' : mn_H} {r : Option Value} : mn_E 120 18 [.ref 63, .int x1] [.int s0] h r h' ↔ r = some (.int s0) ∧ h' = h :=
  mX_iret d_X8_letterAt_18 rfl
-- X8_blanks
theorem mo_121 : mO 121 = 8 := rfl
theorem d_X8_blanks_0 : decode (mC 121) 0 = .ok (.aload_n 0, 1) := by decide +kernel
theorem d_X8_blanks_1 : decode (mC 121) 1 = .ok (.aload_n 0, 1) := by decide +kernel
theorem d_X8_blanks_2 : decode (mC 121) 2 = .ok (.getfield 55, 3) := by decide +kernel
theorem d_X8_blanks_5 : decode (mC 121) 5 = .ok (.invokevirtual 58, 3) := by decide +kernel
theorem d_X8_blanks_8 : decode (mC 121) 8 = .ok (.bipush 32, 2) := by decide +kernel
theorem d_X8_blanks_10 : decode (mC 121) 10 = .ok (.if_icmp .ne 16, 3) := by decide +kernel
theorem d_X8_blanks_13 : decode (mC 121) 13 = .ok (.aload_n 0, 1) := by decide +kernel
theorem d_X8_blanks_14 : decode (mC 121) 14 = .ok (.dup, 1) := by decide +kernel
theorem d_X8_blanks_15 : decode (mC 121) 15 = .ok (.getfield 55, 3) := by decide +kernel
theorem d_X8_blanks_18 : decode (mC 121) 18 = .ok (.iconst 1, 1) := by decide +kernel
theorem d_X8_blanks_19 : decode (mC 121) 19 = .ok (.iadd, 1) := by decide +kernel
theorem d_X8_blanks_20 : decode (mC 121) 20 = .ok (.putfield 55, 3) := by decide +kernel
theorem d_X8_blanks_23 : decode (mC 121) 23 = .ok (.goto (-23), 3) := by decide +kernel
theorem d_X8_blanks_26 : decode (mC 121) 26 = .ok (.return_, 1) := by decide +kernel
theorem fi_121_55 : mn_fi 121 8 55 8 10 = true := by decide +kernel
theorem cv_121_58 : mn_cvt 121 8 58 120 = true := by decide +kernel
theorem b_X8_blanks_0 {h h' : mn_H} {r : Option Value} : mn_E 121 0 [.ref 63] [] h r h' ↔ ∃ x h1, mn_X 120 [.ref 63, .int (h 63 10)] h (some (.int x)) h1 ∧ mn_E 121 8 [.ref 63] [.int x] h1 r h' :=
  (mX_aload_n d_X8_blanks_0 rfl).trans <| (mX_aload_n d_X8_blanks_1 rfl).trans <| (mG_i d_X8_blanks_2 fi_121_55 rfl (by decide)).trans <| mV_i (a := 63) (vs := [.int (h 63 10)]) (st' := []) d_X8_blanks_5 cv_121_58 (Or.inl rfl) (Nat.le_of_ble_eq_true rfl) rfl rfl rfl rfl
theorem b_X8_blanks_8 {s0 : Int32} {h h' : mn_H} {r : Option Value} : mn_E 121 8 [.ref 63] [.int s0] h r h' ↔ if ¬ s0 = 32 then mn_E 121 26 [.ref 63] [] h r h' else mn_E 121 13 [.ref 63] [] h r h' :=
  (mX_bipush d_X8_blanks_8 cb_32).trans <| mX_icmp_ne d_X8_blanks_10 rfl
theorem b_X8_blanks_13 {h h' : mn_H} {r : Option Value} : mn_E 121 13 [.ref 63] [] h r h' ↔ mn_E 121 0 [.ref 63] [] (mn_up h 63 10 ((h 63 10) + 1)) r h' :=
  (mX_aload_n d_X8_blanks_13 rfl).trans <| (mX_dup d_X8_blanks_14 rfl).trans <| (mG_i d_X8_blanks_15 fi_121_55 rfl (by decide)).trans <| (mX_iconst d_X8_blanks_18 ci_1).trans <| (mX_iadd d_X8_blanks_19).trans <| (mP_i d_X8_blanks_20 fi_121_55 rfl (by decide) rfl (Or.inl (by decide))).trans <| mX_goto d_X8_blanks_23 rfl
theorem b_X8_blanks_26 {h h' : mn_H} {r : Option Value} : mn_E 121 26 [.ref 63] [] h r h' ↔ r = none ∧ h' = h :=
  mX_vret d_X8_blanks_26 rfl
-- X8_number
theorem mo_122 : mO 122 = 8 := rfl
theorem d_X8_number_0 : decode (mC 122) 0 = .ok (.aload_n 0, 1) := by decide +kernel
theorem d_X8_number_1 : decode (mC 122) 1 = .ok (.invokevirtual 62, 3) := by decide +kernel
theorem d_X8_number_4 : decode (mC 122) 4 = .ok (.aload_n 0, 1) := by decide +kernel
theorem d_X8_number_5 : decode (mC 122) 5 = .ok (.getfield 55, 3) := by decide +kernel
theorem d_X8_number_8 : decode (mC 122) 8 = .ok (.istore_n 3, 1) := by decide +kernel
theorem d_X8_number_9 : decode (mC 122) 9 = .ok (.aload_n 0, 1) := by decide +kernel
theorem d_X8_number_10 : decode (mC 122) 10 = .ok (.iconst 0, 1) := by decide +kernel
theorem d_X8_number_11 : decode (mC 122) 11 = .ok (.putfield 65, 3) := by decide +kernel
theorem d_X8_number_14 : decode (mC 122) 14 = .ok (.aload_n 0, 1) := by decide +kernel
theorem d_X8_number_15 : decode (mC 122) 15 = .ok (.aload_n 0, 1) := by decide +kernel
theorem d_X8_number_16 : decode (mC 122) 16 = .ok (.getfield 55, 3) := by decide +kernel
theorem d_X8_number_19 : decode (mC 122) 19 = .ok (.invokevirtual 58, 3) := by decide +kernel
theorem d_X8_number_22 : decode (mC 122) 22 = .ok (.bipush 48, 2) := by decide +kernel
theorem d_X8_number_24 : decode (mC 122) 24 = .ok (.bipush 57, 2) := by decide +kernel
theorem d_X8_number_26 : decode (mC 122) 26 = .ok (.invokestatic 46, 3) := by decide +kernel
theorem d_X8_number_29 : decode (mC 122) 29 = .ok (.ifCond .eq 56, 3) := by decide +kernel
theorem d_X8_number_32 : decode (mC 122) 32 = .ok (.aload_n 0, 1) := by decide +kernel
theorem d_X8_number_33 : decode (mC 122) 33 = .ok (.aload_n 0, 1) := by decide +kernel
theorem d_X8_number_34 : decode (mC 122) 34 = .ok (.getfield 55, 3) := by decide +kernel
theorem d_X8_number_37 : decode (mC 122) 37 = .ok (.iload_n 3, 1) := by decide +kernel
theorem d_X8_number_38 : decode (mC 122) 38 = .ok (.isub, 1) := by decide +kernel
theorem d_X8_number_39 : decode (mC 122) 39 = .ok (.iconst 3, 1) := by decide +kernel
theorem d_X8_number_40 : decode (mC 122) 40 = .ok (.if_icmp .ge 26, 3) := by decide +kernel
theorem d_X8_number_43 : decode (mC 122) 43 = .ok (.bipush 10, 2) := by decide +kernel
theorem d_X8_number_45 : decode (mC 122) 45 = .ok (.aload_n 0, 1) := by decide +kernel
theorem d_X8_number_46 : decode (mC 122) 46 = .ok (.getfield 65, 3) := by decide +kernel
theorem d_X8_number_49 : decode (mC 122) 49 = .ok (.imul, 1) := by decide +kernel
theorem d_X8_number_50 : decode (mC 122) 50 = .ok (.aload_n 0, 1) := by decide +kernel
theorem d_X8_number_51 : decode (mC 122) 51 = .ok (.getfield 7, 3) := by decide +kernel
theorem d_X8_number_54 : decode (mC 122) 54 = .ok (.aload_n 0, 1) := by decide +kernel
theorem d_X8_number_55 : decode (mC 122) 55 = .ok (.getfield 55, 3) := by decide +kernel
theorem d_X8_number_58 : decode (mC 122) 58 = .ok (.iaload, 1) := by decide +kernel
theorem d_X8_number_59 : decode (mC 122) 59 = .ok (.iadd, 1) := by decide +kernel
theorem d_X8_number_60 : decode (mC 122) 60 = .ok (.bipush 48, 2) := by decide +kernel
theorem d_X8_number_62 : decode (mC 122) 62 = .ok (.isub, 1) := by decide +kernel
theorem d_X8_number_63 : decode (mC 122) 63 = .ok (.goto 6, 3) := by decide +kernel
theorem d_X8_number_66 : decode (mC 122) 66 = .ok (.sipush 1000, 3) := by decide +kernel
theorem d_X8_number_69 : decode (mC 122) 69 = .ok (.putfield 65, 3) := by decide +kernel
theorem d_X8_number_72 : decode (mC 122) 72 = .ok (.aload_n 0, 1) := by decide +kernel
theorem d_X8_number_73 : decode (mC 122) 73 = .ok (.dup, 1) := by decide +kernel
theorem d_X8_number_74 : decode (mC 122) 74 = .ok (.getfield 55, 3) := by decide +kernel
theorem d_X8_number_77 : decode (mC 122) 77 = .ok (.iconst 1, 1) := by decide +kernel
theorem d_X8_number_78 : decode (mC 122) 78 = .ok (.iadd, 1) := by decide +kernel
theorem d_X8_number_79 : decode (mC 122) 79 = .ok (.putfield 55, 3) := by decide +kernel
theorem d_X8_number_82 : decode (mC 122) 82 = .ok (.goto (-68), 3) := by decide +kernel
theorem d_X8_number_85 : decode (mC 122) 85 = .ok (.aload_n 0, 1) := by decide +kernel
theorem d_X8_number_86 : decode (mC 122) 86 = .ok (.getfield 55, 3) := by decide +kernel
theorem d_X8_number_89 : decode (mC 122) 89 = .ok (.iload_n 3, 1) := by decide +kernel
theorem d_X8_number_90 : decode (mC 122) 90 = .ok (.if_icmp .le 17, 3) := by decide +kernel
theorem d_X8_number_93 : decode (mC 122) 93 = .ok (.aload_n 0, 1) := by decide +kernel
theorem d_X8_number_94 : decode (mC 122) 94 = .ok (.getfield 65, 3) := by decide +kernel
theorem d_X8_number_97 : decode (mC 122) 97 = .ok (.iload_n 1, 1) := by decide +kernel
theorem d_X8_number_98 : decode (mC 122) 98 = .ok (.iload_n 2, 1) := by decide +kernel
theorem d_X8_number_99 : decode (mC 122) 99 = .ok (.invokestatic 46, 3) := by decide +kernel
theorem d_X8_number_102 : decode (mC 122) 102 = .ok (.ifCond .eq 5, 3) := by decide +kernel
theorem d_X8_number_105 : decode (mC 122) 105 = .ok (.iconst 1, 1) := by decide +kernel
theorem d_X8_number_106 : decode (mC 122) 106 = .ok (.ireturn, 1) := by decide +kernel
theorem d_X8_number_107 : decode (mC 122) 107 = .ok (.aload_n 0, 1) := by decide +kernel
theorem d_X8_number_108 : decode (mC 122) 108 = .ok (.aload_n 0, 1) := by decide +kernel
theorem d_X8_number_109 : decode (mC 122) 109 = .ok (.getfield 55, 3) := by decide +kernel
theorem d_X8_number_112 : decode (mC 122) 112 = .ok (.iload_n 3, 1) := by decide +kernel
theorem d_X8_number_113 : decode (mC 122) 113 = .ok (.if_icmp .le 7, 3) := by decide +kernel
theorem d_X8_number_116 : decode (mC 122) 116 = .ok (.iconst 2, 1) := by decide +kernel
theorem d_X8_number_117 : decode (mC 122) 117 = .ok (.goto 4, 3) := by decide +kernel
theorem d_X8_number_120 : decode (mC 122) 120 = .ok (.iconst 1, 1) := by decide +kernel
theorem d_X8_number_121 : decode (mC 122) 121 = .ok (.putfield 68, 3) := by decide +kernel
theorem d_X8_number_124 : decode (mC 122) 124 = .ok (.aload_n 0, 1) := by decide +kernel
theorem d_X8_number_125 : decode (mC 122) 125 = .ok (.iload_n 3, 1) := by decide +kernel
theorem d_X8_number_126 : decode (mC 122) 126 = .ok (.putfield 55, 3) := by decide +kernel
theorem d_X8_number_129 : decode (mC 122) 129 = .ok (.iconst 0, 1) := by decide +kernel
theorem d_X8_number_130 : decode (mC 122) 130 = .ok (.ireturn, 1) := by decide +kernel
theorem cv_122_62 : mn_cvt 122 8 62 121 = true := by decide +kernel
theorem fi_122_55 : mn_fi 122 8 55 8 10 = true := by decide +kernel
theorem fi_122_65 : mn_fi 122 8 65 8 12 = true := by decide +kernel
theorem cv_122_58 : mn_cvt 122 8 58 120 = true := by decide +kernel
theorem cs_122_46 : mn_cs 122 8 46 114 = true := by decide +kernel
theorem fr_122_7 : mn_fr 122 8 7 8 0 = true := by decide +kernel
theorem fi_122_68 : mn_fi 122 8 68 8 11 = true := by decide +kernel
theorem b_X8_number_0 {x1 x2 : Int32} {h h' : mn_H} {r : Option Value} : mn_E 122 0 [.ref 63, .int x1, .int x2, .null] [] h r h' ↔ ∃ h1, mn_X 121 [.ref 63] h none h1 ∧ mn_E 122 4 [.ref 63, .int x1, .int x2, .null] [] h1 r h' :=
  (mX_aload_n d_X8_number_0 rfl).trans <| mV_v (a := 63) (vs := []) (st' := []) d_X8_number_1 cv_122_62 rfl (Nat.le_of_ble_eq_true rfl) rfl rfl rfl rfl
theorem b_X8_number_4 {x1 x2 : Int32} {h h' : mn_H} {r : Option Value} : mn_E 122 4 [.ref 63, .int x1, .int x2, .null] [] h r h' ↔ mn_E 122 14 [.ref 63, .int x1, .int x2, .int (h 63 10)] [] (mn_up h 63 12 0) r h' :=
  (mX_aload_n d_X8_number_4 rfl).trans <| (mG_i d_X8_number_5 fi_122_55 rfl (by decide)).trans <| (mX_istore_n (ls' := [.ref 63, .int x1, .int x2, .int (h 63 10)]) d_X8_number_8 rfl rfl).trans <| (mX_aload_n d_X8_number_9 rfl).trans <| (mX_iconst d_X8_number_10 ci_0).trans <| mP_i d_X8_number_11 fi_122_65 rfl (by decide) rfl (Or.inl (by decide))
theorem b_X8_number_14 {x1 x2 x3 : Int32} {h h' : mn_H} {r : Option Value} : mn_E 122 14 [.ref 63, .int x1, .int x2, .int x3] [] h r h' ↔ ∃ x h1, mn_X 120 [.ref 63, .int (h 63 10)] h (some (.int x)) h1 ∧ mn_E 122 22 [.ref 63, .int x1, .int x2, .int x3] [.int x] h1 r h' :=
  (mX_aload_n d_X8_number_14 rfl).trans <| (mX_aload_n d_X8_number_15 rfl).trans <| (mG_i d_X8_number_16 fi_122_55 rfl (by decide)).trans <| mV_i (a := 63) (vs := [.int (h 63 10)]) (st' := []) d_X8_number_19 cv_122_58 (Or.inl rfl) (Nat.le_of_ble_eq_true rfl) rfl rfl rfl rfl
theorem b_X8_number_22 {x1 x2 x3 s0 : Int32} {h h' : mn_H} {r : Option Value} : mn_E 122 22 [.ref 63, .int x1, .int x2, .int x3] [.int s0] h r h' ↔ ∃ x h1, mn_X 114 [.int s0, .int 48, .int 57] h (some (.int x)) h1 ∧ mn_E 122 29 [.ref 63, .int x1, .int x2, .int x3] [.int x] h1 r h' :=
  (mX_bipush d_X8_number_22 cb_48).trans <| (mX_bipush d_X8_number_24 cb_57).trans <| mS_i (vs := [.int s0, .int 48, .int 57]) (st' := []) d_X8_number_26 cs_122_46 (Or.inr (Or.inl rfl)) (Nat.le_of_ble_eq_true rfl) rfl rfl rfl
theorem b_X8_number_29 {x1 x2 x3 s0 : Int32} {h h' : mn_H} {r : Option Value} : mn_E 122 29 [.ref 63, .int x1, .int x2, .int x3] [.int s0] h r h' ↔ if s0 = 0 then mn_E 122 85 [.ref 63, .int x1, .int x2, .int x3] [] h r h' else mn_E 122 32 [.ref 63, .int x1, .int x2, .int x3] [] h r h' :=
  mX_if_eq d_X8_number_29 rfl
theorem b_X8_number_32 {x1 x2 x3 : Int32} {h h' : mn_H} {r : Option Value} : mn_E 122 32 [.ref 63, .int x1, .int x2, .int x3] [] h r h' ↔ if (3 : Int32) ≤ ((h 63 10) - x3) then mn_E 122 66 [.ref 63, .int x1, .int x2, .int x3] [.ref 63] h r h' else mn_E 122 43 [.ref 63, .int x1, .int x2, .int x3] [.ref 63] h r h' :=
  (mX_aload_n d_X8_number_32 rfl).trans <| (mX_aload_n d_X8_number_33 rfl).trans <| (mG_i d_X8_number_34 fi_122_55 rfl (by decide)).trans <| (mX_iload_n d_X8_number_37 rfl).trans <| (mX_isub d_X8_number_38).trans <| (mX_iconst d_X8_number_39 ci_3).trans <| mX_icmp_ge d_X8_number_40 rfl
theorem b_X8_number_43 {x1 x2 x3 : Int32} {h h' : mn_H} {r : Option Value} (hy0 : vp_in (h 63 10) 250) : mn_E 122 43 [.ref 63, .int x1, .int x2, .int x3] [.ref 63] h r h' ↔ mn_E 122 69 [.ref 63, .int x1, .int x2, .int x3] [.int (((10 * (h 63 12)) + (h 64 (h 63 10).toNatClampNeg)) - 48), .ref 63] h r h' :=
  (mX_bipush d_X8_number_43 cb_10).trans <| (mX_aload_n d_X8_number_45 rfl).trans <| (mG_i d_X8_number_46 fi_122_65 rfl (by decide)).trans <| (mX_imul d_X8_number_49).trans <| (mX_aload_n d_X8_number_50 rfl).trans <| (mG_r (b := 64) d_X8_number_51 fr_122_7 rfl (by decide) rfl).trans <| (mX_aload_n d_X8_number_54 rfl).trans <| (mG_i d_X8_number_55 fi_122_55 rfl (by decide)).trans <| (mX_iaload d_X8_number_58 rfl (by decide) hy0).trans <| (mX_iadd d_X8_number_59).trans <| (mX_bipush d_X8_number_60 cb_48).trans <| (mX_isub d_X8_number_62).trans <| mX_goto d_X8_number_63 rfl
theorem b_X8_number_66 {x1 x2 x3 : Int32} {h h' : mn_H} {r : Option Value} : mn_E 122 66 [.ref 63, .int x1, .int x2, .int x3] [.ref 63] h r h' ↔ mn_E 122 69 [.ref 63, .int x1, .int x2, .int x3] [.int 1000, .ref 63] h r h' :=
  mX_sipush d_X8_number_66 cs_1000
theorem b_X8_number_69 {x1 x2 x3 s0 : Int32} {h h' : mn_H} {r : Option Value} : mn_E 122 69 [.ref 63, .int x1, .int x2, .int x3] [.int s0, .ref 63] h r h' ↔ mn_E 122 14 [.ref 63, .int x1, .int x2, .int x3] [] (mn_up (mn_up h 63 12 s0) 63 10 (((mn_up h 63 12 s0) 63 10) + 1)) r h' :=
  (mP_i d_X8_number_69 fi_122_65 rfl (by decide) rfl (Or.inl (by decide))).trans <| (mX_aload_n d_X8_number_72 rfl).trans <| (mX_dup d_X8_number_73 rfl).trans <| (mG_i d_X8_number_74 fi_122_55 rfl (by decide)).trans <| (mX_iconst d_X8_number_77 ci_1).trans <| (mX_iadd d_X8_number_78).trans <| (mP_i d_X8_number_79 fi_122_55 rfl (by decide) rfl (Or.inl (by decide))).trans <| mX_goto d_X8_number_82 rfl
theorem b_X8_number_85 {x1 x2 x3 : Int32} {h h' : mn_H} {r : Option Value} : mn_E 122 85 [.ref 63, .int x1, .int x2, .int x3] [] h r h' ↔ if (h 63 10) ≤ x3 then mn_E 122 107 [.ref 63, .int x1, .int x2, .int x3] [] h r h' else mn_E 122 93 [.ref 63, .int x1, .int x2, .int x3] [] h r h' :=
  (mX_aload_n d_X8_number_85 rfl).trans <| (mG_i d_X8_number_86 fi_122_55 rfl (by decide)).trans <| (mX_iload_n d_X8_number_89 rfl).trans <| mX_icmp_le d_X8_number_90 rfl
theorem b_X8_number_93 {x1 x2 x3 : Int32} {h h' : mn_H} {r : Option Value} : mn_E 122 93 [.ref 63, .int x1, .int x2, .int x3] [] h r h' ↔ ∃ x h1, mn_X 114 [.int (h 63 12), .int x1, .int x2] h (some (.int x)) h1 ∧ mn_E 122 102 [.ref 63, .int x1, .int x2, .int x3] [.int x] h1 r h' :=
  (mX_aload_n d_X8_number_93 rfl).trans <| (mG_i d_X8_number_94 fi_122_65 rfl (by decide)).trans <| (mX_iload_n d_X8_number_97 rfl).trans <| (mX_iload_n d_X8_number_98 rfl).trans <| mS_i (vs := [.int (h 63 12), .int x1, .int x2]) (st' := []) d_X8_number_99 cs_122_46 (Or.inr (Or.inl rfl)) (Nat.le_of_ble_eq_true rfl) rfl rfl rfl
theorem b_X8_number_102 {x1 x2 x3 s0 : Int32} {h h' : mn_H} {r : Option Value} : mn_E 122 102 [.ref 63, .int x1, .int x2, .int x3] [.int s0] h r h' ↔ if s0 = 0 then mn_E 122 107 [.ref 63, .int x1, .int x2, .int x3] [] h r h' else mn_E 122 105 [.ref 63, .int x1, .int x2, .int x3] [] h r h' :=
  mX_if_eq d_X8_number_102 rfl
theorem b_X8_number_105 {x1 x2 x3 : Int32} {h h' : mn_H} {r : Option Value} : mn_E 122 105 [.ref 63, .int x1, .int x2, .int x3] [] h r h' ↔ r = some (.int 1) ∧ h' = h :=
  (mX_iconst d_X8_number_105 ci_1).trans <| mX_zret d_X8_number_106 rfl (by decide)
theorem b_X8_number_107 {x1 x2 x3 : Int32} {h h' : mn_H} {r : Option Value} : mn_E 122 107 [.ref 63, .int x1, .int x2, .int x3] [] h r h' ↔ if (h 63 10) ≤ x3 then mn_E 122 120 [.ref 63, .int x1, .int x2, .int x3] [.ref 63] h r h' else mn_E 122 116 [.ref 63, .int x1, .int x2, .int x3] [.ref 63] h r h' :=
  (mX_aload_n d_X8_number_107 rfl).trans <| (mX_aload_n d_X8_number_108 rfl).trans <| (mG_i d_X8_number_109 fi_122_55 rfl (by decide)).trans <| (mX_iload_n d_X8_number_112 rfl).trans <| mX_icmp_le d_X8_number_113 rfl
theorem b_X8_number_116 {x1 x2 x3 : Int32} {h h' : mn_H} {r : Option Value} : mn_E 122 116 [.ref 63, .int x1, .int x2, .int x3] [.ref 63] h r h' ↔ mn_E 122 121 [.ref 63, .int x1, .int x2, .int x3] [.int 2, .ref 63] h r h' :=
  (mX_iconst d_X8_number_116 ci_2).trans <| mX_goto d_X8_number_117 rfl
theorem b_X8_number_120 {x1 x2 x3 : Int32} {h h' : mn_H} {r : Option Value} : mn_E 122 120 [.ref 63, .int x1, .int x2, .int x3] [.ref 63] h r h' ↔ mn_E 122 121 [.ref 63, .int x1, .int x2, .int x3] [.int 1, .ref 63] h r h' :=
  mX_iconst d_X8_number_120 ci_1
theorem b_X8_number_121 {x1 x2 x3 s0 : Int32} {h h' : mn_H} {r : Option Value} : mn_E 122 121 [.ref 63, .int x1, .int x2, .int x3] [.int s0, .ref 63] h r h' ↔ r = some (.int 0) ∧ h' = mn_up (mn_up h 63 11 s0) 63 10 x3 :=
  (mP_i d_X8_number_121 fi_122_68 rfl (by decide) rfl (Or.inl (by decide))).trans <| (mX_aload_n d_X8_number_124 rfl).trans <| (mX_iload_n d_X8_number_125 rfl).trans <| (mP_i d_X8_number_126 fi_122_55 rfl (by decide) rfl (Or.inl (by decide))).trans <| (mX_iconst d_X8_number_129 ci_0).trans <| mX_zret d_X8_number_130 rfl (by decide)
-- X8_lays
theorem mo_123 : mO 123 = 8 := rfl
theorem d_X8_lays_0 : decode (mC 123) 0 = .ok (.aload_n 0, 1) := by decide +kernel
theorem d_X8_lays_1 : decode (mC 123) 1 = .ok (.iload_n 2, 1) := by decide +kernel
theorem d_X8_lays_2 : decode (mC 123) 2 = .ok (.iload_n 3, 1) := by decide +kernel
theorem d_X8_lays_3 : decode (mC 123) 3 = .ok (.invokevirtual 71, 3) := by decide +kernel
theorem d_X8_lays_6 : decode (mC 123) 6 = .ok (.istore 4, 2) := by decide +kernel
theorem d_X8_lays_8 : decode (mC 123) 8 = .ok (.aload_n 0, 1) := by decide +kernel
theorem d_X8_lays_9 : decode (mC 123) 9 = .ok (.getfield 16, 3) := by decide +kernel
theorem d_X8_lays_12 : decode (mC 123) 12 = .ok (.iload_n 1, 1) := by decide +kernel
theorem d_X8_lays_13 : decode (mC 123) 13 = .ok (.aload_n 0, 1) := by decide +kernel
theorem d_X8_lays_14 : decode (mC 123) 14 = .ok (.getfield 65, 3) := by decide +kernel
theorem d_X8_lays_17 : decode (mC 123) 17 = .ok (.iastore, 1) := by decide +kernel
theorem d_X8_lays_18 : decode (mC 123) 18 = .ok (.iload 4, 2) := by decide +kernel
theorem d_X8_lays_20 : decode (mC 123) 20 = .ok (.ireturn, 1) := by decide +kernel
theorem cv_123_71 : mn_cvt 123 8 71 122 = true := by decide +kernel
theorem fr_123_16 : mn_fr 123 8 16 8 3 = true := by decide +kernel
theorem fi_123_65 : mn_fi 123 8 65 8 12 = true := by decide +kernel
theorem b_X8_lays_0 {x1 x2 x3 : Int32} {h h' : mn_H} {r : Option Value} : mn_E 123 0 [.ref 63, .int x1, .int x2, .int x3, .null] [] h r h' ↔ ∃ x h1, mn_X 122 [.ref 63, .int x2, .int x3] h (some (.int x)) h1 ∧ mn_E 123 6 [.ref 63, .int x1, .int x2, .int x3, .null] [.int x] h1 r h' :=
  (mX_aload_n d_X8_lays_0 rfl).trans <| (mX_iload_n d_X8_lays_1 rfl).trans <| (mX_iload_n d_X8_lays_2 rfl).trans <| mV_i (a := 63) (vs := [.int x2, .int x3]) (st' := []) d_X8_lays_3 cv_123_71 (Or.inr (Or.inl rfl)) (Nat.le_of_ble_eq_true rfl) rfl rfl rfl rfl
theorem b_X8_lays_6 {x1 x2 x3 s0 : Int32} {h h' : mn_H} {r : Option Value} (hy0 : vp_in x1 96) (hy1 : s0 = 0 ∨ s0 = 1) : mn_E 123 6 [.ref 63, .int x1, .int x2, .int x3, .null] [.int s0] h r h' ↔ r = some (.int s0) ∧ h' = mn_up h 66 (x1.toNatClampNeg) (h 63 12) :=
  (mX_istore (ls' := [.ref 63, .int x1, .int x2, .int x3, .int s0]) d_X8_lays_6 rfl rfl).trans <| (mX_aload_n d_X8_lays_8 rfl).trans <| (mG_r (b := 66) d_X8_lays_9 fr_123_16 rfl (by decide) rfl).trans <| (mX_iload_n d_X8_lays_12 rfl).trans <| (mX_aload_n d_X8_lays_13 rfl).trans <| (mG_i d_X8_lays_14 fi_123_65 rfl (by decide)).trans <| (mX_iastore d_X8_lays_17 rfl (by decide) hy0).trans <| (mX_iload d_X8_lays_18 rfl).trans <| mX_zret d_X8_lays_20 rfl hy1
-- X8_kindOf
theorem mo_124 : mO 124 = 8 := rfl
theorem d_X8_kindOf_0 : decode (mC 124) 0 = .ok (.iload_n 0, 1) := by decide +kernel
theorem d_X8_kindOf_1 : decode (mC 124) 1 = .ok (.bipush 99, 2) := by decide +kernel
theorem d_X8_kindOf_3 : decode (mC 124) 3 = .ok (.if_icmp .ne 7, 3) := by decide +kernel
theorem d_X8_kindOf_6 : decode (mC 124) 6 = .ok (.iconst 0, 1) := by decide +kernel
theorem d_X8_kindOf_7 : decode (mC 124) 7 = .ok (.goto 44, 3) := by decide +kernel
theorem d_X8_kindOf_10 : decode (mC 124) 10 = .ok (.iload_n 0, 1) := by decide +kernel
theorem d_X8_kindOf_11 : decode (mC 124) 11 = .ok (.bipush 109, 2) := by decide +kernel
theorem d_X8_kindOf_13 : decode (mC 124) 13 = .ok (.if_icmp .ne 7, 3) := by decide +kernel
theorem d_X8_kindOf_16 : decode (mC 124) 16 = .ok (.iconst 1, 1) := by decide +kernel
theorem d_X8_kindOf_17 : decode (mC 124) 17 = .ok (.goto 34, 3) := by decide +kernel
theorem d_X8_kindOf_20 : decode (mC 124) 20 = .ok (.iload_n 0, 1) := by decide +kernel
theorem d_X8_kindOf_21 : decode (mC 124) 21 = .ok (.bipush 100, 2) := by decide +kernel
theorem d_X8_kindOf_23 : decode (mC 124) 23 = .ok (.if_icmp .ne 7, 3) := by decide +kernel
theorem d_X8_kindOf_26 : decode (mC 124) 26 = .ok (.iconst 2, 1) := by decide +kernel
theorem d_X8_kindOf_27 : decode (mC 124) 27 = .ok (.goto 24, 3) := by decide +kernel
theorem d_X8_kindOf_30 : decode (mC 124) 30 = .ok (.iload_n 0, 1) := by decide +kernel
theorem d_X8_kindOf_31 : decode (mC 124) 31 = .ok (.bipush 107, 2) := by decide +kernel
theorem d_X8_kindOf_33 : decode (mC 124) 33 = .ok (.if_icmp .ne 7, 3) := by decide +kernel
theorem d_X8_kindOf_36 : decode (mC 124) 36 = .ok (.iconst 3, 1) := by decide +kernel
theorem d_X8_kindOf_37 : decode (mC 124) 37 = .ok (.goto 14, 3) := by decide +kernel
theorem d_X8_kindOf_40 : decode (mC 124) 40 = .ok (.iload_n 0, 1) := by decide +kernel
theorem d_X8_kindOf_41 : decode (mC 124) 41 = .ok (.bipush 121, 2) := by decide +kernel
theorem d_X8_kindOf_43 : decode (mC 124) 43 = .ok (.if_icmp .ne 7, 3) := by decide +kernel
theorem d_X8_kindOf_46 : decode (mC 124) 46 = .ok (.iconst 4, 1) := by decide +kernel
theorem d_X8_kindOf_47 : decode (mC 124) 47 = .ok (.goto 4, 3) := by decide +kernel
theorem d_X8_kindOf_50 : decode (mC 124) 50 = .ok (.iconst (-1), 1) := by decide +kernel
theorem d_X8_kindOf_51 : decode (mC 124) 51 = .ok (.ireturn, 1) := by decide +kernel
theorem b_X8_kindOf_0 {x0 : Int32} {h h' : mn_H} {r : Option Value} : mn_E 124 0 [.int x0] [] h r h' ↔ if ¬ x0 = 99 then mn_E 124 10 [.int x0] [] h r h' else mn_E 124 6 [.int x0] [] h r h' :=
  (mX_iload_n d_X8_kindOf_0 rfl).trans <| (mX_bipush d_X8_kindOf_1 cb_99).trans <| mX_icmp_ne d_X8_kindOf_3 rfl
theorem b_X8_kindOf_6 {x0 : Int32} {h h' : mn_H} {r : Option Value} : mn_E 124 6 [.int x0] [] h r h' ↔ mn_E 124 51 [.int x0] [.int 0] h r h' :=
  (mX_iconst d_X8_kindOf_6 ci_0).trans <| mX_goto d_X8_kindOf_7 rfl
theorem b_X8_kindOf_10 {x0 : Int32} {h h' : mn_H} {r : Option Value} : mn_E 124 10 [.int x0] [] h r h' ↔ if ¬ x0 = 109 then mn_E 124 20 [.int x0] [] h r h' else mn_E 124 16 [.int x0] [] h r h' :=
  (mX_iload_n d_X8_kindOf_10 rfl).trans <| (mX_bipush d_X8_kindOf_11 cb_109).trans <| mX_icmp_ne d_X8_kindOf_13 rfl
theorem b_X8_kindOf_16 {x0 : Int32} {h h' : mn_H} {r : Option Value} : mn_E 124 16 [.int x0] [] h r h' ↔ mn_E 124 51 [.int x0] [.int 1] h r h' :=
  (mX_iconst d_X8_kindOf_16 ci_1).trans <| mX_goto d_X8_kindOf_17 rfl
theorem b_X8_kindOf_20 {x0 : Int32} {h h' : mn_H} {r : Option Value} : mn_E 124 20 [.int x0] [] h r h' ↔ if ¬ x0 = 100 then mn_E 124 30 [.int x0] [] h r h' else mn_E 124 26 [.int x0] [] h r h' :=
  (mX_iload_n d_X8_kindOf_20 rfl).trans <| (mX_bipush d_X8_kindOf_21 cb_100).trans <| mX_icmp_ne d_X8_kindOf_23 rfl
theorem b_X8_kindOf_26 {x0 : Int32} {h h' : mn_H} {r : Option Value} : mn_E 124 26 [.int x0] [] h r h' ↔ mn_E 124 51 [.int x0] [.int 2] h r h' :=
  (mX_iconst d_X8_kindOf_26 ci_2).trans <| mX_goto d_X8_kindOf_27 rfl
theorem b_X8_kindOf_30 {x0 : Int32} {h h' : mn_H} {r : Option Value} : mn_E 124 30 [.int x0] [] h r h' ↔ if ¬ x0 = 107 then mn_E 124 40 [.int x0] [] h r h' else mn_E 124 36 [.int x0] [] h r h' :=
  (mX_iload_n d_X8_kindOf_30 rfl).trans <| (mX_bipush d_X8_kindOf_31 cb_107).trans <| mX_icmp_ne d_X8_kindOf_33 rfl
theorem b_X8_kindOf_36 {x0 : Int32} {h h' : mn_H} {r : Option Value} : mn_E 124 36 [.int x0] [] h r h' ↔ mn_E 124 51 [.int x0] [.int 3] h r h' :=
  (mX_iconst d_X8_kindOf_36 ci_3).trans <| mX_goto d_X8_kindOf_37 rfl
theorem b_X8_kindOf_40 {x0 : Int32} {h h' : mn_H} {r : Option Value} : mn_E 124 40 [.int x0] [] h r h' ↔ if ¬ x0 = 121 then mn_E 124 50 [.int x0] [] h r h' else mn_E 124 46 [.int x0] [] h r h' :=
  (mX_iload_n d_X8_kindOf_40 rfl).trans <| (mX_bipush d_X8_kindOf_41 cb_121).trans <| mX_icmp_ne d_X8_kindOf_43 rfl
theorem b_X8_kindOf_46 {x0 : Int32} {h h' : mn_H} {r : Option Value} : mn_E 124 46 [.int x0] [] h r h' ↔ mn_E 124 51 [.int x0] [.int 4] h r h' :=
  (mX_iconst d_X8_kindOf_46 ci_4).trans <| mX_goto d_X8_kindOf_47 rfl
theorem b_X8_kindOf_50 {x0 : Int32} {h h' : mn_H} {r : Option Value} : mn_E 124 50 [.int x0] [] h r h' ↔ mn_E 124 51 [.int x0] [.int (-1)] h r h' :=
  mX_iconst d_X8_kindOf_50 ci_m1
theorem b_X8_kindOf_51 {x0 s0 : Int32} {h h' : mn_H} {r : Option Value} : mn_E 124 51 [.int x0] [.int s0] h r h' ↔ r = some (.int s0) ∧ h' = h :=
  mX_iret d_X8_kindOf_51 rfl
-- X8_isRoom
theorem mo_125 : mO 125 = 8 := rfl
theorem d_X8_isRoom_0 : decode (mC 125) 0 = .ok (.aload_n 0, 1) := by decide +kernel
theorem d_X8_isRoom_1 : decode (mC 125) 1 = .ok (.getfield 16, 3) := by decide +kernel
theorem d_X8_isRoom_4 : decode (mC 125) 4 = .ok (.iload_n 1, 1) := by decide +kernel
theorem d_X8_isRoom_5 : decode (mC 125) 5 = .ok (.iaload, 1) := by decide +kernel
theorem d_X8_isRoom_6 : decode (mC 125) 6 = .ok (.iload_n 2, 1) := by decide +kernel
theorem d_X8_isRoom_7 : decode (mC 125) 7 = .ok (.if_icmp .ge 15, 3) := by decide +kernel
theorem d_X8_isRoom_10 : decode (mC 125) 10 = .ok (.aload_n 0, 1) := by decide +kernel
theorem d_X8_isRoom_11 : decode (mC 125) 11 = .ok (.dup, 1) := by decide +kernel
theorem d_X8_isRoom_12 : decode (mC 125) 12 = .ok (.getfield 55, 3) := by decide +kernel
theorem d_X8_isRoom_15 : decode (mC 125) 15 = .ok (.iconst 1, 1) := by decide +kernel
theorem d_X8_isRoom_16 : decode (mC 125) 16 = .ok (.iadd, 1) := by decide +kernel
theorem d_X8_isRoom_17 : decode (mC 125) 17 = .ok (.putfield 55, 3) := by decide +kernel
theorem d_X8_isRoom_20 : decode (mC 125) 20 = .ok (.iconst 1, 1) := by decide +kernel
theorem d_X8_isRoom_21 : decode (mC 125) 21 = .ok (.ireturn, 1) := by decide +kernel
theorem d_X8_isRoom_22 : decode (mC 125) 22 = .ok (.aload_n 0, 1) := by decide +kernel
theorem d_X8_isRoom_23 : decode (mC 125) 23 = .ok (.iconst 3, 1) := by decide +kernel
theorem d_X8_isRoom_24 : decode (mC 125) 24 = .ok (.putfield 68, 3) := by decide +kernel
theorem d_X8_isRoom_27 : decode (mC 125) 27 = .ok (.iconst 0, 1) := by decide +kernel
theorem d_X8_isRoom_28 : decode (mC 125) 28 = .ok (.ireturn, 1) := by decide +kernel
theorem fr_125_16 : mn_fr 125 8 16 8 3 = true := by decide +kernel
theorem fi_125_55 : mn_fi 125 8 55 8 10 = true := by decide +kernel
theorem fi_125_68 : mn_fi 125 8 68 8 11 = true := by decide +kernel
theorem b_X8_isRoom_0 {x1 x2 : Int32} {h h' : mn_H} {r : Option Value} (hy0 : vp_in x1 96) : mn_E 125 0 [.ref 63, .int x1, .int x2] [] h r h' ↔ if x2 ≤ (h 66 x1.toNatClampNeg) then mn_E 125 22 [.ref 63, .int x1, .int x2] [] h r h' else mn_E 125 10 [.ref 63, .int x1, .int x2] [] h r h' :=
  (mX_aload_n d_X8_isRoom_0 rfl).trans <| (mG_r (b := 66) d_X8_isRoom_1 fr_125_16 rfl (by decide) rfl).trans <| (mX_iload_n d_X8_isRoom_4 rfl).trans <| (mX_iaload d_X8_isRoom_5 rfl (by decide) hy0).trans <| (mX_iload_n d_X8_isRoom_6 rfl).trans <| mX_icmp_ge d_X8_isRoom_7 rfl
theorem b_X8_isRoom_10 {x1 x2 : Int32} {h h' : mn_H} {r : Option Value} : mn_E 125 10 [.ref 63, .int x1, .int x2] [] h r h' ↔ r = some (.int 1) ∧ h' = mn_up h 63 10 ((h 63 10) + 1) :=
  (mX_aload_n d_X8_isRoom_10 rfl).trans <| (mX_dup d_X8_isRoom_11 rfl).trans <| (mG_i d_X8_isRoom_12 fi_125_55 rfl (by decide)).trans <| (mX_iconst d_X8_isRoom_15 ci_1).trans <| (mX_iadd d_X8_isRoom_16).trans <| (mP_i d_X8_isRoom_17 fi_125_55 rfl (by decide) rfl (Or.inl (by decide))).trans <| (mX_iconst d_X8_isRoom_20 ci_1).trans <| mX_zret d_X8_isRoom_21 rfl (by decide)
theorem b_X8_isRoom_22 {x1 x2 : Int32} {h h' : mn_H} {r : Option Value} : mn_E 125 22 [.ref 63, .int x1, .int x2] [] h r h' ↔ r = some (.int 0) ∧ h' = mn_up h 63 11 3 :=
  (mX_aload_n d_X8_isRoom_22 rfl).trans <| (mX_iconst d_X8_isRoom_23 ci_3).trans <| (mP_i d_X8_isRoom_24 fi_125_68 rfl (by decide) rfl (Or.inl (by decide))).trans <| (mX_iconst d_X8_isRoom_27 ci_0).trans <| mX_zret d_X8_isRoom_28 rfl (by decide)
-- X8_readsBell
theorem mo_126 : mO 126 = 8 := rfl
theorem d_X8_readsBell_0 : decode (mC 126) 0 = .ok (.aload_n 0, 1) := by decide +kernel
theorem d_X8_readsBell_1 : decode (mC 126) 1 = .ok (.iconst 0, 1) := by decide +kernel
theorem d_X8_readsBell_2 : decode (mC 126) 2 = .ok (.iconst 5, 1) := by decide +kernel
theorem d_X8_readsBell_3 : decode (mC 126) 3 = .ok (.invokevirtual 75, 3) := by decide +kernel
theorem d_X8_readsBell_6 : decode (mC 126) 6 = .ok (.ifCond .ne 5, 3) := by decide +kernel
theorem d_X8_readsBell_9 : decode (mC 126) 9 = .ok (.iconst 0, 1) := by decide +kernel
theorem d_X8_readsBell_10 : decode (mC 126) 10 = .ok (.ireturn, 1) := by decide +kernel
theorem d_X8_readsBell_11 : decode (mC 126) 11 = .ok (.iconst 5, 1) := by decide +kernel
theorem d_X8_readsBell_12 : decode (mC 126) 12 = .ok (.iconst 3, 1) := by decide +kernel
theorem d_X8_readsBell_13 : decode (mC 126) 13 = .ok (.aload_n 0, 1) := by decide +kernel
theorem d_X8_readsBell_14 : decode (mC 126) 14 = .ok (.getfield 16, 3) := by decide +kernel
theorem d_X8_readsBell_17 : decode (mC 126) 17 = .ok (.iconst 0, 1) := by decide +kernel
theorem d_X8_readsBell_18 : decode (mC 126) 18 = .ok (.iaload, 1) := by decide +kernel
theorem d_X8_readsBell_19 : decode (mC 126) 19 = .ok (.imul, 1) := by decide +kernel
theorem d_X8_readsBell_20 : decode (mC 126) 20 = .ok (.iadd, 1) := by decide +kernel
theorem d_X8_readsBell_21 : decode (mC 126) 21 = .ok (.istore_n 1, 1) := by decide +kernel
theorem d_X8_readsBell_22 : decode (mC 126) 22 = .ok (.aload_n 0, 1) := by decide +kernel
theorem d_X8_readsBell_23 : decode (mC 126) 23 = .ok (.invokevirtual 62, 3) := by decide +kernel
theorem d_X8_readsBell_26 : decode (mC 126) 26 = .ok (.aload_n 0, 1) := by decide +kernel
theorem d_X8_readsBell_27 : decode (mC 126) 27 = .ok (.getfield 16, 3) := by decide +kernel
theorem d_X8_readsBell_30 : decode (mC 126) 30 = .ok (.iload_n 1, 1) := by decide +kernel
theorem d_X8_readsBell_31 : decode (mC 126) 31 = .ok (.aload_n 0, 1) := by decide +kernel
theorem d_X8_readsBell_32 : decode (mC 126) 32 = .ok (.aload_n 0, 1) := by decide +kernel
theorem d_X8_readsBell_33 : decode (mC 126) 33 = .ok (.getfield 55, 3) := by decide +kernel
theorem d_X8_readsBell_36 : decode (mC 126) 36 = .ok (.invokevirtual 58, 3) := by decide +kernel
theorem d_X8_readsBell_39 : decode (mC 126) 39 = .ok (.invokestatic 78, 3) := by decide +kernel
theorem d_X8_readsBell_42 : decode (mC 126) 42 = .ok (.iastore, 1) := by decide +kernel
theorem d_X8_readsBell_43 : decode (mC 126) 43 = .ok (.aload_n 0, 1) := by decide +kernel
theorem d_X8_readsBell_44 : decode (mC 126) 44 = .ok (.getfield 16, 3) := by decide +kernel
theorem d_X8_readsBell_47 : decode (mC 126) 47 = .ok (.iload_n 1, 1) := by decide +kernel
theorem d_X8_readsBell_48 : decode (mC 126) 48 = .ok (.iaload, 1) := by decide +kernel
theorem d_X8_readsBell_49 : decode (mC 126) 49 = .ok (.iconst (-1), 1) := by decide +kernel
theorem d_X8_readsBell_50 : decode (mC 126) 50 = .ok (.if_icmp .ne 10, 3) := by decide +kernel
theorem d_X8_readsBell_53 : decode (mC 126) 53 = .ok (.aload_n 0, 1) := by decide +kernel
theorem d_X8_readsBell_54 : decode (mC 126) 54 = .ok (.iconst 1, 1) := by decide +kernel
theorem d_X8_readsBell_55 : decode (mC 126) 55 = .ok (.putfield 68, 3) := by decide +kernel
theorem d_X8_readsBell_58 : decode (mC 126) 58 = .ok (.iconst 0, 1) := by decide +kernel
theorem d_X8_readsBell_59 : decode (mC 126) 59 = .ok (.ireturn, 1) := by decide +kernel
theorem d_X8_readsBell_60 : decode (mC 126) 60 = .ok (.aload_n 0, 1) := by decide +kernel
theorem d_X8_readsBell_61 : decode (mC 126) 61 = .ok (.dup, 1) := by decide +kernel
theorem d_X8_readsBell_62 : decode (mC 126) 62 = .ok (.getfield 55, 3) := by decide +kernel
theorem d_X8_readsBell_65 : decode (mC 126) 65 = .ok (.iconst 1, 1) := by decide +kernel
theorem d_X8_readsBell_66 : decode (mC 126) 66 = .ok (.iadd, 1) := by decide +kernel
theorem d_X8_readsBell_67 : decode (mC 126) 67 = .ok (.putfield 55, 3) := by decide +kernel
theorem d_X8_readsBell_70 : decode (mC 126) 70 = .ok (.aload_n 0, 1) := by decide +kernel
theorem d_X8_readsBell_71 : decode (mC 126) 71 = .ok (.iload_n 1, 1) := by decide +kernel
theorem d_X8_readsBell_72 : decode (mC 126) 72 = .ok (.iconst 1, 1) := by decide +kernel
theorem d_X8_readsBell_73 : decode (mC 126) 73 = .ok (.iadd, 1) := by decide +kernel
theorem d_X8_readsBell_74 : decode (mC 126) 74 = .ok (.iconst 0, 1) := by decide +kernel
theorem d_X8_readsBell_75 : decode (mC 126) 75 = .ok (.iconst 5, 1) := by decide +kernel
theorem d_X8_readsBell_76 : decode (mC 126) 76 = .ok (.invokevirtual 81, 3) := by decide +kernel
theorem d_X8_readsBell_79 : decode (mC 126) 79 = .ok (.ifCond .eq 15, 3) := by decide +kernel
theorem d_X8_readsBell_82 : decode (mC 126) 82 = .ok (.aload_n 0, 1) := by decide +kernel
theorem d_X8_readsBell_83 : decode (mC 126) 83 = .ok (.iload_n 1, 1) := by decide +kernel
theorem d_X8_readsBell_84 : decode (mC 126) 84 = .ok (.iconst 2, 1) := by decide +kernel
theorem d_X8_readsBell_85 : decode (mC 126) 85 = .ok (.iadd, 1) := by decide +kernel
theorem d_X8_readsBell_86 : decode (mC 126) 86 = .ok (.iconst 0, 1) := by decide +kernel
theorem d_X8_readsBell_87 : decode (mC 126) 87 = .ok (.iconst 5, 1) := by decide +kernel
theorem d_X8_readsBell_88 : decode (mC 126) 88 = .ok (.invokevirtual 81, 3) := by decide +kernel
theorem d_X8_readsBell_91 : decode (mC 126) 91 = .ok (.ifCond .ne 5, 3) := by decide +kernel
theorem d_X8_readsBell_94 : decode (mC 126) 94 = .ok (.iconst 0, 1) := by decide +kernel
theorem d_X8_readsBell_95 : decode (mC 126) 95 = .ok (.ireturn, 1) := by decide +kernel
theorem d_X8_readsBell_96 : decode (mC 126) 96 = .ok (.aload_n 0, 1) := by decide +kernel
theorem d_X8_readsBell_97 : decode (mC 126) 97 = .ok (.getfield 16, 3) := by decide +kernel
theorem d_X8_readsBell_100 : decode (mC 126) 100 = .ok (.iconst 0, 1) := by decide +kernel
theorem d_X8_readsBell_101 : decode (mC 126) 101 = .ok (.dup2, 1) := by decide +kernel
theorem d_X8_readsBell_102 : decode (mC 126) 102 = .ok (.iaload, 1) := by decide +kernel
theorem d_X8_readsBell_103 : decode (mC 126) 103 = .ok (.iconst 1, 1) := by decide +kernel
theorem d_X8_readsBell_104 : decode (mC 126) 104 = .ok (.iadd, 1) := by decide +kernel
theorem d_X8_readsBell_105 : decode (mC 126) 105 = .ok (.iastore, 1) := by decide +kernel
theorem d_X8_readsBell_106 : decode (mC 126) 106 = .ok (.iconst 1, 1) := by decide +kernel
theorem d_X8_readsBell_107 : decode (mC 126) 107 = .ok (.ireturn, 1) := by decide +kernel
theorem cv_126_75 : mn_cvt 126 8 75 125 = true := by decide +kernel
theorem fr_126_16 : mn_fr 126 8 16 8 3 = true := by decide +kernel
theorem cv_126_62 : mn_cvt 126 8 62 121 = true := by decide +kernel
theorem fi_126_55 : mn_fi 126 8 55 8 10 = true := by decide +kernel
theorem cv_126_58 : mn_cvt 126 8 58 120 = true := by decide +kernel
theorem cs_126_78 : mn_cs 126 8 78 124 = true := by decide +kernel
theorem fi_126_68 : mn_fi 126 8 68 8 11 = true := by decide +kernel
theorem cv_126_81 : mn_cvt 126 8 81 123 = true := by decide +kernel
theorem b_X8_readsBell_0 {h h' : mn_H} {r : Option Value} : mn_E 126 0 [.ref 63, .null] [] h r h' ↔ ∃ x h1, mn_X 125 [.ref 63, .int 0, .int 5] h (some (.int x)) h1 ∧ mn_E 126 6 [.ref 63, .null] [.int x] h1 r h' :=
  (mX_aload_n d_X8_readsBell_0 rfl).trans <| (mX_iconst d_X8_readsBell_1 ci_0).trans <| (mX_iconst d_X8_readsBell_2 ci_5).trans <| mV_i (a := 63) (vs := [.int 0, .int 5]) (st' := []) d_X8_readsBell_3 cv_126_75 (Or.inr (Or.inl rfl)) (Nat.le_of_ble_eq_true rfl) rfl rfl rfl rfl
theorem b_X8_readsBell_6 {s0 : Int32} {h h' : mn_H} {r : Option Value} : mn_E 126 6 [.ref 63, .null] [.int s0] h r h' ↔ if ¬ s0 = 0 then mn_E 126 11 [.ref 63, .null] [] h r h' else mn_E 126 9 [.ref 63, .null] [] h r h' :=
  mX_if_ne d_X8_readsBell_6 rfl
theorem b_X8_readsBell_9 {h h' : mn_H} {r : Option Value} : mn_E 126 9 [.ref 63, .null] [] h r h' ↔ r = some (.int 0) ∧ h' = h :=
  (mX_iconst d_X8_readsBell_9 ci_0).trans <| mX_zret d_X8_readsBell_10 rfl (by decide)
theorem b_X8_readsBell_11 {h h' : mn_H} {r : Option Value} : mn_E 126 11 [.ref 63, .null] [] h r h' ↔ ∃ h1, mn_X 121 [.ref 63] h none h1 ∧ mn_E 126 26 [.ref 63, .int (5 + (3 * (h 66 (0 : Int32).toNatClampNeg)))] [] h1 r h' :=
  (mX_iconst d_X8_readsBell_11 ci_5).trans <| (mX_iconst d_X8_readsBell_12 ci_3).trans <| (mX_aload_n d_X8_readsBell_13 rfl).trans <| (mG_r (b := 66) d_X8_readsBell_14 fr_126_16 rfl (by decide) rfl).trans <| (mX_iconst d_X8_readsBell_17 ci_0).trans <| (mX_iaload d_X8_readsBell_18 rfl (by decide) (mn_in_iff (by decide +kernel))).trans <| (mX_imul d_X8_readsBell_19).trans <| (mX_iadd d_X8_readsBell_20).trans <| (mX_istore_n (ls' := [.ref 63, .int (5 + (3 * (h 66 (0 : Int32).toNatClampNeg)))]) d_X8_readsBell_21 rfl rfl).trans <| (mX_aload_n d_X8_readsBell_22 rfl).trans <| mV_v (a := 63) (vs := []) (st' := []) d_X8_readsBell_23 cv_126_62 rfl (Nat.le_of_ble_eq_true rfl) rfl rfl rfl rfl
theorem b_X8_readsBell_26 {x1 : Int32} {h h' : mn_H} {r : Option Value} : mn_E 126 26 [.ref 63, .int x1] [] h r h' ↔ ∃ x h1, mn_X 120 [.ref 63, .int (h 63 10)] h (some (.int x)) h1 ∧ mn_E 126 39 [.ref 63, .int x1] [.int x, .int x1, .ref 66] h1 r h' :=
  (mX_aload_n d_X8_readsBell_26 rfl).trans <| (mG_r (b := 66) d_X8_readsBell_27 fr_126_16 rfl (by decide) rfl).trans <| (mX_iload_n d_X8_readsBell_30 rfl).trans <| (mX_aload_n d_X8_readsBell_31 rfl).trans <| (mX_aload_n d_X8_readsBell_32 rfl).trans <| (mG_i d_X8_readsBell_33 fi_126_55 rfl (by decide)).trans <| mV_i (a := 63) (vs := [.int (h 63 10)]) (st' := [.int x1, .ref 66]) d_X8_readsBell_36 cv_126_58 (Or.inl rfl) (Nat.le_of_ble_eq_true rfl) rfl rfl rfl rfl
theorem b_X8_readsBell_39 {x1 s0 s1 : Int32} {h h' : mn_H} {r : Option Value} : mn_E 126 39 [.ref 63, .int x1] [.int s0, .int s1, .ref 66] h r h' ↔ ∃ x h1, mn_X 124 [.int s0] h (some (.int x)) h1 ∧ mn_E 126 42 [.ref 63, .int x1] [.int x, .int s1, .ref 66] h1 r h' :=
  mS_i (vs := [.int s0]) (st' := [.int s1, .ref 66]) d_X8_readsBell_39 cs_126_78 (Or.inl rfl) (Nat.le_of_ble_eq_true rfl) rfl rfl rfl
theorem b_X8_readsBell_42 {x1 s0 s1 : Int32} {h h' : mn_H} {r : Option Value} (hy0 : vp_in s1 96) (hy1 : vp_in x1 96) : mn_E 126 42 [.ref 63, .int x1] [.int s0, .int s1, .ref 66] h r h' ↔ if ¬ ((mn_up h 66 (s1.toNatClampNeg) s0) 66 x1.toNatClampNeg) = (-1) then mn_E 126 60 [.ref 63, .int x1] [] (mn_up h 66 (s1.toNatClampNeg) s0) r h' else mn_E 126 53 [.ref 63, .int x1] [] (mn_up h 66 (s1.toNatClampNeg) s0) r h' :=
  (mX_iastore d_X8_readsBell_42 rfl (by decide) hy0).trans <| (mX_aload_n d_X8_readsBell_43 rfl).trans <| (mG_r (b := 66) d_X8_readsBell_44 fr_126_16 rfl (by decide) rfl).trans <| (mX_iload_n d_X8_readsBell_47 rfl).trans <| (mX_iaload d_X8_readsBell_48 rfl (by decide) hy1).trans <| (mX_iconst d_X8_readsBell_49 ci_m1).trans <| mX_icmp_ne d_X8_readsBell_50 rfl
theorem b_X8_readsBell_53 {x1 : Int32} {h h' : mn_H} {r : Option Value} : mn_E 126 53 [.ref 63, .int x1] [] h r h' ↔ r = some (.int 0) ∧ h' = mn_up h 63 11 1 :=
  (mX_aload_n d_X8_readsBell_53 rfl).trans <| (mX_iconst d_X8_readsBell_54 ci_1).trans <| (mP_i d_X8_readsBell_55 fi_126_68 rfl (by decide) rfl (Or.inl (by decide))).trans <| (mX_iconst d_X8_readsBell_58 ci_0).trans <| mX_zret d_X8_readsBell_59 rfl (by decide)
theorem b_X8_readsBell_60 {x1 : Int32} {h h' : mn_H} {r : Option Value} : mn_E 126 60 [.ref 63, .int x1] [] h r h' ↔ ∃ x h1, mn_X 123 [.ref 63, .int (x1 + 1), .int 0, .int 5] (mn_up h 63 10 ((h 63 10) + 1)) (some (.int x)) h1 ∧ mn_E 126 79 [.ref 63, .int x1] [.int x] h1 r h' :=
  (mX_aload_n d_X8_readsBell_60 rfl).trans <| (mX_dup d_X8_readsBell_61 rfl).trans <| (mG_i d_X8_readsBell_62 fi_126_55 rfl (by decide)).trans <| (mX_iconst d_X8_readsBell_65 ci_1).trans <| (mX_iadd d_X8_readsBell_66).trans <| (mP_i d_X8_readsBell_67 fi_126_55 rfl (by decide) rfl (Or.inl (by decide))).trans <| (mX_aload_n d_X8_readsBell_70 rfl).trans <| (mX_iload_n d_X8_readsBell_71 rfl).trans <| (mX_iconst d_X8_readsBell_72 ci_1).trans <| (mX_iadd d_X8_readsBell_73).trans <| (mX_iconst d_X8_readsBell_74 ci_0).trans <| (mX_iconst d_X8_readsBell_75 ci_5).trans <| mV_i (a := 63) (vs := [.int (x1 + 1), .int 0, .int 5]) (st' := []) d_X8_readsBell_76 cv_126_81 (Or.inr (Or.inl rfl)) (Nat.le_of_ble_eq_true rfl) rfl rfl rfl rfl
theorem b_X8_readsBell_79 {x1 s0 : Int32} {h h' : mn_H} {r : Option Value} : mn_E 126 79 [.ref 63, .int x1] [.int s0] h r h' ↔ if s0 = 0 then mn_E 126 94 [.ref 63, .int x1] [] h r h' else mn_E 126 82 [.ref 63, .int x1] [] h r h' :=
  mX_if_eq d_X8_readsBell_79 rfl
theorem b_X8_readsBell_82 {x1 : Int32} {h h' : mn_H} {r : Option Value} : mn_E 126 82 [.ref 63, .int x1] [] h r h' ↔ ∃ x h1, mn_X 123 [.ref 63, .int (x1 + 2), .int 0, .int 5] h (some (.int x)) h1 ∧ mn_E 126 91 [.ref 63, .int x1] [.int x] h1 r h' :=
  (mX_aload_n d_X8_readsBell_82 rfl).trans <| (mX_iload_n d_X8_readsBell_83 rfl).trans <| (mX_iconst d_X8_readsBell_84 ci_2).trans <| (mX_iadd d_X8_readsBell_85).trans <| (mX_iconst d_X8_readsBell_86 ci_0).trans <| (mX_iconst d_X8_readsBell_87 ci_5).trans <| mV_i (a := 63) (vs := [.int (x1 + 2), .int 0, .int 5]) (st' := []) d_X8_readsBell_88 cv_126_81 (Or.inr (Or.inl rfl)) (Nat.le_of_ble_eq_true rfl) rfl rfl rfl rfl
theorem b_X8_readsBell_91 {x1 s0 : Int32} {h h' : mn_H} {r : Option Value} : mn_E 126 91 [.ref 63, .int x1] [.int s0] h r h' ↔ if ¬ s0 = 0 then mn_E 126 96 [.ref 63, .int x1] [] h r h' else mn_E 126 94 [.ref 63, .int x1] [] h r h' :=
  mX_if_ne d_X8_readsBell_91 rfl
theorem b_X8_readsBell_94 {x1 : Int32} {h h' : mn_H} {r : Option Value} : mn_E 126 94 [.ref 63, .int x1] [] h r h' ↔ r = some (.int 0) ∧ h' = h :=
  (mX_iconst d_X8_readsBell_94 ci_0).trans <| mX_zret d_X8_readsBell_95 rfl (by decide)
theorem b_X8_readsBell_96 {x1 : Int32} {h h' : mn_H} {r : Option Value} : mn_E 126 96 [.ref 63, .int x1] [] h r h' ↔ r = some (.int 1) ∧ h' = mn_up h 66 ((0 : Int32).toNatClampNeg) ((h 66 (0 : Int32).toNatClampNeg) + 1) :=
  (mX_aload_n d_X8_readsBell_96 rfl).trans <| (mG_r (b := 66) d_X8_readsBell_97 fr_126_16 rfl (by decide) rfl).trans <| (mX_iconst d_X8_readsBell_100 ci_0).trans <| (mX_dup2 d_X8_readsBell_101 ⟨rfl, rfl⟩).trans <| (mX_iaload d_X8_readsBell_102 rfl (by decide) (mn_in_iff (by decide +kernel))).trans <| (mX_iconst d_X8_readsBell_103 ci_1).trans <| (mX_iadd d_X8_readsBell_104).trans <| (mX_iastore d_X8_readsBell_105 rfl (by decide) (mn_in_iff (by decide +kernel))).trans <| (mX_iconst d_X8_readsBell_106 ci_1).trans <| mX_zret d_X8_readsBell_107 rfl (by decide)
-- X8_readsGroup
theorem mo_127 : mO 127 = 8 := rfl
theorem d_X8_readsGroup_0 : decode (mC 127) 0 = .ok (.aload_n 0, 1) := by decide +kernel
theorem d_X8_readsGroup_1 : decode (mC 127) 1 = .ok (.iconst 1, 1) := by decide +kernel
theorem d_X8_readsGroup_2 : decode (mC 127) 2 = .ok (.bipush 6, 2) := by decide +kernel
theorem d_X8_readsGroup_4 : decode (mC 127) 4 = .ok (.invokevirtual 75, 3) := by decide +kernel
theorem d_X8_readsGroup_7 : decode (mC 127) 7 = .ok (.ifCond .ne 5, 3) := by decide +kernel
theorem d_X8_readsGroup_10 : decode (mC 127) 10 = .ok (.iconst 0, 1) := by decide +kernel
theorem d_X8_readsGroup_11 : decode (mC 127) 11 = .ok (.ireturn, 1) := by decide +kernel
theorem d_X8_readsGroup_12 : decode (mC 127) 12 = .ok (.bipush 20, 2) := by decide +kernel
theorem d_X8_readsGroup_14 : decode (mC 127) 14 = .ok (.iconst 4, 1) := by decide +kernel
theorem d_X8_readsGroup_15 : decode (mC 127) 15 = .ok (.aload_n 0, 1) := by decide +kernel
theorem d_X8_readsGroup_16 : decode (mC 127) 16 = .ok (.getfield 16, 3) := by decide +kernel
theorem d_X8_readsGroup_19 : decode (mC 127) 19 = .ok (.iconst 1, 1) := by decide +kernel
theorem d_X8_readsGroup_20 : decode (mC 127) 20 = .ok (.iaload, 1) := by decide +kernel
theorem d_X8_readsGroup_21 : decode (mC 127) 21 = .ok (.imul, 1) := by decide +kernel
theorem d_X8_readsGroup_22 : decode (mC 127) 22 = .ok (.iadd, 1) := by decide +kernel
theorem d_X8_readsGroup_23 : decode (mC 127) 23 = .ok (.istore_n 1, 1) := by decide +kernel
theorem d_X8_readsGroup_24 : decode (mC 127) 24 = .ok (.aload_n 0, 1) := by decide +kernel
theorem d_X8_readsGroup_25 : decode (mC 127) 25 = .ok (.iload_n 1, 1) := by decide +kernel
theorem d_X8_readsGroup_26 : decode (mC 127) 26 = .ok (.iconst 1, 1) := by decide +kernel
theorem d_X8_readsGroup_27 : decode (mC 127) 27 = .ok (.bipush 99, 2) := by decide +kernel
theorem d_X8_readsGroup_29 : decode (mC 127) 29 = .ok (.invokevirtual 81, 3) := by decide +kernel
theorem d_X8_readsGroup_32 : decode (mC 127) 32 = .ok (.ifCond .eq 48, 3) := by decide +kernel
theorem d_X8_readsGroup_35 : decode (mC 127) 35 = .ok (.aload_n 0, 1) := by decide +kernel
theorem d_X8_readsGroup_36 : decode (mC 127) 36 = .ok (.iload_n 1, 1) := by decide +kernel
theorem d_X8_readsGroup_37 : decode (mC 127) 37 = .ok (.iconst 1, 1) := by decide +kernel
theorem d_X8_readsGroup_38 : decode (mC 127) 38 = .ok (.iadd, 1) := by decide +kernel
theorem d_X8_readsGroup_39 : decode (mC 127) 39 = .ok (.iconst 0, 1) := by decide +kernel
theorem d_X8_readsGroup_40 : decode (mC 127) 40 = .ok (.aload_n 0, 1) := by decide +kernel
theorem d_X8_readsGroup_41 : decode (mC 127) 41 = .ok (.getfield 16, 3) := by decide +kernel
theorem d_X8_readsGroup_44 : decode (mC 127) 44 = .ok (.iconst 0, 1) := by decide +kernel
theorem d_X8_readsGroup_45 : decode (mC 127) 45 = .ok (.iaload, 1) := by decide +kernel
theorem d_X8_readsGroup_46 : decode (mC 127) 46 = .ok (.iconst 1, 1) := by decide +kernel
theorem d_X8_readsGroup_47 : decode (mC 127) 47 = .ok (.isub, 1) := by decide +kernel
theorem d_X8_readsGroup_48 : decode (mC 127) 48 = .ok (.invokevirtual 81, 3) := by decide +kernel
theorem d_X8_readsGroup_51 : decode (mC 127) 51 = .ok (.ifCond .eq 29, 3) := by decide +kernel
theorem d_X8_readsGroup_54 : decode (mC 127) 54 = .ok (.aload_n 0, 1) := by decide +kernel
theorem d_X8_readsGroup_55 : decode (mC 127) 55 = .ok (.iload_n 1, 1) := by decide +kernel
theorem d_X8_readsGroup_56 : decode (mC 127) 56 = .ok (.iconst 2, 1) := by decide +kernel
theorem d_X8_readsGroup_57 : decode (mC 127) 57 = .ok (.iadd, 1) := by decide +kernel
theorem d_X8_readsGroup_58 : decode (mC 127) 58 = .ok (.iconst 0, 1) := by decide +kernel
theorem d_X8_readsGroup_59 : decode (mC 127) 59 = .ok (.bipush 6, 2) := by decide +kernel
theorem d_X8_readsGroup_61 : decode (mC 127) 61 = .ok (.invokevirtual 81, 3) := by decide +kernel
theorem d_X8_readsGroup_64 : decode (mC 127) 64 = .ok (.ifCond .eq 16, 3) := by decide +kernel
theorem d_X8_readsGroup_67 : decode (mC 127) 67 = .ok (.aload_n 0, 1) := by decide +kernel
theorem d_X8_readsGroup_68 : decode (mC 127) 68 = .ok (.iload_n 1, 1) := by decide +kernel
theorem d_X8_readsGroup_69 : decode (mC 127) 69 = .ok (.iconst 3, 1) := by decide +kernel
theorem d_X8_readsGroup_70 : decode (mC 127) 70 = .ok (.iadd, 1) := by decide +kernel
theorem d_X8_readsGroup_71 : decode (mC 127) 71 = .ok (.iconst 0, 1) := by decide +kernel
theorem d_X8_readsGroup_72 : decode (mC 127) 72 = .ok (.bipush 6, 2) := by decide +kernel
theorem d_X8_readsGroup_74 : decode (mC 127) 74 = .ok (.invokevirtual 81, 3) := by decide +kernel
theorem d_X8_readsGroup_77 : decode (mC 127) 77 = .ok (.ifCond .ne 5, 3) := by decide +kernel
theorem d_X8_readsGroup_80 : decode (mC 127) 80 = .ok (.iconst 0, 1) := by decide +kernel
theorem d_X8_readsGroup_81 : decode (mC 127) 81 = .ok (.ireturn, 1) := by decide +kernel
theorem d_X8_readsGroup_82 : decode (mC 127) 82 = .ok (.aload_n 0, 1) := by decide +kernel
theorem d_X8_readsGroup_83 : decode (mC 127) 83 = .ok (.getfield 16, 3) := by decide +kernel
theorem d_X8_readsGroup_86 : decode (mC 127) 86 = .ok (.iconst 1, 1) := by decide +kernel
theorem d_X8_readsGroup_87 : decode (mC 127) 87 = .ok (.dup2, 1) := by decide +kernel
theorem d_X8_readsGroup_88 : decode (mC 127) 88 = .ok (.iaload, 1) := by decide +kernel
theorem d_X8_readsGroup_89 : decode (mC 127) 89 = .ok (.iconst 1, 1) := by decide +kernel
theorem d_X8_readsGroup_90 : decode (mC 127) 90 = .ok (.iadd, 1) := by decide +kernel
theorem d_X8_readsGroup_91 : decode (mC 127) 91 = .ok (.iastore, 1) := by decide +kernel
theorem d_X8_readsGroup_92 : decode (mC 127) 92 = .ok (.iconst 1, 1) := by decide +kernel
theorem d_X8_readsGroup_93 : decode (mC 127) 93 = .ok (.ireturn, 1) := by decide +kernel
theorem cv_127_75 : mn_cvt 127 8 75 125 = true := by decide +kernel
theorem fr_127_16 : mn_fr 127 8 16 8 3 = true := by decide +kernel
theorem cv_127_81 : mn_cvt 127 8 81 123 = true := by decide +kernel
theorem b_X8_readsGroup_0 {h h' : mn_H} {r : Option Value} : mn_E 127 0 [.ref 63, .null] [] h r h' ↔ ∃ x h1, mn_X 125 [.ref 63, .int 1, .int 6] h (some (.int x)) h1 ∧ mn_E 127 7 [.ref 63, .null] [.int x] h1 r h' :=
  (mX_aload_n d_X8_readsGroup_0 rfl).trans <| (mX_iconst d_X8_readsGroup_1 ci_1).trans <| (mX_bipush d_X8_readsGroup_2 cb_6).trans <| mV_i (a := 63) (vs := [.int 1, .int 6]) (st' := []) d_X8_readsGroup_4 cv_127_75 (Or.inr (Or.inl rfl)) (Nat.le_of_ble_eq_true rfl) rfl rfl rfl rfl
theorem b_X8_readsGroup_7 {s0 : Int32} {h h' : mn_H} {r : Option Value} : mn_E 127 7 [.ref 63, .null] [.int s0] h r h' ↔ if ¬ s0 = 0 then mn_E 127 12 [.ref 63, .null] [] h r h' else mn_E 127 10 [.ref 63, .null] [] h r h' :=
  mX_if_ne d_X8_readsGroup_7 rfl
theorem b_X8_readsGroup_10 {h h' : mn_H} {r : Option Value} : mn_E 127 10 [.ref 63, .null] [] h r h' ↔ r = some (.int 0) ∧ h' = h :=
  (mX_iconst d_X8_readsGroup_10 ci_0).trans <| mX_zret d_X8_readsGroup_11 rfl (by decide)
theorem b_X8_readsGroup_12 {h h' : mn_H} {r : Option Value} : mn_E 127 12 [.ref 63, .null] [] h r h' ↔ ∃ x h1, mn_X 123 [.ref 63, .int (20 + (4 * (h 66 (1 : Int32).toNatClampNeg))), .int 1, .int 99] h (some (.int x)) h1 ∧ mn_E 127 32 [.ref 63, .int (20 + (4 * (h 66 (1 : Int32).toNatClampNeg)))] [.int x] h1 r h' :=
  (mX_bipush d_X8_readsGroup_12 cb_20).trans <| (mX_iconst d_X8_readsGroup_14 ci_4).trans <| (mX_aload_n d_X8_readsGroup_15 rfl).trans <| (mG_r (b := 66) d_X8_readsGroup_16 fr_127_16 rfl (by decide) rfl).trans <| (mX_iconst d_X8_readsGroup_19 ci_1).trans <| (mX_iaload d_X8_readsGroup_20 rfl (by decide) (mn_in_iff (by decide +kernel))).trans <| (mX_imul d_X8_readsGroup_21).trans <| (mX_iadd d_X8_readsGroup_22).trans <| (mX_istore_n (ls' := [.ref 63, .int (20 + (4 * (h 66 (1 : Int32).toNatClampNeg)))]) d_X8_readsGroup_23 rfl rfl).trans <| (mX_aload_n d_X8_readsGroup_24 rfl).trans <| (mX_iload_n d_X8_readsGroup_25 rfl).trans <| (mX_iconst d_X8_readsGroup_26 ci_1).trans <| (mX_bipush d_X8_readsGroup_27 cb_99).trans <| mV_i (a := 63) (vs := [.int (20 + (4 * (h 66 (1 : Int32).toNatClampNeg))), .int 1, .int 99]) (st' := []) d_X8_readsGroup_29 cv_127_81 (Or.inr (Or.inl rfl)) (Nat.le_of_ble_eq_true rfl) rfl rfl rfl rfl
theorem b_X8_readsGroup_32 {x1 s0 : Int32} {h h' : mn_H} {r : Option Value} : mn_E 127 32 [.ref 63, .int x1] [.int s0] h r h' ↔ if s0 = 0 then mn_E 127 80 [.ref 63, .int x1] [] h r h' else mn_E 127 35 [.ref 63, .int x1] [] h r h' :=
  mX_if_eq d_X8_readsGroup_32 rfl
theorem b_X8_readsGroup_35 {x1 : Int32} {h h' : mn_H} {r : Option Value} : mn_E 127 35 [.ref 63, .int x1] [] h r h' ↔ ∃ x h1, mn_X 123 [.ref 63, .int (x1 + 1), .int 0, .int ((h 66 (0 : Int32).toNatClampNeg) - 1)] h (some (.int x)) h1 ∧ mn_E 127 51 [.ref 63, .int x1] [.int x] h1 r h' :=
  (mX_aload_n d_X8_readsGroup_35 rfl).trans <| (mX_iload_n d_X8_readsGroup_36 rfl).trans <| (mX_iconst d_X8_readsGroup_37 ci_1).trans <| (mX_iadd d_X8_readsGroup_38).trans <| (mX_iconst d_X8_readsGroup_39 ci_0).trans <| (mX_aload_n d_X8_readsGroup_40 rfl).trans <| (mG_r (b := 66) d_X8_readsGroup_41 fr_127_16 rfl (by decide) rfl).trans <| (mX_iconst d_X8_readsGroup_44 ci_0).trans <| (mX_iaload d_X8_readsGroup_45 rfl (by decide) (mn_in_iff (by decide +kernel))).trans <| (mX_iconst d_X8_readsGroup_46 ci_1).trans <| (mX_isub d_X8_readsGroup_47).trans <| mV_i (a := 63) (vs := [.int (x1 + 1), .int 0, .int ((h 66 (0 : Int32).toNatClampNeg) - 1)]) (st' := []) d_X8_readsGroup_48 cv_127_81 (Or.inr (Or.inl rfl)) (Nat.le_of_ble_eq_true rfl) rfl rfl rfl rfl
theorem b_X8_readsGroup_51 {x1 s0 : Int32} {h h' : mn_H} {r : Option Value} : mn_E 127 51 [.ref 63, .int x1] [.int s0] h r h' ↔ if s0 = 0 then mn_E 127 80 [.ref 63, .int x1] [] h r h' else mn_E 127 54 [.ref 63, .int x1] [] h r h' :=
  mX_if_eq d_X8_readsGroup_51 rfl
theorem b_X8_readsGroup_54 {x1 : Int32} {h h' : mn_H} {r : Option Value} : mn_E 127 54 [.ref 63, .int x1] [] h r h' ↔ ∃ x h1, mn_X 123 [.ref 63, .int (x1 + 2), .int 0, .int 6] h (some (.int x)) h1 ∧ mn_E 127 64 [.ref 63, .int x1] [.int x] h1 r h' :=
  (mX_aload_n d_X8_readsGroup_54 rfl).trans <| (mX_iload_n d_X8_readsGroup_55 rfl).trans <| (mX_iconst d_X8_readsGroup_56 ci_2).trans <| (mX_iadd d_X8_readsGroup_57).trans <| (mX_iconst d_X8_readsGroup_58 ci_0).trans <| (mX_bipush d_X8_readsGroup_59 cb_6).trans <| mV_i (a := 63) (vs := [.int (x1 + 2), .int 0, .int 6]) (st' := []) d_X8_readsGroup_61 cv_127_81 (Or.inr (Or.inl rfl)) (Nat.le_of_ble_eq_true rfl) rfl rfl rfl rfl
theorem b_X8_readsGroup_64 {x1 s0 : Int32} {h h' : mn_H} {r : Option Value} : mn_E 127 64 [.ref 63, .int x1] [.int s0] h r h' ↔ if s0 = 0 then mn_E 127 80 [.ref 63, .int x1] [] h r h' else mn_E 127 67 [.ref 63, .int x1] [] h r h' :=
  mX_if_eq d_X8_readsGroup_64 rfl
theorem b_X8_readsGroup_67 {x1 : Int32} {h h' : mn_H} {r : Option Value} : mn_E 127 67 [.ref 63, .int x1] [] h r h' ↔ ∃ x h1, mn_X 123 [.ref 63, .int (x1 + 3), .int 0, .int 6] h (some (.int x)) h1 ∧ mn_E 127 77 [.ref 63, .int x1] [.int x] h1 r h' :=
  (mX_aload_n d_X8_readsGroup_67 rfl).trans <| (mX_iload_n d_X8_readsGroup_68 rfl).trans <| (mX_iconst d_X8_readsGroup_69 ci_3).trans <| (mX_iadd d_X8_readsGroup_70).trans <| (mX_iconst d_X8_readsGroup_71 ci_0).trans <| (mX_bipush d_X8_readsGroup_72 cb_6).trans <| mV_i (a := 63) (vs := [.int (x1 + 3), .int 0, .int 6]) (st' := []) d_X8_readsGroup_74 cv_127_81 (Or.inr (Or.inl rfl)) (Nat.le_of_ble_eq_true rfl) rfl rfl rfl rfl
theorem b_X8_readsGroup_77 {x1 s0 : Int32} {h h' : mn_H} {r : Option Value} : mn_E 127 77 [.ref 63, .int x1] [.int s0] h r h' ↔ if ¬ s0 = 0 then mn_E 127 82 [.ref 63, .int x1] [] h r h' else mn_E 127 80 [.ref 63, .int x1] [] h r h' :=
  mX_if_ne d_X8_readsGroup_77 rfl
theorem b_X8_readsGroup_80 {x1 : Int32} {h h' : mn_H} {r : Option Value} : mn_E 127 80 [.ref 63, .int x1] [] h r h' ↔ r = some (.int 0) ∧ h' = h :=
  (mX_iconst d_X8_readsGroup_80 ci_0).trans <| mX_zret d_X8_readsGroup_81 rfl (by decide)
theorem b_X8_readsGroup_82 {x1 : Int32} {h h' : mn_H} {r : Option Value} : mn_E 127 82 [.ref 63, .int x1] [] h r h' ↔ r = some (.int 1) ∧ h' = mn_up h 66 ((1 : Int32).toNatClampNeg) ((h 66 (1 : Int32).toNatClampNeg) + 1) :=
  (mX_aload_n d_X8_readsGroup_82 rfl).trans <| (mG_r (b := 66) d_X8_readsGroup_83 fr_127_16 rfl (by decide) rfl).trans <| (mX_iconst d_X8_readsGroup_86 ci_1).trans <| (mX_dup2 d_X8_readsGroup_87 ⟨rfl, rfl⟩).trans <| (mX_iaload d_X8_readsGroup_88 rfl (by decide) (mn_in_iff (by decide +kernel))).trans <| (mX_iconst d_X8_readsGroup_89 ci_1).trans <| (mX_iadd d_X8_readsGroup_90).trans <| (mX_iastore d_X8_readsGroup_91 rfl (by decide) (mn_in_iff (by decide +kernel))).trans <| (mX_iconst d_X8_readsGroup_92 ci_1).trans <| mX_zret d_X8_readsGroup_93 rfl (by decide)
-- X8_readsThree
theorem mo_128 : mO 128 = 8 := rfl
theorem d_X8_readsThree_0 : decode (mC 128) 0 = .ok (.aload_n 0, 1) := by decide +kernel
theorem d_X8_readsThree_1 : decode (mC 128) 1 = .ok (.iload_n 1, 1) := by decide +kernel
theorem d_X8_readsThree_2 : decode (mC 128) 2 = .ok (.iload_n 2, 1) := by decide +kernel
theorem d_X8_readsThree_3 : decode (mC 128) 3 = .ok (.invokevirtual 75, 3) := by decide +kernel
theorem d_X8_readsThree_6 : decode (mC 128) 6 = .ok (.ifCond .ne 5, 3) := by decide +kernel
theorem d_X8_readsThree_9 : decode (mC 128) 9 = .ok (.iconst 0, 1) := by decide +kernel
theorem d_X8_readsThree_10 : decode (mC 128) 10 = .ok (.ireturn, 1) := by decide +kernel
theorem d_X8_readsThree_11 : decode (mC 128) 11 = .ok (.iload_n 3, 1) := by decide +kernel
theorem d_X8_readsThree_12 : decode (mC 128) 12 = .ok (.iconst 3, 1) := by decide +kernel
theorem d_X8_readsThree_13 : decode (mC 128) 13 = .ok (.aload_n 0, 1) := by decide +kernel
theorem d_X8_readsThree_14 : decode (mC 128) 14 = .ok (.getfield 16, 3) := by decide +kernel
theorem d_X8_readsThree_17 : decode (mC 128) 17 = .ok (.iload_n 1, 1) := by decide +kernel
theorem d_X8_readsThree_18 : decode (mC 128) 18 = .ok (.iaload, 1) := by decide +kernel
theorem d_X8_readsThree_19 : decode (mC 128) 19 = .ok (.imul, 1) := by decide +kernel
theorem d_X8_readsThree_20 : decode (mC 128) 20 = .ok (.iadd, 1) := by decide +kernel
theorem d_X8_readsThree_21 : decode (mC 128) 21 = .ok (.istore 8, 2) := by decide +kernel
theorem d_X8_readsThree_23 : decode (mC 128) 23 = .ok (.aload_n 0, 1) := by decide +kernel
theorem d_X8_readsThree_24 : decode (mC 128) 24 = .ok (.iload 8, 2) := by decide +kernel
theorem d_X8_readsThree_26 : decode (mC 128) 26 = .ok (.iconst 0, 1) := by decide +kernel
theorem d_X8_readsThree_27 : decode (mC 128) 27 = .ok (.iconst 5, 1) := by decide +kernel
theorem d_X8_readsThree_28 : decode (mC 128) 28 = .ok (.invokevirtual 81, 3) := by decide +kernel
theorem d_X8_readsThree_31 : decode (mC 128) 31 = .ok (.ifCond .eq 33, 3) := by decide +kernel
theorem d_X8_readsThree_34 : decode (mC 128) 34 = .ok (.aload_n 0, 1) := by decide +kernel
theorem d_X8_readsThree_35 : decode (mC 128) 35 = .ok (.iload 8, 2) := by decide +kernel
theorem d_X8_readsThree_37 : decode (mC 128) 37 = .ok (.iconst 1, 1) := by decide +kernel
theorem d_X8_readsThree_38 : decode (mC 128) 38 = .ok (.iadd, 1) := by decide +kernel
theorem d_X8_readsThree_39 : decode (mC 128) 39 = .ok (.iload 4, 2) := by decide +kernel
theorem d_X8_readsThree_41 : decode (mC 128) 41 = .ok (.iload 5, 2) := by decide +kernel
theorem d_X8_readsThree_43 : decode (mC 128) 43 = .ok (.invokevirtual 81, 3) := by decide +kernel
theorem d_X8_readsThree_46 : decode (mC 128) 46 = .ok (.ifCond .eq 18, 3) := by decide +kernel
theorem d_X8_readsThree_49 : decode (mC 128) 49 = .ok (.aload_n 0, 1) := by decide +kernel
theorem d_X8_readsThree_50 : decode (mC 128) 50 = .ok (.iload 8, 2) := by decide +kernel
theorem d_X8_readsThree_52 : decode (mC 128) 52 = .ok (.iconst 2, 1) := by decide +kernel
theorem d_X8_readsThree_53 : decode (mC 128) 53 = .ok (.iadd, 1) := by decide +kernel
theorem d_X8_readsThree_54 : decode (mC 128) 54 = .ok (.iload 6, 2) := by decide +kernel
theorem d_X8_readsThree_56 : decode (mC 128) 56 = .ok (.iload 7, 2) := by decide +kernel
theorem d_X8_readsThree_58 : decode (mC 128) 58 = .ok (.invokevirtual 81, 3) := by decide +kernel
theorem d_X8_readsThree_61 : decode (mC 128) 61 = .ok (.ifCond .ne 5, 3) := by decide +kernel
theorem d_X8_readsThree_64 : decode (mC 128) 64 = .ok (.iconst 0, 1) := by decide +kernel
theorem d_X8_readsThree_65 : decode (mC 128) 65 = .ok (.ireturn, 1) := by decide +kernel
theorem d_X8_readsThree_66 : decode (mC 128) 66 = .ok (.aload_n 0, 1) := by decide +kernel
theorem d_X8_readsThree_67 : decode (mC 128) 67 = .ok (.getfield 16, 3) := by decide +kernel
theorem d_X8_readsThree_70 : decode (mC 128) 70 = .ok (.iload_n 1, 1) := by decide +kernel
theorem d_X8_readsThree_71 : decode (mC 128) 71 = .ok (.dup2, 1) := by decide +kernel
theorem d_X8_readsThree_72 : decode (mC 128) 72 = .ok (.iaload, 1) := by decide +kernel
theorem d_X8_readsThree_73 : decode (mC 128) 73 = .ok (.iconst 1, 1) := by decide +kernel
theorem d_X8_readsThree_74 : decode (mC 128) 74 = .ok (.iadd, 1) := by decide +kernel
theorem d_X8_readsThree_75 : decode (mC 128) 75 = .ok (.iastore, 1) := by decide +kernel
theorem d_X8_readsThree_76 : decode (mC 128) 76 = .ok (.iconst 1, 1) := by decide +kernel
theorem d_X8_readsThree_77 : decode (mC 128) 77 = .ok (.ireturn, 1) := by decide +kernel
theorem cv_128_75 : mn_cvt 128 8 75 125 = true := by decide +kernel
theorem fr_128_16 : mn_fr 128 8 16 8 3 = true := by decide +kernel
theorem cv_128_81 : mn_cvt 128 8 81 123 = true := by decide +kernel
theorem b_X8_readsThree_0 {x1 x2 x3 x4 x5 x6 x7 : Int32} {h h' : mn_H} {r : Option Value} : mn_E 128 0 [.ref 63, .int x1, .int x2, .int x3, .int x4, .int x5, .int x6, .int x7, .null] [] h r h' ↔ ∃ x h1, mn_X 125 [.ref 63, .int x1, .int x2] h (some (.int x)) h1 ∧ mn_E 128 6 [.ref 63, .int x1, .int x2, .int x3, .int x4, .int x5, .int x6, .int x7, .null] [.int x] h1 r h' :=
  (mX_aload_n d_X8_readsThree_0 rfl).trans <| (mX_iload_n d_X8_readsThree_1 rfl).trans <| (mX_iload_n d_X8_readsThree_2 rfl).trans <| mV_i (a := 63) (vs := [.int x1, .int x2]) (st' := []) d_X8_readsThree_3 cv_128_75 (Or.inr (Or.inl rfl)) (Nat.le_of_ble_eq_true rfl) rfl rfl rfl rfl
theorem b_X8_readsThree_6 {x1 x2 x3 x4 x5 x6 x7 s0 : Int32} {h h' : mn_H} {r : Option Value} : mn_E 128 6 [.ref 63, .int x1, .int x2, .int x3, .int x4, .int x5, .int x6, .int x7, .null] [.int s0] h r h' ↔ if ¬ s0 = 0 then mn_E 128 11 [.ref 63, .int x1, .int x2, .int x3, .int x4, .int x5, .int x6, .int x7, .null] [] h r h' else mn_E 128 9 [.ref 63, .int x1, .int x2, .int x3, .int x4, .int x5, .int x6, .int x7, .null] [] h r h' :=
  mX_if_ne d_X8_readsThree_6 rfl
theorem b_X8_readsThree_9 {x1 x2 x3 x4 x5 x6 x7 : Int32} {h h' : mn_H} {r : Option Value} : mn_E 128 9 [.ref 63, .int x1, .int x2, .int x3, .int x4, .int x5, .int x6, .int x7, .null] [] h r h' ↔ r = some (.int 0) ∧ h' = h :=
  (mX_iconst d_X8_readsThree_9 ci_0).trans <| mX_zret d_X8_readsThree_10 rfl (by decide)
theorem b_X8_readsThree_11 {x1 x2 x3 x4 x5 x6 x7 : Int32} {h h' : mn_H} {r : Option Value} (hy0 : vp_in x1 96) : mn_E 128 11 [.ref 63, .int x1, .int x2, .int x3, .int x4, .int x5, .int x6, .int x7, .null] [] h r h' ↔ ∃ x h1, mn_X 123 [.ref 63, .int (x3 + (3 * (h 66 x1.toNatClampNeg))), .int 0, .int 5] h (some (.int x)) h1 ∧ mn_E 128 31 [.ref 63, .int x1, .int x2, .int x3, .int x4, .int x5, .int x6, .int x7, .int (x3 + (3 * (h 66 x1.toNatClampNeg)))] [.int x] h1 r h' :=
  (mX_iload_n d_X8_readsThree_11 rfl).trans <| (mX_iconst d_X8_readsThree_12 ci_3).trans <| (mX_aload_n d_X8_readsThree_13 rfl).trans <| (mG_r (b := 66) d_X8_readsThree_14 fr_128_16 rfl (by decide) rfl).trans <| (mX_iload_n d_X8_readsThree_17 rfl).trans <| (mX_iaload d_X8_readsThree_18 rfl (by decide) hy0).trans <| (mX_imul d_X8_readsThree_19).trans <| (mX_iadd d_X8_readsThree_20).trans <| (mX_istore (ls' := [.ref 63, .int x1, .int x2, .int x3, .int x4, .int x5, .int x6, .int x7, .int (x3 + (3 * (h 66 x1.toNatClampNeg)))]) d_X8_readsThree_21 rfl rfl).trans <| (mX_aload_n d_X8_readsThree_23 rfl).trans <| (mX_iload d_X8_readsThree_24 rfl).trans <| (mX_iconst d_X8_readsThree_26 ci_0).trans <| (mX_iconst d_X8_readsThree_27 ci_5).trans <| mV_i (a := 63) (vs := [.int (x3 + (3 * (h 66 x1.toNatClampNeg))), .int 0, .int 5]) (st' := []) d_X8_readsThree_28 cv_128_81 (Or.inr (Or.inl rfl)) (Nat.le_of_ble_eq_true rfl) rfl rfl rfl rfl
theorem b_X8_readsThree_31 {x1 x2 x3 x4 x5 x6 x7 x8 s0 : Int32} {h h' : mn_H} {r : Option Value} : mn_E 128 31 [.ref 63, .int x1, .int x2, .int x3, .int x4, .int x5, .int x6, .int x7, .int x8] [.int s0] h r h' ↔ if s0 = 0 then mn_E 128 64 [.ref 63, .int x1, .int x2, .int x3, .int x4, .int x5, .int x6, .int x7, .int x8] [] h r h' else mn_E 128 34 [.ref 63, .int x1, .int x2, .int x3, .int x4, .int x5, .int x6, .int x7, .int x8] [] h r h' :=
  mX_if_eq d_X8_readsThree_31 rfl
theorem b_X8_readsThree_34 {x1 x2 x3 x4 x5 x6 x7 x8 : Int32} {h h' : mn_H} {r : Option Value} : mn_E 128 34 [.ref 63, .int x1, .int x2, .int x3, .int x4, .int x5, .int x6, .int x7, .int x8] [] h r h' ↔ ∃ x h1, mn_X 123 [.ref 63, .int (x8 + 1), .int x4, .int x5] h (some (.int x)) h1 ∧ mn_E 128 46 [.ref 63, .int x1, .int x2, .int x3, .int x4, .int x5, .int x6, .int x7, .int x8] [.int x] h1 r h' :=
  (mX_aload_n d_X8_readsThree_34 rfl).trans <| (mX_iload d_X8_readsThree_35 rfl).trans <| (mX_iconst d_X8_readsThree_37 ci_1).trans <| (mX_iadd d_X8_readsThree_38).trans <| (mX_iload d_X8_readsThree_39 rfl).trans <| (mX_iload d_X8_readsThree_41 rfl).trans <| mV_i (a := 63) (vs := [.int (x8 + 1), .int x4, .int x5]) (st' := []) d_X8_readsThree_43 cv_128_81 (Or.inr (Or.inl rfl)) (Nat.le_of_ble_eq_true rfl) rfl rfl rfl rfl
theorem b_X8_readsThree_46 {x1 x2 x3 x4 x5 x6 x7 x8 s0 : Int32} {h h' : mn_H} {r : Option Value} : mn_E 128 46 [.ref 63, .int x1, .int x2, .int x3, .int x4, .int x5, .int x6, .int x7, .int x8] [.int s0] h r h' ↔ if s0 = 0 then mn_E 128 64 [.ref 63, .int x1, .int x2, .int x3, .int x4, .int x5, .int x6, .int x7, .int x8] [] h r h' else mn_E 128 49 [.ref 63, .int x1, .int x2, .int x3, .int x4, .int x5, .int x6, .int x7, .int x8] [] h r h' :=
  mX_if_eq d_X8_readsThree_46 rfl
theorem b_X8_readsThree_49 {x1 x2 x3 x4 x5 x6 x7 x8 : Int32} {h h' : mn_H} {r : Option Value} : mn_E 128 49 [.ref 63, .int x1, .int x2, .int x3, .int x4, .int x5, .int x6, .int x7, .int x8] [] h r h' ↔ ∃ x h1, mn_X 123 [.ref 63, .int (x8 + 2), .int x6, .int x7] h (some (.int x)) h1 ∧ mn_E 128 61 [.ref 63, .int x1, .int x2, .int x3, .int x4, .int x5, .int x6, .int x7, .int x8] [.int x] h1 r h' :=
  (mX_aload_n d_X8_readsThree_49 rfl).trans <| (mX_iload d_X8_readsThree_50 rfl).trans <| (mX_iconst d_X8_readsThree_52 ci_2).trans <| (mX_iadd d_X8_readsThree_53).trans <| (mX_iload d_X8_readsThree_54 rfl).trans <| (mX_iload d_X8_readsThree_56 rfl).trans <| mV_i (a := 63) (vs := [.int (x8 + 2), .int x6, .int x7]) (st' := []) d_X8_readsThree_58 cv_128_81 (Or.inr (Or.inl rfl)) (Nat.le_of_ble_eq_true rfl) rfl rfl rfl rfl
theorem b_X8_readsThree_61 {x1 x2 x3 x4 x5 x6 x7 x8 s0 : Int32} {h h' : mn_H} {r : Option Value} : mn_E 128 61 [.ref 63, .int x1, .int x2, .int x3, .int x4, .int x5, .int x6, .int x7, .int x8] [.int s0] h r h' ↔ if ¬ s0 = 0 then mn_E 128 66 [.ref 63, .int x1, .int x2, .int x3, .int x4, .int x5, .int x6, .int x7, .int x8] [] h r h' else mn_E 128 64 [.ref 63, .int x1, .int x2, .int x3, .int x4, .int x5, .int x6, .int x7, .int x8] [] h r h' :=
  mX_if_ne d_X8_readsThree_61 rfl
theorem b_X8_readsThree_64 {x1 x2 x3 x4 x5 x6 x7 x8 : Int32} {h h' : mn_H} {r : Option Value} : mn_E 128 64 [.ref 63, .int x1, .int x2, .int x3, .int x4, .int x5, .int x6, .int x7, .int x8] [] h r h' ↔ r = some (.int 0) ∧ h' = h :=
  (mX_iconst d_X8_readsThree_64 ci_0).trans <| mX_zret d_X8_readsThree_65 rfl (by decide)
theorem b_X8_readsThree_66 {x1 x2 x3 x4 x5 x6 x7 x8 : Int32} {h h' : mn_H} {r : Option Value} (hy0 : vp_in x1 96) : mn_E 128 66 [.ref 63, .int x1, .int x2, .int x3, .int x4, .int x5, .int x6, .int x7, .int x8] [] h r h' ↔ r = some (.int 1) ∧ h' = mn_up h 66 (x1.toNatClampNeg) ((h 66 x1.toNatClampNeg) + 1) :=
  (mX_aload_n d_X8_readsThree_66 rfl).trans <| (mG_r (b := 66) d_X8_readsThree_67 fr_128_16 rfl (by decide) rfl).trans <| (mX_iload_n d_X8_readsThree_70 rfl).trans <| (mX_dup2 d_X8_readsThree_71 ⟨rfl, rfl⟩).trans <| (mX_iaload d_X8_readsThree_72 rfl (by decide) hy0).trans <| (mX_iconst d_X8_readsThree_73 ci_1).trans <| (mX_iadd d_X8_readsThree_74).trans <| (mX_iastore d_X8_readsThree_75 rfl (by decide) hy0).trans <| (mX_iconst d_X8_readsThree_76 ci_1).trans <| mX_zret d_X8_readsThree_77 rfl (by decide)
-- X8_readsHarm
theorem mo_129 : mO 129 = 8 := rfl
theorem d_X8_readsHarm_0 : decode (mC 129) 0 = .ok (.aload_n 0, 1) := by decide +kernel
theorem d_X8_readsHarm_1 : decode (mC 129) 1 = .ok (.dup, 1) := by decide +kernel
theorem d_X8_readsHarm_2 : decode (mC 129) 2 = .ok (.getfield 55, 3) := by decide +kernel
theorem d_X8_readsHarm_5 : decode (mC 129) 5 = .ok (.iconst 1, 1) := by decide +kernel
theorem d_X8_readsHarm_6 : decode (mC 129) 6 = .ok (.iadd, 1) := by decide +kernel
theorem d_X8_readsHarm_7 : decode (mC 129) 7 = .ok (.putfield 55, 3) := by decide +kernel
theorem d_X8_readsHarm_10 : decode (mC 129) 10 = .ok (.aload_n 0, 1) := by decide +kernel
theorem d_X8_readsHarm_11 : decode (mC 129) 11 = .ok (.invokevirtual 62, 3) := by decide +kernel
theorem d_X8_readsHarm_14 : decode (mC 129) 14 = .ok (.aload_n 0, 1) := by decide +kernel
theorem d_X8_readsHarm_15 : decode (mC 129) 15 = .ok (.getfield 55, 3) := by decide +kernel
theorem d_X8_readsHarm_18 : decode (mC 129) 18 = .ok (.istore_n 1, 1) := by decide +kernel
theorem d_X8_readsHarm_19 : decode (mC 129) 19 = .ok (.aload_n 0, 1) := by decide +kernel
theorem d_X8_readsHarm_20 : decode (mC 129) 20 = .ok (.iconst 0, 1) := by decide +kernel
theorem d_X8_readsHarm_21 : decode (mC 129) 21 = .ok (.iconst 5, 1) := by decide +kernel
theorem d_X8_readsHarm_22 : decode (mC 129) 22 = .ok (.invokevirtual 71, 3) := by decide +kernel
theorem d_X8_readsHarm_25 : decode (mC 129) 25 = .ok (.ifCond .ne 5, 3) := by decide +kernel
theorem d_X8_readsHarm_28 : decode (mC 129) 28 = .ok (.iconst 0, 1) := by decide +kernel
theorem d_X8_readsHarm_29 : decode (mC 129) 29 = .ok (.ireturn, 1) := by decide +kernel
theorem d_X8_readsHarm_30 : decode (mC 129) 30 = .ok (.aload_n 0, 1) := by decide +kernel
theorem d_X8_readsHarm_31 : decode (mC 129) 31 = .ok (.getfield 65, 3) := by decide +kernel
theorem d_X8_readsHarm_34 : decode (mC 129) 34 = .ok (.istore_n 2, 1) := by decide +kernel
theorem d_X8_readsHarm_35 : decode (mC 129) 35 = .ok (.aload_n 0, 1) := by decide +kernel
theorem d_X8_readsHarm_36 : decode (mC 129) 36 = .ok (.getfield 16, 3) := by decide +kernel
theorem d_X8_readsHarm_39 : decode (mC 129) 39 = .ok (.bipush 95, 2) := by decide +kernel
theorem d_X8_readsHarm_41 : decode (mC 129) 41 = .ok (.iaload, 1) := by decide +kernel
theorem d_X8_readsHarm_42 : decode (mC 129) 42 = .ok (.iload_n 2, 1) := by decide +kernel
theorem d_X8_readsHarm_43 : decode (mC 129) 43 = .ok (.ishr, 1) := by decide +kernel
theorem d_X8_readsHarm_44 : decode (mC 129) 44 = .ok (.iconst 1, 1) := by decide +kernel
theorem d_X8_readsHarm_45 : decode (mC 129) 45 = .ok (.iand, 1) := by decide +kernel
theorem d_X8_readsHarm_46 : decode (mC 129) 46 = .ok (.iconst 1, 1) := by decide +kernel
theorem d_X8_readsHarm_47 : decode (mC 129) 47 = .ok (.if_icmp .ne 15, 3) := by decide +kernel
theorem d_X8_readsHarm_50 : decode (mC 129) 50 = .ok (.aload_n 0, 1) := by decide +kernel
theorem d_X8_readsHarm_51 : decode (mC 129) 51 = .ok (.iload_n 1, 1) := by decide +kernel
theorem d_X8_readsHarm_52 : decode (mC 129) 52 = .ok (.putfield 55, 3) := by decide +kernel
theorem d_X8_readsHarm_55 : decode (mC 129) 55 = .ok (.aload_n 0, 1) := by decide +kernel
theorem d_X8_readsHarm_56 : decode (mC 129) 56 = .ok (.iconst 4, 1) := by decide +kernel
theorem d_X8_readsHarm_57 : decode (mC 129) 57 = .ok (.putfield 68, 3) := by decide +kernel
theorem d_X8_readsHarm_60 : decode (mC 129) 60 = .ok (.iconst 0, 1) := by decide +kernel
theorem d_X8_readsHarm_61 : decode (mC 129) 61 = .ok (.ireturn, 1) := by decide +kernel
theorem d_X8_readsHarm_62 : decode (mC 129) 62 = .ok (.aload_n 0, 1) := by decide +kernel
theorem d_X8_readsHarm_63 : decode (mC 129) 63 = .ok (.getfield 16, 3) := by decide +kernel
theorem d_X8_readsHarm_66 : decode (mC 129) 66 = .ok (.bipush 95, 2) := by decide +kernel
theorem d_X8_readsHarm_68 : decode (mC 129) 68 = .ok (.dup2, 1) := by decide +kernel
theorem d_X8_readsHarm_69 : decode (mC 129) 69 = .ok (.iaload, 1) := by decide +kernel
theorem d_X8_readsHarm_70 : decode (mC 129) 70 = .ok (.iconst 1, 1) := by decide +kernel
theorem d_X8_readsHarm_71 : decode (mC 129) 71 = .ok (.iload_n 2, 1) := by decide +kernel
theorem d_X8_readsHarm_72 : decode (mC 129) 72 = .ok (.ishl, 1) := by decide +kernel
theorem d_X8_readsHarm_73 : decode (mC 129) 73 = .ok (.ior, 1) := by decide +kernel
theorem d_X8_readsHarm_74 : decode (mC 129) 74 = .ok (.iastore, 1) := by decide +kernel
theorem d_X8_readsHarm_75 : decode (mC 129) 75 = .ok (.aload_n 0, 1) := by decide +kernel
theorem d_X8_readsHarm_76 : decode (mC 129) 76 = .ok (.iconst 0, 1) := by decide +kernel
theorem d_X8_readsHarm_77 : decode (mC 129) 77 = .ok (.bipush 99, 2) := by decide +kernel
theorem d_X8_readsHarm_79 : decode (mC 129) 79 = .ok (.invokevirtual 71, 3) := by decide +kernel
theorem d_X8_readsHarm_82 : decode (mC 129) 82 = .ok (.istore_n 3, 1) := by decide +kernel
theorem d_X8_readsHarm_83 : decode (mC 129) 83 = .ok (.aload_n 0, 1) := by decide +kernel
theorem d_X8_readsHarm_84 : decode (mC 129) 84 = .ok (.getfield 16, 3) := by decide +kernel
theorem d_X8_readsHarm_87 : decode (mC 129) 87 = .ok (.bipush 89, 2) := by decide +kernel
theorem d_X8_readsHarm_89 : decode (mC 129) 89 = .ok (.iload_n 2, 1) := by decide +kernel
theorem d_X8_readsHarm_90 : decode (mC 129) 90 = .ok (.iadd, 1) := by decide +kernel
theorem d_X8_readsHarm_91 : decode (mC 129) 91 = .ok (.aload_n 0, 1) := by decide +kernel
theorem d_X8_readsHarm_92 : decode (mC 129) 92 = .ok (.getfield 65, 3) := by decide +kernel
theorem d_X8_readsHarm_95 : decode (mC 129) 95 = .ok (.bipush 50, 2) := by decide +kernel
theorem d_X8_readsHarm_97 : decode (mC 129) 97 = .ok (.isub, 1) := by decide +kernel
theorem d_X8_readsHarm_98 : decode (mC 129) 98 = .ok (.iastore, 1) := by decide +kernel
theorem d_X8_readsHarm_99 : decode (mC 129) 99 = .ok (.iload_n 3, 1) := by decide +kernel
theorem d_X8_readsHarm_100 : decode (mC 129) 100 = .ok (.ireturn, 1) := by decide +kernel
theorem fi_129_55 : mn_fi 129 8 55 8 10 = true := by decide +kernel
theorem cv_129_62 : mn_cvt 129 8 62 121 = true := by decide +kernel
theorem cv_129_71 : mn_cvt 129 8 71 122 = true := by decide +kernel
theorem fi_129_65 : mn_fi 129 8 65 8 12 = true := by decide +kernel
theorem fr_129_16 : mn_fr 129 8 16 8 3 = true := by decide +kernel
theorem fi_129_68 : mn_fi 129 8 68 8 11 = true := by decide +kernel
theorem b_X8_readsHarm_0 {h h' : mn_H} {r : Option Value} : mn_E 129 0 [.ref 63, .null, .null, .null] [] h r h' ↔ ∃ h1, mn_X 121 [.ref 63] (mn_up h 63 10 ((h 63 10) + 1)) none h1 ∧ mn_E 129 14 [.ref 63, .null, .null, .null] [] h1 r h' :=
  (mX_aload_n d_X8_readsHarm_0 rfl).trans <| (mX_dup d_X8_readsHarm_1 rfl).trans <| (mG_i d_X8_readsHarm_2 fi_129_55 rfl (by decide)).trans <| (mX_iconst d_X8_readsHarm_5 ci_1).trans <| (mX_iadd d_X8_readsHarm_6).trans <| (mP_i d_X8_readsHarm_7 fi_129_55 rfl (by decide) rfl (Or.inl (by decide))).trans <| (mX_aload_n d_X8_readsHarm_10 rfl).trans <| mV_v (a := 63) (vs := []) (st' := []) d_X8_readsHarm_11 cv_129_62 rfl (Nat.le_of_ble_eq_true rfl) rfl rfl rfl rfl
theorem b_X8_readsHarm_14 {h h' : mn_H} {r : Option Value} : mn_E 129 14 [.ref 63, .null, .null, .null] [] h r h' ↔ ∃ x h1, mn_X 122 [.ref 63, .int 0, .int 5] h (some (.int x)) h1 ∧ mn_E 129 25 [.ref 63, .int (h 63 10), .null, .null] [.int x] h1 r h' :=
  (mX_aload_n d_X8_readsHarm_14 rfl).trans <| (mG_i d_X8_readsHarm_15 fi_129_55 rfl (by decide)).trans <| (mX_istore_n (ls' := [.ref 63, .int (h 63 10), .null, .null]) d_X8_readsHarm_18 rfl rfl).trans <| (mX_aload_n d_X8_readsHarm_19 rfl).trans <| (mX_iconst d_X8_readsHarm_20 ci_0).trans <| (mX_iconst d_X8_readsHarm_21 ci_5).trans <| mV_i (a := 63) (vs := [.int 0, .int 5]) (st' := []) d_X8_readsHarm_22 cv_129_71 (Or.inr (Or.inl rfl)) (Nat.le_of_ble_eq_true rfl) rfl rfl rfl rfl
theorem b_X8_readsHarm_25 {x1 s0 : Int32} {h h' : mn_H} {r : Option Value} : mn_E 129 25 [.ref 63, .int x1, .null, .null] [.int s0] h r h' ↔ if ¬ s0 = 0 then mn_E 129 30 [.ref 63, .int x1, .null, .null] [] h r h' else mn_E 129 28 [.ref 63, .int x1, .null, .null] [] h r h' :=
  mX_if_ne d_X8_readsHarm_25 rfl
theorem b_X8_readsHarm_28 {x1 : Int32} {h h' : mn_H} {r : Option Value} : mn_E 129 28 [.ref 63, .int x1, .null, .null] [] h r h' ↔ r = some (.int 0) ∧ h' = h :=
  (mX_iconst d_X8_readsHarm_28 ci_0).trans <| mX_zret d_X8_readsHarm_29 rfl (by decide)
theorem b_X8_readsHarm_30 {x1 : Int32} {h h' : mn_H} {r : Option Value} : mn_E 129 30 [.ref 63, .int x1, .null, .null] [] h r h' ↔ if ¬ (((h 66 (95 : Int32).toNatClampNeg) >>> ((h 63 12) &&& 31)) &&& 1) = 1 then mn_E 129 62 [.ref 63, .int x1, .int (h 63 12), .null] [] h r h' else mn_E 129 50 [.ref 63, .int x1, .int (h 63 12), .null] [] h r h' :=
  (mX_aload_n d_X8_readsHarm_30 rfl).trans <| (mG_i d_X8_readsHarm_31 fi_129_65 rfl (by decide)).trans <| (mX_istore_n (ls' := [.ref 63, .int x1, .int (h 63 12), .null]) d_X8_readsHarm_34 rfl rfl).trans <| (mX_aload_n d_X8_readsHarm_35 rfl).trans <| (mG_r (b := 66) d_X8_readsHarm_36 fr_129_16 rfl (by decide) rfl).trans <| (mX_bipush d_X8_readsHarm_39 cb_95).trans <| (mX_iaload d_X8_readsHarm_41 rfl (by decide) (mn_in_iff (by decide +kernel))).trans <| (mX_iload_n d_X8_readsHarm_42 rfl).trans <| (mX_ishr d_X8_readsHarm_43).trans <| (mX_iconst d_X8_readsHarm_44 ci_1).trans <| (mX_iand d_X8_readsHarm_45).trans <| (mX_iconst d_X8_readsHarm_46 ci_1).trans <| mX_icmp_ne d_X8_readsHarm_47 rfl
theorem b_X8_readsHarm_50 {x1 x2 : Int32} {h h' : mn_H} {r : Option Value} : mn_E 129 50 [.ref 63, .int x1, .int x2, .null] [] h r h' ↔ r = some (.int 0) ∧ h' = mn_up (mn_up h 63 10 x1) 63 11 4 :=
  (mX_aload_n d_X8_readsHarm_50 rfl).trans <| (mX_iload_n d_X8_readsHarm_51 rfl).trans <| (mP_i d_X8_readsHarm_52 fi_129_55 rfl (by decide) rfl (Or.inl (by decide))).trans <| (mX_aload_n d_X8_readsHarm_55 rfl).trans <| (mX_iconst d_X8_readsHarm_56 ci_4).trans <| (mP_i d_X8_readsHarm_57 fi_129_68 rfl (by decide) rfl (Or.inl (by decide))).trans <| (mX_iconst d_X8_readsHarm_60 ci_0).trans <| mX_zret d_X8_readsHarm_61 rfl (by decide)
theorem b_X8_readsHarm_62 {x1 x2 : Int32} {h h' : mn_H} {r : Option Value} : mn_E 129 62 [.ref 63, .int x1, .int x2, .null] [] h r h' ↔ ∃ x h1, mn_X 122 [.ref 63, .int 0, .int 99] (mn_up h 66 ((95 : Int32).toNatClampNeg) ((h 66 (95 : Int32).toNatClampNeg) ||| (1 <<< (x2 &&& 31)))) (some (.int x)) h1 ∧ mn_E 129 82 [.ref 63, .int x1, .int x2, .null] [.int x] h1 r h' :=
  (mX_aload_n d_X8_readsHarm_62 rfl).trans <| (mG_r (b := 66) d_X8_readsHarm_63 fr_129_16 rfl (by decide) rfl).trans <| (mX_bipush d_X8_readsHarm_66 cb_95).trans <| (mX_dup2 d_X8_readsHarm_68 ⟨rfl, rfl⟩).trans <| (mX_iaload d_X8_readsHarm_69 rfl (by decide) (mn_in_iff (by decide +kernel))).trans <| (mX_iconst d_X8_readsHarm_70 ci_1).trans <| (mX_iload_n d_X8_readsHarm_71 rfl).trans <| (mX_ishl d_X8_readsHarm_72).trans <| (mX_ior d_X8_readsHarm_73).trans <| (mX_iastore d_X8_readsHarm_74 rfl (by decide) (mn_in_iff (by decide +kernel))).trans <| (mX_aload_n d_X8_readsHarm_75 rfl).trans <| (mX_iconst d_X8_readsHarm_76 ci_0).trans <| (mX_bipush d_X8_readsHarm_77 cb_99).trans <| mV_i (a := 63) (vs := [.int 0, .int 99]) (st' := []) d_X8_readsHarm_79 cv_129_71 (Or.inr (Or.inl rfl)) (Nat.le_of_ble_eq_true rfl) rfl rfl rfl rfl
theorem b_X8_readsHarm_82 {x1 x2 s0 : Int32} {h h' : mn_H} {r : Option Value} (hy0 : vp_in (89 + x2) 96) (hy1 : s0 = 0 ∨ s0 = 1) : mn_E 129 82 [.ref 63, .int x1, .int x2, .null] [.int s0] h r h' ↔ r = some (.int s0) ∧ h' = mn_up h 66 ((89 + x2).toNatClampNeg) ((h 63 12) - 50) :=
  (mX_istore_n (ls' := [.ref 63, .int x1, .int x2, .int s0]) d_X8_readsHarm_82 rfl rfl).trans <| (mX_aload_n d_X8_readsHarm_83 rfl).trans <| (mG_r (b := 66) d_X8_readsHarm_84 fr_129_16 rfl (by decide) rfl).trans <| (mX_bipush d_X8_readsHarm_87 cb_89).trans <| (mX_iload_n d_X8_readsHarm_89 rfl).trans <| (mX_iadd d_X8_readsHarm_90).trans <| (mX_aload_n d_X8_readsHarm_91 rfl).trans <| (mG_i d_X8_readsHarm_92 fi_129_65 rfl (by decide)).trans <| (mX_bipush d_X8_readsHarm_95 cb_50).trans <| (mX_isub d_X8_readsHarm_97).trans <| (mX_iastore d_X8_readsHarm_98 rfl (by decide) hy0).trans <| (mX_iload_n d_X8_readsHarm_99 rfl).trans <| mX_zret d_X8_readsHarm_100 rfl hy1
-- X8_readsClause
theorem mo_130 : mO 130 = 8 := rfl
theorem d_X8_readsClause_0 : decode (mC 130) 0 = .ok (.aload_n 0, 1) := by decide +kernel
theorem d_X8_readsClause_1 : decode (mC 130) 1 = .ok (.aload_n 0, 1) := by decide +kernel
theorem d_X8_readsClause_2 : decode (mC 130) 2 = .ok (.getfield 55, 3) := by decide +kernel
theorem d_X8_readsClause_5 : decode (mC 130) 5 = .ok (.invokevirtual 58, 3) := by decide +kernel
theorem d_X8_readsClause_8 : decode (mC 130) 8 = .ok (.tableswitch 149 98 115 #[88, 149, 149, 149, 149, 93, 144, 149, 149, 149, 149, 149, 129, 149, 149, 149, 98, 114], 88) := by decide +kernel
theorem d_X8_readsClause_96 : decode (mC 130) 96 = .ok (.aload_n 0, 1) := by decide +kernel
theorem d_X8_readsClause_97 : decode (mC 130) 97 = .ok (.invokevirtual 84, 3) := by decide +kernel
theorem d_X8_readsClause_100 : decode (mC 130) 100 = .ok (.ireturn, 1) := by decide +kernel
theorem d_X8_readsClause_101 : decode (mC 130) 101 = .ok (.aload_n 0, 1) := by decide +kernel
theorem d_X8_readsClause_102 : decode (mC 130) 102 = .ok (.invokevirtual 88, 3) := by decide +kernel
theorem d_X8_readsClause_105 : decode (mC 130) 105 = .ok (.ireturn, 1) := by decide +kernel
theorem d_X8_readsClause_106 : decode (mC 130) 106 = .ok (.aload_n 0, 1) := by decide +kernel
theorem d_X8_readsClause_107 : decode (mC 130) 107 = .ok (.iconst 2, 1) := by decide +kernel
theorem d_X8_readsClause_108 : decode (mC 130) 108 = .ok (.bipush 8, 2) := by decide +kernel
theorem d_X8_readsClause_110 : decode (mC 130) 110 = .ok (.bipush 44, 2) := by decide +kernel
theorem d_X8_readsClause_112 : decode (mC 130) 112 = .ok (.iconst 0, 1) := by decide +kernel
theorem d_X8_readsClause_113 : decode (mC 130) 113 = .ok (.iconst 5, 1) := by decide +kernel
theorem d_X8_readsClause_114 : decode (mC 130) 114 = .ok (.iconst 1, 1) := by decide +kernel
theorem d_X8_readsClause_115 : decode (mC 130) 115 = .ok (.sipush 999, 3) := by decide +kernel
theorem d_X8_readsClause_118 : decode (mC 130) 118 = .ok (.invokevirtual 91, 3) := by decide +kernel
theorem d_X8_readsClause_121 : decode (mC 130) 121 = .ok (.ireturn, 1) := by decide +kernel
theorem d_X8_readsClause_122 : decode (mC 130) 122 = .ok (.aload_n 0, 1) := by decide +kernel
theorem d_X8_readsClause_123 : decode (mC 130) 123 = .ok (.iconst 3, 1) := by decide +kernel
theorem d_X8_readsClause_124 : decode (mC 130) 124 = .ok (.iconst 4, 1) := by decide +kernel
theorem d_X8_readsClause_125 : decode (mC 130) 125 = .ok (.bipush 68, 2) := by decide +kernel
theorem d_X8_readsClause_127 : decode (mC 130) 127 = .ok (.iconst 0, 1) := by decide +kernel
theorem d_X8_readsClause_128 : decode (mC 130) 128 = .ok (.iconst 5, 1) := by decide +kernel
theorem d_X8_readsClause_129 : decode (mC 130) 129 = .ok (.iconst 1, 1) := by decide +kernel
theorem d_X8_readsClause_130 : decode (mC 130) 130 = .ok (.sipush 999, 3) := by decide +kernel
theorem d_X8_readsClause_133 : decode (mC 130) 133 = .ok (.invokevirtual 91, 3) := by decide +kernel
theorem d_X8_readsClause_136 : decode (mC 130) 136 = .ok (.ireturn, 1) := by decide +kernel
theorem d_X8_readsClause_137 : decode (mC 130) 137 = .ok (.aload_n 0, 1) := by decide +kernel
theorem d_X8_readsClause_138 : decode (mC 130) 138 = .ok (.iconst 4, 1) := by decide +kernel
theorem d_X8_readsClause_139 : decode (mC 130) 139 = .ok (.iconst 3, 1) := by decide +kernel
theorem d_X8_readsClause_140 : decode (mC 130) 140 = .ok (.bipush 80, 2) := by decide +kernel
theorem d_X8_readsClause_142 : decode (mC 130) 142 = .ok (.iconst 1, 1) := by decide +kernel
theorem d_X8_readsClause_143 : decode (mC 130) 143 = .ok (.bipush 12, 2) := by decide +kernel
theorem d_X8_readsClause_145 : decode (mC 130) 145 = .ok (.iconst 0, 1) := by decide +kernel
theorem d_X8_readsClause_146 : decode (mC 130) 146 = .ok (.bipush 11, 2) := by decide +kernel
theorem d_X8_readsClause_148 : decode (mC 130) 148 = .ok (.invokevirtual 91, 3) := by decide +kernel
theorem d_X8_readsClause_151 : decode (mC 130) 151 = .ok (.ireturn, 1) := by decide +kernel
theorem d_X8_readsClause_152 : decode (mC 130) 152 = .ok (.aload_n 0, 1) := by decide +kernel
theorem d_X8_readsClause_153 : decode (mC 130) 153 = .ok (.invokevirtual 95, 3) := by decide +kernel
theorem d_X8_readsClause_156 : decode (mC 130) 156 = .ok (.ireturn, 1) := by decide +kernel
theorem d_X8_readsClause_157 : decode (mC 130) 157 = .ok (.aload_n 0, 1) := by decide +kernel
theorem d_X8_readsClause_158 : decode (mC 130) 158 = .ok (.iconst 1, 1) := by decide +kernel
theorem d_X8_readsClause_159 : decode (mC 130) 159 = .ok (.putfield 68, 3) := by decide +kernel
theorem d_X8_readsClause_162 : decode (mC 130) 162 = .ok (.iconst 0, 1) := by decide +kernel
theorem d_X8_readsClause_163 : decode (mC 130) 163 = .ok (.ireturn, 1) := by decide +kernel
theorem fi_130_55 : mn_fi 130 8 55 8 10 = true := by decide +kernel
theorem cv_130_58 : mn_cvt 130 8 58 120 = true := by decide +kernel
theorem cv_130_91 : mn_cvt 130 8 91 128 = true := by decide +kernel
theorem cv_130_95 : mn_cvt 130 8 95 129 = true := by decide +kernel
theorem cv_130_88 : mn_cvt 130 8 88 127 = true := by decide +kernel
theorem cv_130_84 : mn_cvt 130 8 84 126 = true := by decide +kernel
theorem fi_130_68 : mn_fi 130 8 68 8 11 = true := by decide +kernel
theorem b_X8_readsClause_0 {h h' : mn_H} {r : Option Value} : mn_E 130 0 [.ref 63] [] h r h' ↔ ∃ x h1, mn_X 120 [.ref 63, .int (h 63 10)] h (some (.int x)) h1 ∧ mn_E 130 8 [.ref 63] [.int x] h1 r h' :=
  (mX_aload_n d_X8_readsClause_0 rfl).trans <| (mX_aload_n d_X8_readsClause_1 rfl).trans <| (mG_i d_X8_readsClause_2 fi_130_55 rfl (by decide)).trans <| mV_i (a := 63) (vs := [.int (h 63 10)]) (st' := []) d_X8_readsClause_5 cv_130_58 (Or.inl rfl) (Nat.le_of_ble_eq_true rfl) rfl rfl rfl rfl
theorem b_X8_readsClause_8_d {s0 : Int32} {h h' : mn_H} {r : Option Value} (hx : s0.toInt < 98 ∨ 115 < s0.toInt) : mn_E 130 8 [.ref 63] [.int s0] h r h' ↔ mn_E 130 157 [.ref 63] [] h r h' :=
  mX_tsw d_X8_readsClause_8 rfl (by unfold mn_tsw; rw [if_pos hx]; rfl)
theorem b_X8_readsClause_8_98 {h h' : mn_H} {r : Option Value} : mn_E 130 8 [.ref 63] [.int 98] h r h' ↔ mn_E 130 96 [.ref 63] [] h r h' :=
  mX_tsw d_X8_readsClause_8 rfl (by decide)
theorem b_X8_readsClause_8_99 {h h' : mn_H} {r : Option Value} : mn_E 130 8 [.ref 63] [.int 99] h r h' ↔ mn_E 130 157 [.ref 63] [] h r h' :=
  mX_tsw d_X8_readsClause_8 rfl (by decide)
theorem b_X8_readsClause_8_100 {h h' : mn_H} {r : Option Value} : mn_E 130 8 [.ref 63] [.int 100] h r h' ↔ mn_E 130 157 [.ref 63] [] h r h' :=
  mX_tsw d_X8_readsClause_8 rfl (by decide)
theorem b_X8_readsClause_8_101 {h h' : mn_H} {r : Option Value} : mn_E 130 8 [.ref 63] [.int 101] h r h' ↔ mn_E 130 157 [.ref 63] [] h r h' :=
  mX_tsw d_X8_readsClause_8 rfl (by decide)
theorem b_X8_readsClause_8_102 {h h' : mn_H} {r : Option Value} : mn_E 130 8 [.ref 63] [.int 102] h r h' ↔ mn_E 130 157 [.ref 63] [] h r h' :=
  mX_tsw d_X8_readsClause_8 rfl (by decide)
theorem b_X8_readsClause_8_103 {h h' : mn_H} {r : Option Value} : mn_E 130 8 [.ref 63] [.int 103] h r h' ↔ mn_E 130 101 [.ref 63] [] h r h' :=
  mX_tsw d_X8_readsClause_8 rfl (by decide)
theorem b_X8_readsClause_8_104 {h h' : mn_H} {r : Option Value} : mn_E 130 8 [.ref 63] [.int 104] h r h' ↔ mn_E 130 152 [.ref 63] [] h r h' :=
  mX_tsw d_X8_readsClause_8 rfl (by decide)
theorem b_X8_readsClause_8_105 {h h' : mn_H} {r : Option Value} : mn_E 130 8 [.ref 63] [.int 105] h r h' ↔ mn_E 130 157 [.ref 63] [] h r h' :=
  mX_tsw d_X8_readsClause_8 rfl (by decide)
theorem b_X8_readsClause_8_106 {h h' : mn_H} {r : Option Value} : mn_E 130 8 [.ref 63] [.int 106] h r h' ↔ mn_E 130 157 [.ref 63] [] h r h' :=
  mX_tsw d_X8_readsClause_8 rfl (by decide)
theorem b_X8_readsClause_8_107 {h h' : mn_H} {r : Option Value} : mn_E 130 8 [.ref 63] [.int 107] h r h' ↔ mn_E 130 157 [.ref 63] [] h r h' :=
  mX_tsw d_X8_readsClause_8 rfl (by decide)
theorem b_X8_readsClause_8_108 {h h' : mn_H} {r : Option Value} : mn_E 130 8 [.ref 63] [.int 108] h r h' ↔ mn_E 130 157 [.ref 63] [] h r h' :=
  mX_tsw d_X8_readsClause_8 rfl (by decide)
theorem b_X8_readsClause_8_109 {h h' : mn_H} {r : Option Value} : mn_E 130 8 [.ref 63] [.int 109] h r h' ↔ mn_E 130 157 [.ref 63] [] h r h' :=
  mX_tsw d_X8_readsClause_8 rfl (by decide)
theorem b_X8_readsClause_8_110 {h h' : mn_H} {r : Option Value} : mn_E 130 8 [.ref 63] [.int 110] h r h' ↔ mn_E 130 137 [.ref 63] [] h r h' :=
  mX_tsw d_X8_readsClause_8 rfl (by decide)
theorem b_X8_readsClause_8_111 {h h' : mn_H} {r : Option Value} : mn_E 130 8 [.ref 63] [.int 111] h r h' ↔ mn_E 130 157 [.ref 63] [] h r h' :=
  mX_tsw d_X8_readsClause_8 rfl (by decide)
theorem b_X8_readsClause_8_112 {h h' : mn_H} {r : Option Value} : mn_E 130 8 [.ref 63] [.int 112] h r h' ↔ mn_E 130 157 [.ref 63] [] h r h' :=
  mX_tsw d_X8_readsClause_8 rfl (by decide)
theorem b_X8_readsClause_8_113 {h h' : mn_H} {r : Option Value} : mn_E 130 8 [.ref 63] [.int 113] h r h' ↔ mn_E 130 157 [.ref 63] [] h r h' :=
  mX_tsw d_X8_readsClause_8 rfl (by decide)
theorem b_X8_readsClause_8_114 {h h' : mn_H} {r : Option Value} : mn_E 130 8 [.ref 63] [.int 114] h r h' ↔ mn_E 130 106 [.ref 63] [] h r h' :=
  mX_tsw d_X8_readsClause_8 rfl (by decide)
theorem b_X8_readsClause_8_115 {h h' : mn_H} {r : Option Value} : mn_E 130 8 [.ref 63] [.int 115] h r h' ↔ mn_E 130 122 [.ref 63] [] h r h' :=
  mX_tsw d_X8_readsClause_8 rfl (by decide)
theorem b_X8_readsClause_96 {h h' : mn_H} {r : Option Value} : mn_E 130 96 [.ref 63] [] h r h' ↔ ∃ x h1, mn_X 126 [.ref 63] h (some (.int x)) h1 ∧ mn_E 130 100 [.ref 63] [.int x] h1 r h' :=
  (mX_aload_n d_X8_readsClause_96 rfl).trans <| mV_i (a := 63) (vs := []) (st' := []) d_X8_readsClause_97 cv_130_84 (Or.inr (Or.inl rfl)) (Nat.le_of_ble_eq_true rfl) rfl rfl rfl rfl
theorem b_X8_readsClause_100 {s0 : Int32} {h h' : mn_H} {r : Option Value} (hy0 : s0 = 0 ∨ s0 = 1) : mn_E 130 100 [.ref 63] [.int s0] h r h' ↔ r = some (.int s0) ∧ h' = h :=
  mX_zret d_X8_readsClause_100 rfl hy0
theorem b_X8_readsClause_101 {h h' : mn_H} {r : Option Value} : mn_E 130 101 [.ref 63] [] h r h' ↔ ∃ x h1, mn_X 127 [.ref 63] h (some (.int x)) h1 ∧ mn_E 130 105 [.ref 63] [.int x] h1 r h' :=
  (mX_aload_n d_X8_readsClause_101 rfl).trans <| mV_i (a := 63) (vs := []) (st' := []) d_X8_readsClause_102 cv_130_88 (Or.inr (Or.inl rfl)) (Nat.le_of_ble_eq_true rfl) rfl rfl rfl rfl
theorem b_X8_readsClause_105 {s0 : Int32} {h h' : mn_H} {r : Option Value} (hy0 : s0 = 0 ∨ s0 = 1) : mn_E 130 105 [.ref 63] [.int s0] h r h' ↔ r = some (.int s0) ∧ h' = h :=
  mX_zret d_X8_readsClause_105 rfl hy0
theorem b_X8_readsClause_106 {h h' : mn_H} {r : Option Value} : mn_E 130 106 [.ref 63] [] h r h' ↔ ∃ x h1, mn_X 128 [.ref 63, .int 2, .int 8, .int 44, .int 0, .int 5, .int 1, .int 999] h (some (.int x)) h1 ∧ mn_E 130 121 [.ref 63] [.int x] h1 r h' :=
  (mX_aload_n d_X8_readsClause_106 rfl).trans <| (mX_iconst d_X8_readsClause_107 ci_2).trans <| (mX_bipush d_X8_readsClause_108 cb_8).trans <| (mX_bipush d_X8_readsClause_110 cb_44).trans <| (mX_iconst d_X8_readsClause_112 ci_0).trans <| (mX_iconst d_X8_readsClause_113 ci_5).trans <| (mX_iconst d_X8_readsClause_114 ci_1).trans <| (mX_sipush d_X8_readsClause_115 cs_999).trans <| mV_i (a := 63) (vs := [.int 2, .int 8, .int 44, .int 0, .int 5, .int 1, .int 999]) (st' := []) d_X8_readsClause_118 cv_130_91 (Or.inr (Or.inl rfl)) (Nat.le_of_ble_eq_true rfl) rfl rfl rfl rfl
theorem b_X8_readsClause_121 {s0 : Int32} {h h' : mn_H} {r : Option Value} (hy0 : s0 = 0 ∨ s0 = 1) : mn_E 130 121 [.ref 63] [.int s0] h r h' ↔ r = some (.int s0) ∧ h' = h :=
  mX_zret d_X8_readsClause_121 rfl hy0
theorem b_X8_readsClause_122 {h h' : mn_H} {r : Option Value} : mn_E 130 122 [.ref 63] [] h r h' ↔ ∃ x h1, mn_X 128 [.ref 63, .int 3, .int 4, .int 68, .int 0, .int 5, .int 1, .int 999] h (some (.int x)) h1 ∧ mn_E 130 136 [.ref 63] [.int x] h1 r h' :=
  (mX_aload_n d_X8_readsClause_122 rfl).trans <| (mX_iconst d_X8_readsClause_123 ci_3).trans <| (mX_iconst d_X8_readsClause_124 ci_4).trans <| (mX_bipush d_X8_readsClause_125 cb_68).trans <| (mX_iconst d_X8_readsClause_127 ci_0).trans <| (mX_iconst d_X8_readsClause_128 ci_5).trans <| (mX_iconst d_X8_readsClause_129 ci_1).trans <| (mX_sipush d_X8_readsClause_130 cs_999).trans <| mV_i (a := 63) (vs := [.int 3, .int 4, .int 68, .int 0, .int 5, .int 1, .int 999]) (st' := []) d_X8_readsClause_133 cv_130_91 (Or.inr (Or.inl rfl)) (Nat.le_of_ble_eq_true rfl) rfl rfl rfl rfl
theorem b_X8_readsClause_136 {s0 : Int32} {h h' : mn_H} {r : Option Value} (hy0 : s0 = 0 ∨ s0 = 1) : mn_E 130 136 [.ref 63] [.int s0] h r h' ↔ r = some (.int s0) ∧ h' = h :=
  mX_zret d_X8_readsClause_136 rfl hy0
theorem b_X8_readsClause_137 {h h' : mn_H} {r : Option Value} : mn_E 130 137 [.ref 63] [] h r h' ↔ ∃ x h1, mn_X 128 [.ref 63, .int 4, .int 3, .int 80, .int 1, .int 12, .int 0, .int 11] h (some (.int x)) h1 ∧ mn_E 130 151 [.ref 63] [.int x] h1 r h' :=
  (mX_aload_n d_X8_readsClause_137 rfl).trans <| (mX_iconst d_X8_readsClause_138 ci_4).trans <| (mX_iconst d_X8_readsClause_139 ci_3).trans <| (mX_bipush d_X8_readsClause_140 cb_80).trans <| (mX_iconst d_X8_readsClause_142 ci_1).trans <| (mX_bipush d_X8_readsClause_143 cb_12).trans <| (mX_iconst d_X8_readsClause_145 ci_0).trans <| (mX_bipush d_X8_readsClause_146 cb_11).trans <| mV_i (a := 63) (vs := [.int 4, .int 3, .int 80, .int 1, .int 12, .int 0, .int 11]) (st' := []) d_X8_readsClause_148 cv_130_91 (Or.inr (Or.inl rfl)) (Nat.le_of_ble_eq_true rfl) rfl rfl rfl rfl
theorem b_X8_readsClause_151 {s0 : Int32} {h h' : mn_H} {r : Option Value} (hy0 : s0 = 0 ∨ s0 = 1) : mn_E 130 151 [.ref 63] [.int s0] h r h' ↔ r = some (.int s0) ∧ h' = h :=
  mX_zret d_X8_readsClause_151 rfl hy0
theorem b_X8_readsClause_152 {h h' : mn_H} {r : Option Value} : mn_E 130 152 [.ref 63] [] h r h' ↔ ∃ x h1, mn_X 129 [.ref 63] h (some (.int x)) h1 ∧ mn_E 130 156 [.ref 63] [.int x] h1 r h' :=
  (mX_aload_n d_X8_readsClause_152 rfl).trans <| mV_i (a := 63) (vs := []) (st' := []) d_X8_readsClause_153 cv_130_95 (Or.inr (Or.inl rfl)) (Nat.le_of_ble_eq_true rfl) rfl rfl rfl rfl
theorem b_X8_readsClause_156 {s0 : Int32} {h h' : mn_H} {r : Option Value} (hy0 : s0 = 0 ∨ s0 = 1) : mn_E 130 156 [.ref 63] [.int s0] h r h' ↔ r = some (.int s0) ∧ h' = h :=
  mX_zret d_X8_readsClause_156 rfl hy0
theorem b_X8_readsClause_157 {h h' : mn_H} {r : Option Value} : mn_E 130 157 [.ref 63] [] h r h' ↔ r = some (.int 0) ∧ h' = mn_up h 63 11 1 :=
  (mX_aload_n d_X8_readsClause_157 rfl).trans <| (mX_iconst d_X8_readsClause_158 ci_1).trans <| (mP_i d_X8_readsClause_159 fi_130_68 rfl (by decide) rfl (Or.inl (by decide))).trans <| (mX_iconst d_X8_readsClause_162 ci_0).trans <| mX_zret d_X8_readsClause_163 rfl (by decide)
-- X8_reads
theorem mo_131 : mO 131 = 8 := rfl
theorem d_X8_reads_0 : decode (mC 131) 0 = .ok (.iconst 0, 1) := by decide +kernel
theorem d_X8_reads_1 : decode (mC 131) 1 = .ok (.istore_n 1, 1) := by decide +kernel
theorem d_X8_reads_2 : decode (mC 131) 2 = .ok (.iload_n 1, 1) := by decide +kernel
theorem d_X8_reads_3 : decode (mC 131) 3 = .ok (.bipush 96, 2) := by decide +kernel
theorem d_X8_reads_5 : decode (mC 131) 5 = .ok (.if_icmp .ge 32, 3) := by decide +kernel
theorem d_X8_reads_8 : decode (mC 131) 8 = .ok (.aload_n 0, 1) := by decide +kernel
theorem d_X8_reads_9 : decode (mC 131) 9 = .ok (.getfield 16, 3) := by decide +kernel
theorem d_X8_reads_12 : decode (mC 131) 12 = .ok (.iload_n 1, 1) := by decide +kernel
theorem d_X8_reads_13 : decode (mC 131) 13 = .ok (.iload_n 1, 1) := by decide +kernel
theorem d_X8_reads_14 : decode (mC 131) 14 = .ok (.bipush 89, 2) := by decide +kernel
theorem d_X8_reads_16 : decode (mC 131) 16 = .ok (.if_icmp .lt 13, 3) := by decide +kernel
theorem d_X8_reads_19 : decode (mC 131) 19 = .ok (.iload_n 1, 1) := by decide +kernel
theorem d_X8_reads_20 : decode (mC 131) 20 = .ok (.bipush 95, 2) := by decide +kernel
theorem d_X8_reads_22 : decode (mC 131) 22 = .ok (.if_icmp .ge 7, 3) := by decide +kernel
theorem d_X8_reads_25 : decode (mC 131) 25 = .ok (.iconst 1, 1) := by decide +kernel
theorem d_X8_reads_26 : decode (mC 131) 26 = .ok (.goto 4, 3) := by decide +kernel
theorem d_X8_reads_29 : decode (mC 131) 29 = .ok (.iconst 0, 1) := by decide +kernel
theorem d_X8_reads_30 : decode (mC 131) 30 = .ok (.iastore, 1) := by decide +kernel
theorem d_X8_reads_31 : decode (mC 131) 31 = .ok (.iinc 1 1, 3) := by decide +kernel
theorem d_X8_reads_34 : decode (mC 131) 34 = .ok (.goto (-32), 3) := by decide +kernel
theorem d_X8_reads_37 : decode (mC 131) 37 = .ok (.aload_n 0, 1) := by decide +kernel
theorem d_X8_reads_38 : decode (mC 131) 38 = .ok (.iconst 0, 1) := by decide +kernel
theorem d_X8_reads_39 : decode (mC 131) 39 = .ok (.putfield 55, 3) := by decide +kernel
theorem d_X8_reads_42 : decode (mC 131) 42 = .ok (.aload_n 0, 1) := by decide +kernel
theorem d_X8_reads_43 : decode (mC 131) 43 = .ok (.iconst 0, 1) := by decide +kernel
theorem d_X8_reads_44 : decode (mC 131) 44 = .ok (.putfield 68, 3) := by decide +kernel
theorem d_X8_reads_47 : decode (mC 131) 47 = .ok (.aload_n 0, 1) := by decide +kernel
theorem d_X8_reads_48 : decode (mC 131) 48 = .ok (.invokevirtual 62, 3) := by decide +kernel
theorem d_X8_reads_51 : decode (mC 131) 51 = .ok (.aload_n 0, 1) := by decide +kernel
theorem d_X8_reads_52 : decode (mC 131) 52 = .ok (.getfield 55, 3) := by decide +kernel
theorem d_X8_reads_55 : decode (mC 131) 55 = .ok (.aload_n 0, 1) := by decide +kernel
theorem d_X8_reads_56 : decode (mC 131) 56 = .ok (.getfield 51, 3) := by decide +kernel
theorem d_X8_reads_59 : decode (mC 131) 59 = .ok (.if_icmp .ge 53, 3) := by decide +kernel
theorem d_X8_reads_62 : decode (mC 131) 62 = .ok (.aload_n 0, 1) := by decide +kernel
theorem d_X8_reads_63 : decode (mC 131) 63 = .ok (.invokevirtual 98, 3) := by decide +kernel
theorem d_X8_reads_66 : decode (mC 131) 66 = .ok (.ifCond .ne 5, 3) := by decide +kernel
theorem d_X8_reads_69 : decode (mC 131) 69 = .ok (.iconst 0, 1) := by decide +kernel
theorem d_X8_reads_70 : decode (mC 131) 70 = .ok (.ireturn, 1) := by decide +kernel
theorem d_X8_reads_71 : decode (mC 131) 71 = .ok (.aload_n 0, 1) := by decide +kernel
theorem d_X8_reads_72 : decode (mC 131) 72 = .ok (.invokevirtual 62, 3) := by decide +kernel
theorem d_X8_reads_75 : decode (mC 131) 75 = .ok (.aload_n 0, 1) := by decide +kernel
theorem d_X8_reads_76 : decode (mC 131) 76 = .ok (.aload_n 0, 1) := by decide +kernel
theorem d_X8_reads_77 : decode (mC 131) 77 = .ok (.getfield 55, 3) := by decide +kernel
theorem d_X8_reads_80 : decode (mC 131) 80 = .ok (.invokevirtual 58, 3) := by decide +kernel
theorem d_X8_reads_83 : decode (mC 131) 83 = .ok (.bipush 59, 2) := by decide +kernel
theorem d_X8_reads_85 : decode (mC 131) 85 = .ok (.if_icmp .eq 10, 3) := by decide +kernel
theorem d_X8_reads_88 : decode (mC 131) 88 = .ok (.aload_n 0, 1) := by decide +kernel
theorem d_X8_reads_89 : decode (mC 131) 89 = .ok (.iconst 1, 1) := by decide +kernel
theorem d_X8_reads_90 : decode (mC 131) 90 = .ok (.putfield 68, 3) := by decide +kernel
theorem d_X8_reads_93 : decode (mC 131) 93 = .ok (.iconst 0, 1) := by decide +kernel
theorem d_X8_reads_94 : decode (mC 131) 94 = .ok (.ireturn, 1) := by decide +kernel
theorem d_X8_reads_95 : decode (mC 131) 95 = .ok (.aload_n 0, 1) := by decide +kernel
theorem d_X8_reads_96 : decode (mC 131) 96 = .ok (.dup, 1) := by decide +kernel
theorem d_X8_reads_97 : decode (mC 131) 97 = .ok (.getfield 55, 3) := by decide +kernel
theorem d_X8_reads_100 : decode (mC 131) 100 = .ok (.iconst 1, 1) := by decide +kernel
theorem d_X8_reads_101 : decode (mC 131) 101 = .ok (.iadd, 1) := by decide +kernel
theorem d_X8_reads_102 : decode (mC 131) 102 = .ok (.putfield 55, 3) := by decide +kernel
theorem d_X8_reads_105 : decode (mC 131) 105 = .ok (.aload_n 0, 1) := by decide +kernel
theorem d_X8_reads_106 : decode (mC 131) 106 = .ok (.invokevirtual 62, 3) := by decide +kernel
theorem d_X8_reads_109 : decode (mC 131) 109 = .ok (.goto (-58), 3) := by decide +kernel
theorem d_X8_reads_112 : decode (mC 131) 112 = .ok (.iconst 1, 1) := by decide +kernel
theorem d_X8_reads_113 : decode (mC 131) 113 = .ok (.ireturn, 1) := by decide +kernel
theorem fr_131_16 : mn_fr 131 8 16 8 3 = true := by decide +kernel
theorem fi_131_55 : mn_fi 131 8 55 8 10 = true := by decide +kernel
theorem fi_131_68 : mn_fi 131 8 68 8 11 = true := by decide +kernel
theorem cv_131_62 : mn_cvt 131 8 62 121 = true := by decide +kernel
theorem fi_131_51 : mn_fi 131 8 51 8 1 = true := by decide +kernel
theorem cv_131_98 : mn_cvt 131 8 98 130 = true := by decide +kernel
theorem cv_131_58 : mn_cvt 131 8 58 120 = true := by decide +kernel
theorem b_X8_reads_0 {h h' : mn_H} {r : Option Value} : mn_E 131 0 [.ref 63, .null] [] h r h' ↔ mn_E 131 2 [.ref 63, .int 0] [] h r h' :=
  (mX_iconst d_X8_reads_0 ci_0).trans <| mX_istore_n (ls' := [.ref 63, .int 0]) d_X8_reads_1 rfl rfl
theorem b_X8_reads_2 {x1 : Int32} {h h' : mn_H} {r : Option Value} : mn_E 131 2 [.ref 63, .int x1] [] h r h' ↔ if (96 : Int32) ≤ x1 then mn_E 131 37 [.ref 63, .int x1] [] h r h' else mn_E 131 8 [.ref 63, .int x1] [] h r h' :=
  (mX_iload_n d_X8_reads_2 rfl).trans <| (mX_bipush d_X8_reads_3 cb_96).trans <| mX_icmp_ge d_X8_reads_5 rfl
theorem b_X8_reads_8 {x1 : Int32} {h h' : mn_H} {r : Option Value} : mn_E 131 8 [.ref 63, .int x1] [] h r h' ↔ if x1 < 89 then mn_E 131 29 [.ref 63, .int x1] [.int x1, .ref 66] h r h' else mn_E 131 19 [.ref 63, .int x1] [.int x1, .ref 66] h r h' :=
  (mX_aload_n d_X8_reads_8 rfl).trans <| (mG_r (b := 66) d_X8_reads_9 fr_131_16 rfl (by decide) rfl).trans <| (mX_iload_n d_X8_reads_12 rfl).trans <| (mX_iload_n d_X8_reads_13 rfl).trans <| (mX_bipush d_X8_reads_14 cb_89).trans <| mX_icmp_lt d_X8_reads_16 rfl
theorem b_X8_reads_19 {x1 s0 : Int32} {h h' : mn_H} {r : Option Value} : mn_E 131 19 [.ref 63, .int x1] [.int s0, .ref 66] h r h' ↔ if (95 : Int32) ≤ x1 then mn_E 131 29 [.ref 63, .int x1] [.int s0, .ref 66] h r h' else mn_E 131 25 [.ref 63, .int x1] [.int s0, .ref 66] h r h' :=
  (mX_iload_n d_X8_reads_19 rfl).trans <| (mX_bipush d_X8_reads_20 cb_95).trans <| mX_icmp_ge d_X8_reads_22 rfl
theorem b_X8_reads_25 {x1 s0 : Int32} {h h' : mn_H} {r : Option Value} : mn_E 131 25 [.ref 63, .int x1] [.int s0, .ref 66] h r h' ↔ mn_E 131 30 [.ref 63, .int x1] [.int 1, .int s0, .ref 66] h r h' :=
  (mX_iconst d_X8_reads_25 ci_1).trans <| mX_goto d_X8_reads_26 rfl
theorem b_X8_reads_29 {x1 s0 : Int32} {h h' : mn_H} {r : Option Value} : mn_E 131 29 [.ref 63, .int x1] [.int s0, .ref 66] h r h' ↔ mn_E 131 30 [.ref 63, .int x1] [.int 0, .int s0, .ref 66] h r h' :=
  mX_iconst d_X8_reads_29 ci_0
theorem b_X8_reads_30 {x1 s0 s1 : Int32} {h h' : mn_H} {r : Option Value} (hy0 : vp_in s1 96) : mn_E 131 30 [.ref 63, .int x1] [.int s0, .int s1, .ref 66] h r h' ↔ mn_E 131 2 [.ref 63, .int (x1 + 1)] [] (mn_up h 66 (s1.toNatClampNeg) s0) r h' :=
  (mX_iastore d_X8_reads_30 rfl (by decide) hy0).trans <| (mX_iinc (ls' := [.ref 63, .int (x1 + 1)]) d_X8_reads_31 rfl ci_1 rfl rfl).trans <| mX_goto d_X8_reads_34 rfl
theorem b_X8_reads_37 {x1 : Int32} {h h' : mn_H} {r : Option Value} : mn_E 131 37 [.ref 63, .int x1] [] h r h' ↔ ∃ h1, mn_X 121 [.ref 63] (mn_up (mn_up h 63 10 0) 63 11 0) none h1 ∧ mn_E 131 51 [.ref 63, .int x1] [] h1 r h' :=
  (mX_aload_n d_X8_reads_37 rfl).trans <| (mX_iconst d_X8_reads_38 ci_0).trans <| (mP_i d_X8_reads_39 fi_131_55 rfl (by decide) rfl (Or.inl (by decide))).trans <| (mX_aload_n d_X8_reads_42 rfl).trans <| (mX_iconst d_X8_reads_43 ci_0).trans <| (mP_i d_X8_reads_44 fi_131_68 rfl (by decide) rfl (Or.inl (by decide))).trans <| (mX_aload_n d_X8_reads_47 rfl).trans <| mV_v (a := 63) (vs := []) (st' := []) d_X8_reads_48 cv_131_62 rfl (Nat.le_of_ble_eq_true rfl) rfl rfl rfl rfl
theorem b_X8_reads_51 {x1 : Int32} {h h' : mn_H} {r : Option Value} : mn_E 131 51 [.ref 63, .int x1] [] h r h' ↔ if (h 63 1) ≤ (h 63 10) then mn_E 131 112 [.ref 63, .int x1] [] h r h' else mn_E 131 62 [.ref 63, .int x1] [] h r h' :=
  (mX_aload_n d_X8_reads_51 rfl).trans <| (mG_i d_X8_reads_52 fi_131_55 rfl (by decide)).trans <| (mX_aload_n d_X8_reads_55 rfl).trans <| (mG_i d_X8_reads_56 fi_131_51 rfl (by decide)).trans <| mX_icmp_ge d_X8_reads_59 rfl
theorem b_X8_reads_62 {x1 : Int32} {h h' : mn_H} {r : Option Value} : mn_E 131 62 [.ref 63, .int x1] [] h r h' ↔ ∃ x h1, mn_X 130 [.ref 63] h (some (.int x)) h1 ∧ mn_E 131 66 [.ref 63, .int x1] [.int x] h1 r h' :=
  (mX_aload_n d_X8_reads_62 rfl).trans <| mV_i (a := 63) (vs := []) (st' := []) d_X8_reads_63 cv_131_98 (Or.inr (Or.inl rfl)) (Nat.le_of_ble_eq_true rfl) rfl rfl rfl rfl
theorem b_X8_reads_66 {x1 s0 : Int32} {h h' : mn_H} {r : Option Value} : mn_E 131 66 [.ref 63, .int x1] [.int s0] h r h' ↔ if ¬ s0 = 0 then mn_E 131 71 [.ref 63, .int x1] [] h r h' else mn_E 131 69 [.ref 63, .int x1] [] h r h' :=
  mX_if_ne d_X8_reads_66 rfl
theorem b_X8_reads_69 {x1 : Int32} {h h' : mn_H} {r : Option Value} : mn_E 131 69 [.ref 63, .int x1] [] h r h' ↔ r = some (.int 0) ∧ h' = h :=
  (mX_iconst d_X8_reads_69 ci_0).trans <| mX_zret d_X8_reads_70 rfl (by decide)
theorem b_X8_reads_71 {x1 : Int32} {h h' : mn_H} {r : Option Value} : mn_E 131 71 [.ref 63, .int x1] [] h r h' ↔ ∃ h1, mn_X 121 [.ref 63] h none h1 ∧ mn_E 131 75 [.ref 63, .int x1] [] h1 r h' :=
  (mX_aload_n d_X8_reads_71 rfl).trans <| mV_v (a := 63) (vs := []) (st' := []) d_X8_reads_72 cv_131_62 rfl (Nat.le_of_ble_eq_true rfl) rfl rfl rfl rfl
theorem b_X8_reads_75 {x1 : Int32} {h h' : mn_H} {r : Option Value} : mn_E 131 75 [.ref 63, .int x1] [] h r h' ↔ ∃ x h1, mn_X 120 [.ref 63, .int (h 63 10)] h (some (.int x)) h1 ∧ mn_E 131 83 [.ref 63, .int x1] [.int x] h1 r h' :=
  (mX_aload_n d_X8_reads_75 rfl).trans <| (mX_aload_n d_X8_reads_76 rfl).trans <| (mG_i d_X8_reads_77 fi_131_55 rfl (by decide)).trans <| mV_i (a := 63) (vs := [.int (h 63 10)]) (st' := []) d_X8_reads_80 cv_131_58 (Or.inl rfl) (Nat.le_of_ble_eq_true rfl) rfl rfl rfl rfl
theorem b_X8_reads_83 {x1 s0 : Int32} {h h' : mn_H} {r : Option Value} : mn_E 131 83 [.ref 63, .int x1] [.int s0] h r h' ↔ if s0 = 59 then mn_E 131 95 [.ref 63, .int x1] [] h r h' else mn_E 131 88 [.ref 63, .int x1] [] h r h' :=
  (mX_bipush d_X8_reads_83 cb_59).trans <| mX_icmp_eq d_X8_reads_85 rfl
theorem b_X8_reads_88 {x1 : Int32} {h h' : mn_H} {r : Option Value} : mn_E 131 88 [.ref 63, .int x1] [] h r h' ↔ r = some (.int 0) ∧ h' = mn_up h 63 11 1 :=
  (mX_aload_n d_X8_reads_88 rfl).trans <| (mX_iconst d_X8_reads_89 ci_1).trans <| (mP_i d_X8_reads_90 fi_131_68 rfl (by decide) rfl (Or.inl (by decide))).trans <| (mX_iconst d_X8_reads_93 ci_0).trans <| mX_zret d_X8_reads_94 rfl (by decide)
theorem b_X8_reads_95 {x1 : Int32} {h h' : mn_H} {r : Option Value} : mn_E 131 95 [.ref 63, .int x1] [] h r h' ↔ ∃ h1, mn_X 121 [.ref 63] (mn_up h 63 10 ((h 63 10) + 1)) none h1 ∧ mn_E 131 109 [.ref 63, .int x1] [] h1 r h' :=
  (mX_aload_n d_X8_reads_95 rfl).trans <| (mX_dup d_X8_reads_96 rfl).trans <| (mG_i d_X8_reads_97 fi_131_55 rfl (by decide)).trans <| (mX_iconst d_X8_reads_100 ci_1).trans <| (mX_iadd d_X8_reads_101).trans <| (mP_i d_X8_reads_102 fi_131_55 rfl (by decide) rfl (Or.inl (by decide))).trans <| (mX_aload_n d_X8_reads_105 rfl).trans <| mV_v (a := 63) (vs := []) (st' := []) d_X8_reads_106 cv_131_62 rfl (Nat.le_of_ble_eq_true rfl) rfl rfl rfl rfl
theorem b_X8_reads_109 {x1 : Int32} {h h' : mn_H} {r : Option Value} : mn_E 131 109 [.ref 63, .int x1] [] h r h' ↔ mn_E 131 51 [.ref 63, .int x1] [] h r h' :=
  mX_goto d_X8_reads_109 rfl
theorem b_X8_reads_112 {x1 : Int32} {h h' : mn_H} {r : Option Value} : mn_E 131 112 [.ref 63, .int x1] [] h r h' ↔ r = some (.int 1) ∧ h' = h :=
  (mX_iconst d_X8_reads_112 ci_1).trans <| mX_zret d_X8_reads_113 rfl (by decide)
-- X8_town
theorem mo_132 : mO 132 = 8 := rfl
theorem d_X8_town_0 : decode (mC 132) 0 = .ok (.aload_n 0, 1) := by decide +kernel
theorem d_X8_town_1 : decode (mC 132) 1 = .ok (.invokevirtual 101, 3) := by decide +kernel
theorem d_X8_town_4 : decode (mC 132) 4 = .ok (.istore_n 1, 1) := by decide +kernel
theorem d_X8_town_5 : decode (mC 132) 5 = .ok (.aload_n 0, 1) := by decide +kernel
theorem d_X8_town_6 : decode (mC 132) 6 = .ok (.iconst 0, 1) := by decide +kernel
theorem d_X8_town_7 : decode (mC 132) 7 = .ok (.putfield 51, 3) := by decide +kernel
theorem d_X8_town_10 : decode (mC 132) 10 = .ok (.aload_n 0, 1) := by decide +kernel
theorem d_X8_town_11 : decode (mC 132) 11 = .ok (.iload_n 1, 1) := by decide +kernel
theorem d_X8_town_12 : decode (mC 132) 12 = .ok (.ifCond .eq 7, 3) := by decide +kernel
theorem d_X8_town_15 : decode (mC 132) 15 = .ok (.iconst (-1), 1) := by decide +kernel
theorem d_X8_town_16 : decode (mC 132) 16 = .ok (.goto 7, 3) := by decide +kernel
theorem d_X8_town_19 : decode (mC 132) 19 = .ok (.aload_n 0, 1) := by decide +kernel
theorem d_X8_town_20 : decode (mC 132) 20 = .ok (.getfield 55, 3) := by decide +kernel
theorem d_X8_town_23 : decode (mC 132) 23 = .ok (.putfield 35, 3) := by decide +kernel
theorem d_X8_town_26 : decode (mC 132) 26 = .ok (.iload_n 1, 1) := by decide +kernel
theorem d_X8_town_27 : decode (mC 132) 27 = .ok (.ifCond .ne 11, 3) := by decide +kernel
theorem d_X8_town_30 : decode (mC 132) 30 = .ok (.bipush (-10), 2) := by decide +kernel
theorem d_X8_town_32 : decode (mC 132) 32 = .ok (.aload_n 0, 1) := by decide +kernel
theorem d_X8_town_33 : decode (mC 132) 33 = .ok (.getfield 68, 3) := by decide +kernel
theorem d_X8_town_36 : decode (mC 132) 36 = .ok (.isub, 1) := by decide +kernel
theorem d_X8_town_37 : decode (mC 132) 37 = .ok (.ireturn, 1) := by decide +kernel
theorem d_X8_town_38 : decode (mC 132) 38 = .ok (.iconst 0, 1) := by decide +kernel
theorem d_X8_town_39 : decode (mC 132) 39 = .ok (.istore_n 2, 1) := by decide +kernel
theorem d_X8_town_40 : decode (mC 132) 40 = .ok (.iload_n 2, 1) := by decide +kernel
theorem d_X8_town_41 : decode (mC 132) 41 = .ok (.bipush 96, 2) := by decide +kernel
theorem d_X8_town_43 : decode (mC 132) 43 = .ok (.if_icmp .ge 21, 3) := by decide +kernel
theorem d_X8_town_46 : decode (mC 132) 46 = .ok (.aload_n 0, 1) := by decide +kernel
theorem d_X8_town_47 : decode (mC 132) 47 = .ok (.getfield 13, 3) := by decide +kernel
theorem d_X8_town_50 : decode (mC 132) 50 = .ok (.iload_n 2, 1) := by decide +kernel
theorem d_X8_town_51 : decode (mC 132) 51 = .ok (.aload_n 0, 1) := by decide +kernel
theorem d_X8_town_52 : decode (mC 132) 52 = .ok (.getfield 16, 3) := by decide +kernel
theorem d_X8_town_55 : decode (mC 132) 55 = .ok (.iload_n 2, 1) := by decide +kernel
theorem d_X8_town_56 : decode (mC 132) 56 = .ok (.iaload, 1) := by decide +kernel
theorem d_X8_town_57 : decode (mC 132) 57 = .ok (.iastore, 1) := by decide +kernel
theorem d_X8_town_58 : decode (mC 132) 58 = .ok (.iinc 2 1, 3) := by decide +kernel
theorem d_X8_town_61 : decode (mC 132) 61 = .ok (.goto (-21), 3) := by decide +kernel
theorem d_X8_town_64 : decode (mC 132) 64 = .ok (.aload_n 0, 1) := by decide +kernel
theorem d_X8_town_65 : decode (mC 132) 65 = .ok (.getfield 19, 3) := by decide +kernel
theorem d_X8_town_68 : decode (mC 132) 68 = .ok (.iconst 3, 1) := by decide +kernel
theorem d_X8_town_69 : decode (mC 132) 69 = .ok (.iaload, 1) := by decide +kernel
theorem d_X8_town_70 : decode (mC 132) 70 = .ok (.istore_n 2, 1) := by decide +kernel
theorem d_X8_town_71 : decode (mC 132) 71 = .ok (.iconst 0, 1) := by decide +kernel
theorem d_X8_town_72 : decode (mC 132) 72 = .ok (.istore_n 3, 1) := by decide +kernel
theorem d_X8_town_73 : decode (mC 132) 73 = .ok (.iload_n 3, 1) := by decide +kernel
theorem d_X8_town_74 : decode (mC 132) 74 = .ok (.bipush 65, 2) := by decide +kernel
theorem d_X8_town_76 : decode (mC 132) 76 = .ok (.if_icmp .ge 16, 3) := by decide +kernel
theorem d_X8_town_79 : decode (mC 132) 79 = .ok (.aload_n 0, 1) := by decide +kernel
theorem d_X8_town_80 : decode (mC 132) 80 = .ok (.getfield 19, 3) := by decide +kernel
theorem d_X8_town_83 : decode (mC 132) 83 = .ok (.iload_n 3, 1) := by decide +kernel
theorem d_X8_town_84 : decode (mC 132) 84 = .ok (.iconst 0, 1) := by decide +kernel
theorem d_X8_town_85 : decode (mC 132) 85 = .ok (.iastore, 1) := by decide +kernel
theorem d_X8_town_86 : decode (mC 132) 86 = .ok (.iinc 3 1, 3) := by decide +kernel
theorem d_X8_town_89 : decode (mC 132) 89 = .ok (.goto (-16), 3) := by decide +kernel
theorem d_X8_town_92 : decode (mC 132) 92 = .ok (.aload_n 0, 1) := by decide +kernel
theorem d_X8_town_93 : decode (mC 132) 93 = .ok (.getfield 19, 3) := by decide +kernel
theorem d_X8_town_96 : decode (mC 132) 96 = .ok (.iconst 3, 1) := by decide +kernel
theorem d_X8_town_97 : decode (mC 132) 97 = .ok (.iload_n 2, 1) := by decide +kernel
theorem d_X8_town_98 : decode (mC 132) 98 = .ok (.iastore, 1) := by decide +kernel
theorem d_X8_town_99 : decode (mC 132) 99 = .ok (.aload_n 0, 1) := by decide +kernel
theorem d_X8_town_100 : decode (mC 132) 100 = .ok (.getfield 19, 3) := by decide +kernel
theorem d_X8_town_103 : decode (mC 132) 103 = .ok (.iconst 2, 1) := by decide +kernel
theorem d_X8_town_104 : decode (mC 132) 104 = .ok (.iconst 1, 1) := by decide +kernel
theorem d_X8_town_105 : decode (mC 132) 105 = .ok (.aload_n 0, 1) := by decide +kernel
theorem d_X8_town_106 : decode (mC 132) 106 = .ok (.getfield 13, 3) := by decide +kernel
theorem d_X8_town_109 : decode (mC 132) 109 = .ok (.iconst 1, 1) := by decide +kernel
theorem d_X8_town_110 : decode (mC 132) 110 = .ok (.iaload, 1) := by decide +kernel
theorem d_X8_town_111 : decode (mC 132) 111 = .ok (.ishl, 1) := by decide +kernel
theorem d_X8_town_112 : decode (mC 132) 112 = .ok (.iconst 1, 1) := by decide +kernel
theorem d_X8_town_113 : decode (mC 132) 113 = .ok (.isub, 1) := by decide +kernel
theorem d_X8_town_114 : decode (mC 132) 114 = .ok (.iastore, 1) := by decide +kernel
theorem d_X8_town_115 : decode (mC 132) 115 = .ok (.iconst 0, 1) := by decide +kernel
theorem d_X8_town_116 : decode (mC 132) 116 = .ok (.istore_n 3, 1) := by decide +kernel
theorem d_X8_town_117 : decode (mC 132) 117 = .ok (.iload_n 3, 1) := by decide +kernel
theorem d_X8_town_118 : decode (mC 132) 118 = .ok (.iconst 5, 1) := by decide +kernel
theorem d_X8_town_119 : decode (mC 132) 119 = .ok (.if_icmp .ge 16, 3) := by decide +kernel
theorem d_X8_town_122 : decode (mC 132) 122 = .ok (.aload_n 0, 1) := by decide +kernel
theorem d_X8_town_123 : decode (mC 132) 123 = .ok (.getfield 29, 3) := by decide +kernel
theorem d_X8_town_126 : decode (mC 132) 126 = .ok (.iload_n 3, 1) := by decide +kernel
theorem d_X8_town_127 : decode (mC 132) 127 = .ok (.iconst 0, 1) := by decide +kernel
theorem d_X8_town_128 : decode (mC 132) 128 = .ok (.iastore, 1) := by decide +kernel
theorem d_X8_town_129 : decode (mC 132) 129 = .ok (.iinc 3 1, 3) := by decide +kernel
theorem d_X8_town_132 : decode (mC 132) 132 = .ok (.goto (-15), 3) := by decide +kernel
theorem d_X8_town_135 : decode (mC 132) 135 = .ok (.aload_n 0, 1) := by decide +kernel
theorem d_X8_town_136 : decode (mC 132) 136 = .ok (.getfield 25, 3) := by decide +kernel
theorem d_X8_town_139 : decode (mC 132) 139 = .ok (.iconst 0, 1) := by decide +kernel
theorem d_X8_town_140 : decode (mC 132) 140 = .ok (.iconst 0, 1) := by decide +kernel
theorem d_X8_town_141 : decode (mC 132) 141 = .ok (.bastore, 1) := by decide +kernel
theorem d_X8_town_142 : decode (mC 132) 142 = .ok (.aload_n 0, 1) := by decide +kernel
theorem d_X8_town_143 : decode (mC 132) 143 = .ok (.getfield 25, 3) := by decide +kernel
theorem d_X8_town_146 : decode (mC 132) 146 = .ok (.iconst 1, 1) := by decide +kernel
theorem d_X8_town_147 : decode (mC 132) 147 = .ok (.iconst 0, 1) := by decide +kernel
theorem d_X8_town_148 : decode (mC 132) 148 = .ok (.bastore, 1) := by decide +kernel
theorem d_X8_town_149 : decode (mC 132) 149 = .ok (.aload_n 0, 1) := by decide +kernel
theorem d_X8_town_150 : decode (mC 132) 150 = .ok (.getfield 13, 3) := by decide +kernel
theorem d_X8_town_153 : decode (mC 132) 153 = .ok (.iconst 0, 1) := by decide +kernel
theorem d_X8_town_154 : decode (mC 132) 154 = .ok (.iaload, 1) := by decide +kernel
theorem d_X8_town_155 : decode (mC 132) 155 = .ok (.ireturn, 1) := by decide +kernel
theorem cv_132_101 : mn_cvt 132 8 101 131 = true := by decide +kernel
theorem fi_132_51 : mn_fi 132 8 51 8 1 = true := by decide +kernel
theorem fi_132_35 : mn_fi 132 8 35 8 9 = true := by decide +kernel
theorem fi_132_68 : mn_fi 132 8 68 8 11 = true := by decide +kernel
theorem fr_132_13 : mn_fr 132 8 13 8 2 = true := by decide +kernel
theorem fr_132_16 : mn_fr 132 8 16 8 3 = true := by decide +kernel
theorem fr_132_19 : mn_fr 132 8 19 8 4 = true := by decide +kernel
theorem fr_132_29 : mn_fr 132 8 29 8 7 = true := by decide +kernel
theorem fr_132_25 : mn_fr 132 8 25 8 6 = true := by decide +kernel
theorem fi_132_55 : mn_fi 132 8 55 8 10 = true := by decide +kernel
theorem b_X8_town_0 {h h' : mn_H} {r : Option Value} : mn_E 132 0 [.ref 63, .null, .null, .null] [] h r h' ↔ ∃ x h1, mn_X 131 [.ref 63] h (some (.int x)) h1 ∧ mn_E 132 4 [.ref 63, .null, .null, .null] [.int x] h1 r h' :=
  (mX_aload_n d_X8_town_0 rfl).trans <| mV_i (a := 63) (vs := []) (st' := []) d_X8_town_1 cv_132_101 (Or.inr (Or.inl rfl)) (Nat.le_of_ble_eq_true rfl) rfl rfl rfl rfl
theorem b_X8_town_4 {s0 : Int32} {h h' : mn_H} {r : Option Value} : mn_E 132 4 [.ref 63, .null, .null, .null] [.int s0] h r h' ↔ if s0 = 0 then mn_E 132 19 [.ref 63, .int s0, .null, .null] [.ref 63] (mn_up h 63 1 0) r h' else mn_E 132 15 [.ref 63, .int s0, .null, .null] [.ref 63] (mn_up h 63 1 0) r h' :=
  (mX_istore_n (ls' := [.ref 63, .int s0, .null, .null]) d_X8_town_4 rfl rfl).trans <| (mX_aload_n d_X8_town_5 rfl).trans <| (mX_iconst d_X8_town_6 ci_0).trans <| (mP_i d_X8_town_7 fi_132_51 rfl (by decide) rfl (Or.inl (by decide))).trans <| (mX_aload_n d_X8_town_10 rfl).trans <| (mX_iload_n d_X8_town_11 rfl).trans <| mX_if_eq d_X8_town_12 rfl
theorem b_X8_town_15 {x1 : Int32} {h h' : mn_H} {r : Option Value} : mn_E 132 15 [.ref 63, .int x1, .null, .null] [.ref 63] h r h' ↔ mn_E 132 23 [.ref 63, .int x1, .null, .null] [.int (-1), .ref 63] h r h' :=
  (mX_iconst d_X8_town_15 ci_m1).trans <| mX_goto d_X8_town_16 rfl
theorem b_X8_town_19 {x1 : Int32} {h h' : mn_H} {r : Option Value} : mn_E 132 19 [.ref 63, .int x1, .null, .null] [.ref 63] h r h' ↔ mn_E 132 23 [.ref 63, .int x1, .null, .null] [.int (h 63 10), .ref 63] h r h' :=
  (mX_aload_n d_X8_town_19 rfl).trans <| mG_i d_X8_town_20 fi_132_55 rfl (by decide)
theorem b_X8_town_23 {x1 s0 : Int32} {h h' : mn_H} {r : Option Value} : mn_E 132 23 [.ref 63, .int x1, .null, .null] [.int s0, .ref 63] h r h' ↔ if ¬ x1 = 0 then mn_E 132 38 [.ref 63, .int x1, .null, .null] [] (mn_up h 63 9 s0) r h' else mn_E 132 30 [.ref 63, .int x1, .null, .null] [] (mn_up h 63 9 s0) r h' :=
  (mP_i d_X8_town_23 fi_132_35 rfl (by decide) rfl (Or.inl (by decide))).trans <| (mX_iload_n d_X8_town_26 rfl).trans <| mX_if_ne d_X8_town_27 rfl
theorem b_X8_town_30 {x1 : Int32} {h h' : mn_H} {r : Option Value} : mn_E 132 30 [.ref 63, .int x1, .null, .null] [] h r h' ↔ r = some (.int ((-10) - (h 63 11))) ∧ h' = h :=
  (mX_bipush d_X8_town_30 cb_m10).trans <| (mX_aload_n d_X8_town_32 rfl).trans <| (mG_i d_X8_town_33 fi_132_68 rfl (by decide)).trans <| (mX_isub d_X8_town_36).trans <| mX_iret d_X8_town_37 rfl
theorem b_X8_town_38 {x1 : Int32} {h h' : mn_H} {r : Option Value} : mn_E 132 38 [.ref 63, .int x1, .null, .null] [] h r h' ↔ mn_E 132 40 [.ref 63, .int x1, .int 0, .null] [] h r h' :=
  (mX_iconst d_X8_town_38 ci_0).trans <| mX_istore_n (ls' := [.ref 63, .int x1, .int 0, .null]) d_X8_town_39 rfl rfl
theorem b_X8_town_40 {x1 x2 : Int32} {h h' : mn_H} {r : Option Value} : mn_E 132 40 [.ref 63, .int x1, .int x2, .null] [] h r h' ↔ if (96 : Int32) ≤ x2 then mn_E 132 64 [.ref 63, .int x1, .int x2, .null] [] h r h' else mn_E 132 46 [.ref 63, .int x1, .int x2, .null] [] h r h' :=
  (mX_iload_n d_X8_town_40 rfl).trans <| (mX_bipush d_X8_town_41 cb_96).trans <| mX_icmp_ge d_X8_town_43 rfl
theorem b_X8_town_46 {x1 x2 : Int32} {h h' : mn_H} {r : Option Value} (hy0 : vp_in x2 96) : mn_E 132 46 [.ref 63, .int x1, .int x2, .null] [] h r h' ↔ mn_E 132 40 [.ref 63, .int x1, .int (x2 + 1), .null] [] (mn_up h 65 (x2.toNatClampNeg) (h 66 x2.toNatClampNeg)) r h' :=
  (mX_aload_n d_X8_town_46 rfl).trans <| (mG_r (b := 65) d_X8_town_47 fr_132_13 rfl (by decide) rfl).trans <| (mX_iload_n d_X8_town_50 rfl).trans <| (mX_aload_n d_X8_town_51 rfl).trans <| (mG_r (b := 66) d_X8_town_52 fr_132_16 rfl (by decide) rfl).trans <| (mX_iload_n d_X8_town_55 rfl).trans <| (mX_iaload d_X8_town_56 rfl (by decide) hy0).trans <| (mX_iastore d_X8_town_57 rfl (by decide) hy0).trans <| (mX_iinc (ls' := [.ref 63, .int x1, .int (x2 + 1), .null]) d_X8_town_58 rfl ci_1 rfl rfl).trans <| mX_goto d_X8_town_61 rfl
theorem b_X8_town_64 {x1 x2 : Int32} {h h' : mn_H} {r : Option Value} : mn_E 132 64 [.ref 63, .int x1, .int x2, .null] [] h r h' ↔ mn_E 132 73 [.ref 63, .int x1, .int (h 67 (3 : Int32).toNatClampNeg), .int 0] [] h r h' :=
  (mX_aload_n d_X8_town_64 rfl).trans <| (mG_r (b := 67) d_X8_town_65 fr_132_19 rfl (by decide) rfl).trans <| (mX_iconst d_X8_town_68 ci_3).trans <| (mX_iaload d_X8_town_69 rfl (by decide) (mn_in_iff (by decide +kernel))).trans <| (mX_istore_n (ls' := [.ref 63, .int x1, .int (h 67 (3 : Int32).toNatClampNeg), .null]) d_X8_town_70 rfl rfl).trans <| (mX_iconst d_X8_town_71 ci_0).trans <| mX_istore_n (ls' := [.ref 63, .int x1, .int (h 67 (3 : Int32).toNatClampNeg), .int 0]) d_X8_town_72 rfl rfl
theorem b_X8_town_73 {x1 x2 x3 : Int32} {h h' : mn_H} {r : Option Value} : mn_E 132 73 [.ref 63, .int x1, .int x2, .int x3] [] h r h' ↔ if (65 : Int32) ≤ x3 then mn_E 132 92 [.ref 63, .int x1, .int x2, .int x3] [] h r h' else mn_E 132 79 [.ref 63, .int x1, .int x2, .int x3] [] h r h' :=
  (mX_iload_n d_X8_town_73 rfl).trans <| (mX_bipush d_X8_town_74 cb_65).trans <| mX_icmp_ge d_X8_town_76 rfl
theorem b_X8_town_79 {x1 x2 x3 : Int32} {h h' : mn_H} {r : Option Value} (hy0 : vp_in x3 65) : mn_E 132 79 [.ref 63, .int x1, .int x2, .int x3] [] h r h' ↔ mn_E 132 73 [.ref 63, .int x1, .int x2, .int (x3 + 1)] [] (mn_up h 67 (x3.toNatClampNeg) 0) r h' :=
  (mX_aload_n d_X8_town_79 rfl).trans <| (mG_r (b := 67) d_X8_town_80 fr_132_19 rfl (by decide) rfl).trans <| (mX_iload_n d_X8_town_83 rfl).trans <| (mX_iconst d_X8_town_84 ci_0).trans <| (mX_iastore d_X8_town_85 rfl (by decide) hy0).trans <| (mX_iinc (ls' := [.ref 63, .int x1, .int x2, .int (x3 + 1)]) d_X8_town_86 rfl ci_1 rfl rfl).trans <| mX_goto d_X8_town_89 rfl
theorem b_X8_town_92 {x1 x2 x3 : Int32} {h h' : mn_H} {r : Option Value} : mn_E 132 92 [.ref 63, .int x1, .int x2, .int x3] [] h r h' ↔ mn_E 132 117 [.ref 63, .int x1, .int x2, .int 0] [] (mn_up (mn_up h 67 ((3 : Int32).toNatClampNeg) x2) 67 ((2 : Int32).toNatClampNeg) ((1 <<< (((mn_up h 67 ((3 : Int32).toNatClampNeg) x2) 65 (1 : Int32).toNatClampNeg) &&& 31)) - 1)) r h' :=
  (mX_aload_n d_X8_town_92 rfl).trans <| (mG_r (b := 67) d_X8_town_93 fr_132_19 rfl (by decide) rfl).trans <| (mX_iconst d_X8_town_96 ci_3).trans <| (mX_iload_n d_X8_town_97 rfl).trans <| (mX_iastore d_X8_town_98 rfl (by decide) (mn_in_iff (by decide +kernel))).trans <| (mX_aload_n d_X8_town_99 rfl).trans <| (mG_r (b := 67) d_X8_town_100 fr_132_19 rfl (by decide) rfl).trans <| (mX_iconst d_X8_town_103 ci_2).trans <| (mX_iconst d_X8_town_104 ci_1).trans <| (mX_aload_n d_X8_town_105 rfl).trans <| (mG_r (b := 65) d_X8_town_106 fr_132_13 rfl (by decide) rfl).trans <| (mX_iconst d_X8_town_109 ci_1).trans <| (mX_iaload d_X8_town_110 rfl (by decide) (mn_in_iff (by decide +kernel))).trans <| (mX_ishl d_X8_town_111).trans <| (mX_iconst d_X8_town_112 ci_1).trans <| (mX_isub d_X8_town_113).trans <| (mX_iastore d_X8_town_114 rfl (by decide) (mn_in_iff (by decide +kernel))).trans <| (mX_iconst d_X8_town_115 ci_0).trans <| mX_istore_n (ls' := [.ref 63, .int x1, .int x2, .int 0]) d_X8_town_116 rfl rfl
theorem b_X8_town_117 {x1 x2 x3 : Int32} {h h' : mn_H} {r : Option Value} : mn_E 132 117 [.ref 63, .int x1, .int x2, .int x3] [] h r h' ↔ if (5 : Int32) ≤ x3 then mn_E 132 135 [.ref 63, .int x1, .int x2, .int x3] [] h r h' else mn_E 132 122 [.ref 63, .int x1, .int x2, .int x3] [] h r h' :=
  (mX_iload_n d_X8_town_117 rfl).trans <| (mX_iconst d_X8_town_118 ci_5).trans <| mX_icmp_ge d_X8_town_119 rfl
theorem b_X8_town_122 {x1 x2 x3 : Int32} {h h' : mn_H} {r : Option Value} (hy0 : vp_in x3 5) : mn_E 132 122 [.ref 63, .int x1, .int x2, .int x3] [] h r h' ↔ mn_E 132 117 [.ref 63, .int x1, .int x2, .int (x3 + 1)] [] (mn_up h 70 (x3.toNatClampNeg) 0) r h' :=
  (mX_aload_n d_X8_town_122 rfl).trans <| (mG_r (b := 70) d_X8_town_123 fr_132_29 rfl (by decide) rfl).trans <| (mX_iload_n d_X8_town_126 rfl).trans <| (mX_iconst d_X8_town_127 ci_0).trans <| (mX_iastore d_X8_town_128 rfl (by decide) hy0).trans <| (mX_iinc (ls' := [.ref 63, .int x1, .int x2, .int (x3 + 1)]) d_X8_town_129 rfl ci_1 rfl rfl).trans <| mX_goto d_X8_town_132 rfl
theorem b_X8_town_135 {x1 x2 x3 : Int32} {h h' : mn_H} {r : Option Value} : mn_E 132 135 [.ref 63, .int x1, .int x2, .int x3] [] h r h' ↔ r = some (.int ((mn_up (mn_up h 69 ((0 : Int32).toNatClampNeg) 0) 69 ((1 : Int32).toNatClampNeg) 0) 65 (0 : Int32).toNatClampNeg)) ∧ h' = mn_up (mn_up h 69 ((0 : Int32).toNatClampNeg) 0) 69 ((1 : Int32).toNatClampNeg) 0 :=
  (mX_aload_n d_X8_town_135 rfl).trans <| (mG_r (b := 69) d_X8_town_136 fr_132_25 rfl (by decide) rfl).trans <| (mX_iconst d_X8_town_139 ci_0).trans <| (mX_iconst d_X8_town_140 ci_0).trans <| (mX_bastore d_X8_town_141 rfl (by decide) (mn_in_iff (by decide +kernel)) (by decide)).trans <| (mX_aload_n d_X8_town_142 rfl).trans <| (mG_r (b := 69) d_X8_town_143 fr_132_25 rfl (by decide) rfl).trans <| (mX_iconst d_X8_town_146 ci_1).trans <| (mX_iconst d_X8_town_147 ci_0).trans <| (mX_bastore d_X8_town_148 rfl (by decide) (mn_in_iff (by decide +kernel)) (by decide)).trans <| (mX_aload_n d_X8_town_149 rfl).trans <| (mG_r (b := 65) d_X8_town_150 fr_132_13 rfl (by decide) rfl).trans <| (mX_iconst d_X8_town_153 ci_0).trans <| (mX_iaload d_X8_town_154 rfl (by decide) (mn_in_iff (by decide +kernel))).trans <| mX_iret d_X8_town_155 rfl
-- X8_fault
theorem mo_133 : mO 133 = 8 := rfl
theorem d_X8_fault_0 : decode (mC 133) 0 = .ok (.aload_n 0, 1) := by decide +kernel
theorem d_X8_fault_1 : decode (mC 133) 1 = .ok (.getfield 35, 3) := by decide +kernel
theorem d_X8_fault_4 : decode (mC 133) 4 = .ok (.ireturn, 1) := by decide +kernel
theorem fi_133_35 : mn_fi 133 8 35 8 9 = true := by decide +kernel
theorem b_X8_fault_0 {h h' : mn_H} {r : Option Value} : mn_E 133 0 [.ref 63] [] h r h' ↔ r = some (.int (h 63 9)) ∧ h' = h :=
  (mX_aload_n d_X8_fault_0 rfl).trans <| (mG_i d_X8_fault_1 fi_133_35 rfl (by decide)).trans <| mX_iret d_X8_fault_4 rfl
-- X8_yesterdayNow
theorem mo_134 : mO 134 = 8 := rfl
theorem d_X8_yesterdayNow_0 : decode (mC 134) 0 = .ok (.aload_n 0, 1) := by decide +kernel
theorem d_X8_yesterdayNow_1 : decode (mC 134) 1 = .ok (.getfield 19, 3) := by decide +kernel
theorem d_X8_yesterdayNow_4 : decode (mC 134) 4 = .ok (.iconst 4, 1) := by decide +kernel
theorem d_X8_yesterdayNow_5 : decode (mC 134) 5 = .ok (.aload_n 0, 1) := by decide +kernel
theorem d_X8_yesterdayNow_6 : decode (mC 134) 6 = .ok (.getfield 19, 3) := by decide +kernel
theorem d_X8_yesterdayNow_9 : decode (mC 134) 9 = .ok (.iconst 0, 1) := by decide +kernel
theorem d_X8_yesterdayNow_10 : decode (mC 134) 10 = .ok (.iaload, 1) := by decide +kernel
theorem d_X8_yesterdayNow_11 : decode (mC 134) 11 = .ok (.iadd, 1) := by decide +kernel
theorem d_X8_yesterdayNow_12 : decode (mC 134) 12 = .ok (.iaload, 1) := by decide +kernel
theorem d_X8_yesterdayNow_13 : decode (mC 134) 13 = .ok (.ireturn, 1) := by decide +kernel
theorem fr_134_19 : mn_fr 134 8 19 8 4 = true := by decide +kernel
theorem b_X8_yesterdayNow_0 {h h' : mn_H} {r : Option Value} (hy0 : vp_in (4 + (h 67 (0 : Int32).toNatClampNeg)) 65) : mn_E 134 0 [.ref 63] [] h r h' ↔ r = some (.int (h 67 (4 + (h 67 (0 : Int32).toNatClampNeg)).toNatClampNeg)) ∧ h' = h :=
  (mX_aload_n d_X8_yesterdayNow_0 rfl).trans <| (mG_r (b := 67) d_X8_yesterdayNow_1 fr_134_19 rfl (by decide) rfl).trans <| (mX_iconst d_X8_yesterdayNow_4 ci_4).trans <| (mX_aload_n d_X8_yesterdayNow_5 rfl).trans <| (mG_r (b := 67) d_X8_yesterdayNow_6 fr_134_19 rfl (by decide) rfl).trans <| (mX_iconst d_X8_yesterdayNow_9 ci_0).trans <| (mX_iaload d_X8_yesterdayNow_10 rfl (by decide) (mn_in_iff (by decide +kernel))).trans <| (mX_iadd d_X8_yesterdayNow_11).trans <| (mX_iaload d_X8_yesterdayNow_12 rfl (by decide) hy0).trans <| mX_iret d_X8_yesterdayNow_13 rfl
-- X8_harmFrom
theorem mo_135 : mO 135 = 8 := rfl
theorem d_X8_harmFrom_0 : decode (mC 135) 0 = .ok (.iconst 0, 1) := by decide +kernel
theorem d_X8_harmFrom_1 : decode (mC 135) 1 = .ok (.istore_n 2, 1) := by decide +kernel
theorem d_X8_harmFrom_2 : decode (mC 135) 2 = .ok (.iload_n 1, 1) := by decide +kernel
theorem d_X8_harmFrom_3 : decode (mC 135) 3 = .ok (.istore_n 3, 1) := by decide +kernel
theorem d_X8_harmFrom_4 : decode (mC 135) 4 = .ok (.iload_n 3, 1) := by decide +kernel
theorem d_X8_harmFrom_5 : decode (mC 135) 5 = .ok (.aload_n 0, 1) := by decide +kernel
theorem d_X8_harmFrom_6 : decode (mC 135) 6 = .ok (.getfield 19, 3) := by decide +kernel
theorem d_X8_harmFrom_9 : decode (mC 135) 9 = .ok (.iconst 0, 1) := by decide +kernel
theorem d_X8_harmFrom_10 : decode (mC 135) 10 = .ok (.iaload, 1) := by decide +kernel
theorem d_X8_harmFrom_11 : decode (mC 135) 11 = .ok (.if_icmp .ge 24, 3) := by decide +kernel
theorem d_X8_harmFrom_14 : decode (mC 135) 14 = .ok (.iload_n 2, 1) := by decide +kernel
theorem d_X8_harmFrom_15 : decode (mC 135) 15 = .ok (.aload_n 0, 1) := by decide +kernel
theorem d_X8_harmFrom_16 : decode (mC 135) 16 = .ok (.aload_n 0, 1) := by decide +kernel
theorem d_X8_harmFrom_17 : decode (mC 135) 17 = .ok (.getfield 19, 3) := by decide +kernel
theorem d_X8_harmFrom_20 : decode (mC 135) 20 = .ok (.iconst 5, 1) := by decide +kernel
theorem d_X8_harmFrom_21 : decode (mC 135) 21 = .ok (.iload_n 3, 1) := by decide +kernel
theorem d_X8_harmFrom_22 : decode (mC 135) 22 = .ok (.iadd, 1) := by decide +kernel
theorem d_X8_harmFrom_23 : decode (mC 135) 23 = .ok (.iaload, 1) := by decide +kernel
theorem d_X8_harmFrom_24 : decode (mC 135) 24 = .ok (.invokevirtual 104, 3) := by decide +kernel
theorem d_X8_harmFrom_27 : decode (mC 135) 27 = .ok (.iadd, 1) := by decide +kernel
theorem d_X8_harmFrom_28 : decode (mC 135) 28 = .ok (.istore_n 2, 1) := by decide +kernel
theorem d_X8_harmFrom_29 : decode (mC 135) 29 = .ok (.iinc 3 1, 3) := by decide +kernel
theorem d_X8_harmFrom_32 : decode (mC 135) 32 = .ok (.goto (-28), 3) := by decide +kernel
theorem d_X8_harmFrom_35 : decode (mC 135) 35 = .ok (.iload_n 2, 1) := by decide +kernel
theorem d_X8_harmFrom_36 : decode (mC 135) 36 = .ok (.ireturn, 1) := by decide +kernel
theorem fr_135_19 : mn_fr 135 8 19 8 4 = true := by decide +kernel
theorem cv_135_104 : mn_cvt 135 8 104 139 = true := by decide +kernel
theorem b_X8_harmFrom_0 {x1 : Int32} {h h' : mn_H} {r : Option Value} : mn_E 135 0 [.ref 63, .int x1, .null, .null] [] h r h' ↔ mn_E 135 4 [.ref 63, .int x1, .int 0, .int x1] [] h r h' :=
  (mX_iconst d_X8_harmFrom_0 ci_0).trans <| (mX_istore_n (ls' := [.ref 63, .int x1, .int 0, .null]) d_X8_harmFrom_1 rfl rfl).trans <| (mX_iload_n d_X8_harmFrom_2 rfl).trans <| mX_istore_n (ls' := [.ref 63, .int x1, .int 0, .int x1]) d_X8_harmFrom_3 rfl rfl
theorem b_X8_harmFrom_4 {x1 x2 x3 : Int32} {h h' : mn_H} {r : Option Value} : mn_E 135 4 [.ref 63, .int x1, .int x2, .int x3] [] h r h' ↔ if (h 67 (0 : Int32).toNatClampNeg) ≤ x3 then mn_E 135 35 [.ref 63, .int x1, .int x2, .int x3] [] h r h' else mn_E 135 14 [.ref 63, .int x1, .int x2, .int x3] [] h r h' :=
  (mX_iload_n d_X8_harmFrom_4 rfl).trans <| (mX_aload_n d_X8_harmFrom_5 rfl).trans <| (mG_r (b := 67) d_X8_harmFrom_6 fr_135_19 rfl (by decide) rfl).trans <| (mX_iconst d_X8_harmFrom_9 ci_0).trans <| (mX_iaload d_X8_harmFrom_10 rfl (by decide) (mn_in_iff (by decide +kernel))).trans <| mX_icmp_ge d_X8_harmFrom_11 rfl
theorem b_X8_harmFrom_14 {x1 x2 x3 : Int32} {h h' : mn_H} {r : Option Value} (hy0 : vp_in (5 + x3) 65) : mn_E 135 14 [.ref 63, .int x1, .int x2, .int x3] [] h r h' ↔ ∃ x h1, mn_X 139 [.ref 63, .int (h 67 (5 + x3).toNatClampNeg)] h (some (.int x)) h1 ∧ mn_E 135 27 [.ref 63, .int x1, .int x2, .int x3] [.int x, .int x2] h1 r h' :=
  (mX_iload_n d_X8_harmFrom_14 rfl).trans <| (mX_aload_n d_X8_harmFrom_15 rfl).trans <| (mX_aload_n d_X8_harmFrom_16 rfl).trans <| (mG_r (b := 67) d_X8_harmFrom_17 fr_135_19 rfl (by decide) rfl).trans <| (mX_iconst d_X8_harmFrom_20 ci_5).trans <| (mX_iload_n d_X8_harmFrom_21 rfl).trans <| (mX_iadd d_X8_harmFrom_22).trans <| (mX_iaload d_X8_harmFrom_23 rfl (by decide) hy0).trans <| mV_i (a := 63) (vs := [.int (h 67 (5 + x3).toNatClampNeg)]) (st' := [.int x2]) d_X8_harmFrom_24 cv_135_104 (Or.inl rfl) (Nat.le_of_ble_eq_true rfl) rfl rfl rfl rfl
theorem b_X8_harmFrom_27 {x1 x2 x3 s0 s1 : Int32} {h h' : mn_H} {r : Option Value} : mn_E 135 27 [.ref 63, .int x1, .int x2, .int x3] [.int s0, .int s1] h r h' ↔ mn_E 135 4 [.ref 63, .int x1, .int (s1 + s0), .int (x3 + 1)] [] h r h' :=
  (mX_iadd d_X8_harmFrom_27).trans <| (mX_istore_n (ls' := [.ref 63, .int x1, .int (s1 + s0), .int x3]) d_X8_harmFrom_28 rfl rfl).trans <| (mX_iinc (ls' := [.ref 63, .int x1, .int (s1 + s0), .int (x3 + 1)]) d_X8_harmFrom_29 rfl ci_1 rfl rfl).trans <| mX_goto d_X8_harmFrom_32 rfl
theorem b_X8_harmFrom_35 {x1 x2 x3 : Int32} {h h' : mn_H} {r : Option Value} : mn_E 135 35 [.ref 63, .int x1, .int x2, .int x3] [] h r h' ↔ r = some (.int x2) ∧ h' = h :=
  (mX_iload_n d_X8_harmFrom_35 rfl).trans <| mX_iret d_X8_harmFrom_36 rfl
-- X8_told
theorem mo_136 : mO 136 = 8 := rfl
theorem d_X8_told_0 : decode (mC 136) 0 = .ok (.iload_n 1, 1) := by decide +kernel
theorem d_X8_told_1 : decode (mC 136) 1 = .ok (.iconst 0, 1) := by decide +kernel
theorem d_X8_told_2 : decode (mC 136) 2 = .ok (.bipush 12, 2) := by decide +kernel
theorem d_X8_told_4 : decode (mC 136) 4 = .ok (.invokestatic 46, 3) := by decide +kernel
theorem d_X8_told_7 : decode (mC 136) 7 = .ok (.ifCond .ne 6, 3) := by decide +kernel
theorem d_X8_told_10 : decode (mC 136) 10 = .ok (.ldc 50, 2) := by decide +kernel
theorem d_X8_told_12 : decode (mC 136) 12 = .ok (.ireturn, 1) := by decide +kernel
theorem d_X8_told_13 : decode (mC 136) 13 = .ok (.iconst 0, 1) := by decide +kernel
theorem d_X8_told_14 : decode (mC 136) 14 = .ok (.istore_n 2, 1) := by decide +kernel
theorem d_X8_told_15 : decode (mC 136) 15 = .ok (.iconst 0, 1) := by decide +kernel
theorem d_X8_told_16 : decode (mC 136) 16 = .ok (.istore_n 3, 1) := by decide +kernel
theorem d_X8_told_17 : decode (mC 136) 17 = .ok (.iload_n 3, 1) := by decide +kernel
theorem d_X8_told_18 : decode (mC 136) 18 = .ok (.iconst 5, 1) := by decide +kernel
theorem d_X8_told_19 : decode (mC 136) 19 = .ok (.if_icmp .ge 18, 3) := by decide +kernel
theorem d_X8_told_22 : decode (mC 136) 22 = .ok (.iload_n 2, 1) := by decide +kernel
theorem d_X8_told_23 : decode (mC 136) 23 = .ok (.aload_n 0, 1) := by decide +kernel
theorem d_X8_told_24 : decode (mC 136) 24 = .ok (.getfield 29, 3) := by decide +kernel
theorem d_X8_told_27 : decode (mC 136) 27 = .ok (.iload_n 3, 1) := by decide +kernel
theorem d_X8_told_28 : decode (mC 136) 28 = .ok (.iaload, 1) := by decide +kernel
theorem d_X8_told_29 : decode (mC 136) 29 = .ok (.iadd, 1) := by decide +kernel
theorem d_X8_told_30 : decode (mC 136) 30 = .ok (.istore_n 2, 1) := by decide +kernel
theorem d_X8_told_31 : decode (mC 136) 31 = .ok (.iinc 3 1, 3) := by decide +kernel
theorem d_X8_told_34 : decode (mC 136) 34 = .ok (.goto (-17), 3) := by decide +kernel
theorem d_X8_told_37 : decode (mC 136) 37 = .ok (.aload_n 0, 1) := by decide +kernel
theorem d_X8_told_38 : decode (mC 136) 38 = .ok (.invokevirtual 107, 3) := by decide +kernel
theorem d_X8_told_41 : decode (mC 136) 41 = .ok (.iload_n 1, 1) := by decide +kernel
theorem d_X8_told_42 : decode (mC 136) 42 = .ok (.iconst 5, 1) := by decide +kernel
theorem d_X8_told_43 : decode (mC 136) 43 = .ok (.if_icmp .ge 12, 3) := by decide +kernel
theorem d_X8_told_46 : decode (mC 136) 46 = .ok (.aload_n 0, 1) := by decide +kernel
theorem d_X8_told_47 : decode (mC 136) 47 = .ok (.getfield 13, 3) := by decide +kernel
theorem d_X8_told_50 : decode (mC 136) 50 = .ok (.iload_n 1, 1) := by decide +kernel
theorem d_X8_told_51 : decode (mC 136) 51 = .ok (.iaload, 1) := by decide +kernel
theorem d_X8_told_52 : decode (mC 136) 52 = .ok (.goto 101, 3) := by decide +kernel
theorem d_X8_told_55 : decode (mC 136) 55 = .ok (.iload_n 1, 1) := by decide +kernel
theorem d_X8_told_56 : decode (mC 136) 56 = .ok (.iconst 5, 1) := by decide +kernel
theorem d_X8_told_57 : decode (mC 136) 57 = .ok (.if_icmp .ne 10, 3) := by decide +kernel
theorem d_X8_told_60 : decode (mC 136) 60 = .ok (.aload_n 0, 1) := by decide +kernel
theorem d_X8_told_61 : decode (mC 136) 61 = .ok (.getfield 51, 3) := by decide +kernel
theorem d_X8_told_64 : decode (mC 136) 64 = .ok (.goto 89, 3) := by decide +kernel
theorem d_X8_told_67 : decode (mC 136) 67 = .ok (.iload_n 1, 1) := by decide +kernel
theorem d_X8_told_68 : decode (mC 136) 68 = .ok (.bipush 6, 2) := by decide +kernel
theorem d_X8_told_70 : decode (mC 136) 70 = .ok (.if_icmp .ne 12, 3) := by decide +kernel
theorem d_X8_told_73 : decode (mC 136) 73 = .ok (.aload_n 0, 1) := by decide +kernel
theorem d_X8_told_74 : decode (mC 136) 74 = .ok (.getfield 19, 3) := by decide +kernel
theorem d_X8_told_77 : decode (mC 136) 77 = .ok (.iconst 0, 1) := by decide +kernel
theorem d_X8_told_78 : decode (mC 136) 78 = .ok (.iaload, 1) := by decide +kernel
theorem d_X8_told_79 : decode (mC 136) 79 = .ok (.goto 74, 3) := by decide +kernel
theorem d_X8_told_82 : decode (mC 136) 82 = .ok (.iload_n 1, 1) := by decide +kernel
theorem d_X8_told_83 : decode (mC 136) 83 = .ok (.bipush 7, 2) := by decide +kernel
theorem d_X8_told_85 : decode (mC 136) 85 = .ok (.if_icmp .ne 10, 3) := by decide +kernel
theorem d_X8_told_88 : decode (mC 136) 88 = .ok (.aload_n 0, 1) := by decide +kernel
theorem d_X8_told_89 : decode (mC 136) 89 = .ok (.invokevirtual 110, 3) := by decide +kernel
theorem d_X8_told_92 : decode (mC 136) 92 = .ok (.goto 61, 3) := by decide +kernel
theorem d_X8_told_95 : decode (mC 136) 95 = .ok (.iload_n 1, 1) := by decide +kernel
theorem d_X8_told_96 : decode (mC 136) 96 = .ok (.bipush 8, 2) := by decide +kernel
theorem d_X8_told_98 : decode (mC 136) 98 = .ok (.if_icmp .ne 11, 3) := by decide +kernel
theorem d_X8_told_101 : decode (mC 136) 101 = .ok (.aload_n 0, 1) := by decide +kernel
theorem d_X8_told_102 : decode (mC 136) 102 = .ok (.iconst 0, 1) := by decide +kernel
theorem d_X8_told_103 : decode (mC 136) 103 = .ok (.invokevirtual 114, 3) := by decide +kernel
theorem d_X8_told_106 : decode (mC 136) 106 = .ok (.goto 47, 3) := by decide +kernel
theorem d_X8_told_109 : decode (mC 136) 109 = .ok (.iload_n 1, 1) := by decide +kernel
theorem d_X8_told_110 : decode (mC 136) 110 = .ok (.bipush 9, 2) := by decide +kernel
theorem d_X8_told_112 : decode (mC 136) 112 = .ok (.if_icmp .ne 12, 3) := by decide +kernel
theorem d_X8_told_115 : decode (mC 136) 115 = .ok (.aload_n 0, 1) := by decide +kernel
theorem d_X8_told_116 : decode (mC 136) 116 = .ok (.getfield 19, 3) := by decide +kernel
theorem d_X8_told_119 : decode (mC 136) 119 = .ok (.iconst 1, 1) := by decide +kernel
theorem d_X8_told_120 : decode (mC 136) 120 = .ok (.iaload, 1) := by decide +kernel
theorem d_X8_told_121 : decode (mC 136) 121 = .ok (.goto 32, 3) := by decide +kernel
theorem d_X8_told_124 : decode (mC 136) 124 = .ok (.iload_n 1, 1) := by decide +kernel
theorem d_X8_told_125 : decode (mC 136) 125 = .ok (.bipush 10, 2) := by decide +kernel
theorem d_X8_told_127 : decode (mC 136) 127 = .ok (.if_icmp .ne 12, 3) := by decide +kernel
theorem d_X8_told_130 : decode (mC 136) 130 = .ok (.aload_n 0, 1) := by decide +kernel
theorem d_X8_told_131 : decode (mC 136) 131 = .ok (.getfield 19, 3) := by decide +kernel
theorem d_X8_told_134 : decode (mC 136) 134 = .ok (.iconst 2, 1) := by decide +kernel
theorem d_X8_told_135 : decode (mC 136) 135 = .ok (.iaload, 1) := by decide +kernel
theorem d_X8_told_136 : decode (mC 136) 136 = .ok (.goto 17, 3) := by decide +kernel
theorem d_X8_told_139 : decode (mC 136) 139 = .ok (.iload_n 1, 1) := by decide +kernel
theorem d_X8_told_140 : decode (mC 136) 140 = .ok (.bipush 11, 2) := by decide +kernel
theorem d_X8_told_142 : decode (mC 136) 142 = .ok (.if_icmp .ne 7, 3) := by decide +kernel
theorem d_X8_told_145 : decode (mC 136) 145 = .ok (.iload_n 2, 1) := by decide +kernel
theorem d_X8_told_146 : decode (mC 136) 146 = .ok (.goto 7, 3) := by decide +kernel
theorem d_X8_told_149 : decode (mC 136) 149 = .ok (.aload_n 0, 1) := by decide +kernel
theorem d_X8_told_150 : decode (mC 136) 150 = .ok (.invokevirtual 117, 3) := by decide +kernel
theorem d_X8_told_153 : decode (mC 136) 153 = .ok (.ireturn, 1) := by decide +kernel
theorem cs_136_46 : mn_cs 136 8 46 114 = true := by decide +kernel
theorem fr_136_29 : mn_fr 136 8 29 8 7 = true := by decide +kernel
theorem cv_136_107 : mn_cvt 136 8 107 141 = true := by decide +kernel
theorem fr_136_13 : mn_fr 136 8 13 8 2 = true := by decide +kernel
theorem fi_136_51 : mn_fi 136 8 51 8 1 = true := by decide +kernel
theorem fr_136_19 : mn_fr 136 8 19 8 4 = true := by decide +kernel
theorem cv_136_110 : mn_cvt 136 8 110 134 = true := by decide +kernel
theorem cv_136_114 : mn_cvt 136 8 114 135 = true := by decide +kernel
theorem cv_136_117 : mn_cvt 136 8 117 146 = true := by decide +kernel
theorem b_X8_told_0 {x1 : Int32} {h h' : mn_H} {r : Option Value} : mn_E 136 0 [.ref 63, .int x1, .null, .null] [] h r h' ↔ ∃ x h1, mn_X 114 [.int x1, .int 0, .int 12] h (some (.int x)) h1 ∧ mn_E 136 7 [.ref 63, .int x1, .null, .null] [.int x] h1 r h' :=
  (mX_iload_n d_X8_told_0 rfl).trans <| (mX_iconst d_X8_told_1 ci_0).trans <| (mX_bipush d_X8_told_2 cb_12).trans <| mS_i (vs := [.int x1, .int 0, .int 12]) (st' := []) d_X8_told_4 cs_136_46 (Or.inr (Or.inl rfl)) (Nat.le_of_ble_eq_true rfl) rfl rfl rfl
theorem b_X8_told_7 {x1 s0 : Int32} {h h' : mn_H} {r : Option Value} : mn_E 136 7 [.ref 63, .int x1, .null, .null] [.int s0] h r h' ↔ if ¬ s0 = 0 then mn_E 136 13 [.ref 63, .int x1, .null, .null] [] h r h' else mn_E 136 10 [.ref 63, .int x1, .null, .null] [] h r h' :=
  mX_if_ne d_X8_told_7 rfl
theorem b_X8_told_10 {x1 : Int32} {h h' : mn_H} {r : Option Value} : mn_E 136 10 [.ref 63, .int x1, .null, .null] [] h r h' ↔ r = some (.int (-1000000002)) ∧ h' = h :=
  (mX_ldc d_X8_told_10 mo_136 kc_8_50 (by decide)).trans <| mX_iret d_X8_told_12 rfl
theorem b_X8_told_13 {x1 : Int32} {h h' : mn_H} {r : Option Value} : mn_E 136 13 [.ref 63, .int x1, .null, .null] [] h r h' ↔ mn_E 136 17 [.ref 63, .int x1, .int 0, .int 0] [] h r h' :=
  (mX_iconst d_X8_told_13 ci_0).trans <| (mX_istore_n (ls' := [.ref 63, .int x1, .int 0, .null]) d_X8_told_14 rfl rfl).trans <| (mX_iconst d_X8_told_15 ci_0).trans <| mX_istore_n (ls' := [.ref 63, .int x1, .int 0, .int 0]) d_X8_told_16 rfl rfl
theorem b_X8_told_17 {x1 x2 x3 : Int32} {h h' : mn_H} {r : Option Value} : mn_E 136 17 [.ref 63, .int x1, .int x2, .int x3] [] h r h' ↔ if (5 : Int32) ≤ x3 then mn_E 136 37 [.ref 63, .int x1, .int x2, .int x3] [] h r h' else mn_E 136 22 [.ref 63, .int x1, .int x2, .int x3] [] h r h' :=
  (mX_iload_n d_X8_told_17 rfl).trans <| (mX_iconst d_X8_told_18 ci_5).trans <| mX_icmp_ge d_X8_told_19 rfl
theorem b_X8_told_22 {x1 x2 x3 : Int32} {h h' : mn_H} {r : Option Value} (hy0 : vp_in x3 5) : mn_E 136 22 [.ref 63, .int x1, .int x2, .int x3] [] h r h' ↔ mn_E 136 17 [.ref 63, .int x1, .int (x2 + (h 70 x3.toNatClampNeg)), .int (x3 + 1)] [] h r h' :=
  (mX_iload_n d_X8_told_22 rfl).trans <| (mX_aload_n d_X8_told_23 rfl).trans <| (mG_r (b := 70) d_X8_told_24 fr_136_29 rfl (by decide) rfl).trans <| (mX_iload_n d_X8_told_27 rfl).trans <| (mX_iaload d_X8_told_28 rfl (by decide) hy0).trans <| (mX_iadd d_X8_told_29).trans <| (mX_istore_n (ls' := [.ref 63, .int x1, .int (x2 + (h 70 x3.toNatClampNeg)), .int x3]) d_X8_told_30 rfl rfl).trans <| (mX_iinc (ls' := [.ref 63, .int x1, .int (x2 + (h 70 x3.toNatClampNeg)), .int (x3 + 1)]) d_X8_told_31 rfl ci_1 rfl rfl).trans <| mX_goto d_X8_told_34 rfl
theorem b_X8_told_37 {x1 x2 x3 : Int32} {h h' : mn_H} {r : Option Value} : mn_E 136 37 [.ref 63, .int x1, .int x2, .int x3] [] h r h' ↔ ∃ h1, mn_X 141 [.ref 63] h none h1 ∧ mn_E 136 41 [.ref 63, .int x1, .int x2, .int x3] [] h1 r h' :=
  (mX_aload_n d_X8_told_37 rfl).trans <| mV_v (a := 63) (vs := []) (st' := []) d_X8_told_38 cv_136_107 rfl (Nat.le_of_ble_eq_true rfl) rfl rfl rfl rfl
theorem b_X8_told_41 {x1 x2 x3 : Int32} {h h' : mn_H} {r : Option Value} : mn_E 136 41 [.ref 63, .int x1, .int x2, .int x3] [] h r h' ↔ if (5 : Int32) ≤ x1 then mn_E 136 55 [.ref 63, .int x1, .int x2, .int x3] [] h r h' else mn_E 136 46 [.ref 63, .int x1, .int x2, .int x3] [] h r h' :=
  (mX_iload_n d_X8_told_41 rfl).trans <| (mX_iconst d_X8_told_42 ci_5).trans <| mX_icmp_ge d_X8_told_43 rfl
theorem b_X8_told_46 {x1 x2 x3 : Int32} {h h' : mn_H} {r : Option Value} (hy0 : vp_in x1 96) : mn_E 136 46 [.ref 63, .int x1, .int x2, .int x3] [] h r h' ↔ mn_E 136 153 [.ref 63, .int x1, .int x2, .int x3] [.int (h 65 x1.toNatClampNeg)] h r h' :=
  (mX_aload_n d_X8_told_46 rfl).trans <| (mG_r (b := 65) d_X8_told_47 fr_136_13 rfl (by decide) rfl).trans <| (mX_iload_n d_X8_told_50 rfl).trans <| (mX_iaload d_X8_told_51 rfl (by decide) hy0).trans <| mX_goto d_X8_told_52 rfl
theorem b_X8_told_55 {x1 x2 x3 : Int32} {h h' : mn_H} {r : Option Value} : mn_E 136 55 [.ref 63, .int x1, .int x2, .int x3] [] h r h' ↔ if ¬ x1 = 5 then mn_E 136 67 [.ref 63, .int x1, .int x2, .int x3] [] h r h' else mn_E 136 60 [.ref 63, .int x1, .int x2, .int x3] [] h r h' :=
  (mX_iload_n d_X8_told_55 rfl).trans <| (mX_iconst d_X8_told_56 ci_5).trans <| mX_icmp_ne d_X8_told_57 rfl
theorem b_X8_told_60 {x1 x2 x3 : Int32} {h h' : mn_H} {r : Option Value} : mn_E 136 60 [.ref 63, .int x1, .int x2, .int x3] [] h r h' ↔ mn_E 136 153 [.ref 63, .int x1, .int x2, .int x3] [.int (h 63 1)] h r h' :=
  (mX_aload_n d_X8_told_60 rfl).trans <| (mG_i d_X8_told_61 fi_136_51 rfl (by decide)).trans <| mX_goto d_X8_told_64 rfl
theorem b_X8_told_67 {x1 x2 x3 : Int32} {h h' : mn_H} {r : Option Value} : mn_E 136 67 [.ref 63, .int x1, .int x2, .int x3] [] h r h' ↔ if ¬ x1 = 6 then mn_E 136 82 [.ref 63, .int x1, .int x2, .int x3] [] h r h' else mn_E 136 73 [.ref 63, .int x1, .int x2, .int x3] [] h r h' :=
  (mX_iload_n d_X8_told_67 rfl).trans <| (mX_bipush d_X8_told_68 cb_6).trans <| mX_icmp_ne d_X8_told_70 rfl
theorem b_X8_told_73 {x1 x2 x3 : Int32} {h h' : mn_H} {r : Option Value} : mn_E 136 73 [.ref 63, .int x1, .int x2, .int x3] [] h r h' ↔ mn_E 136 153 [.ref 63, .int x1, .int x2, .int x3] [.int (h 67 (0 : Int32).toNatClampNeg)] h r h' :=
  (mX_aload_n d_X8_told_73 rfl).trans <| (mG_r (b := 67) d_X8_told_74 fr_136_19 rfl (by decide) rfl).trans <| (mX_iconst d_X8_told_77 ci_0).trans <| (mX_iaload d_X8_told_78 rfl (by decide) (mn_in_iff (by decide +kernel))).trans <| mX_goto d_X8_told_79 rfl
theorem b_X8_told_82 {x1 x2 x3 : Int32} {h h' : mn_H} {r : Option Value} : mn_E 136 82 [.ref 63, .int x1, .int x2, .int x3] [] h r h' ↔ if ¬ x1 = 7 then mn_E 136 95 [.ref 63, .int x1, .int x2, .int x3] [] h r h' else mn_E 136 88 [.ref 63, .int x1, .int x2, .int x3] [] h r h' :=
  (mX_iload_n d_X8_told_82 rfl).trans <| (mX_bipush d_X8_told_83 cb_7).trans <| mX_icmp_ne d_X8_told_85 rfl
theorem b_X8_told_88 {x1 x2 x3 : Int32} {h h' : mn_H} {r : Option Value} : mn_E 136 88 [.ref 63, .int x1, .int x2, .int x3] [] h r h' ↔ ∃ x h1, mn_X 134 [.ref 63] h (some (.int x)) h1 ∧ mn_E 136 92 [.ref 63, .int x1, .int x2, .int x3] [.int x] h1 r h' :=
  (mX_aload_n d_X8_told_88 rfl).trans <| mV_i (a := 63) (vs := []) (st' := []) d_X8_told_89 cv_136_110 (Or.inl rfl) (Nat.le_of_ble_eq_true rfl) rfl rfl rfl rfl
theorem b_X8_told_92 {x1 x2 x3 s0 : Int32} {h h' : mn_H} {r : Option Value} : mn_E 136 92 [.ref 63, .int x1, .int x2, .int x3] [.int s0] h r h' ↔ mn_E 136 153 [.ref 63, .int x1, .int x2, .int x3] [.int s0] h r h' :=
  mX_goto d_X8_told_92 rfl
theorem b_X8_told_95 {x1 x2 x3 : Int32} {h h' : mn_H} {r : Option Value} : mn_E 136 95 [.ref 63, .int x1, .int x2, .int x3] [] h r h' ↔ if ¬ x1 = 8 then mn_E 136 109 [.ref 63, .int x1, .int x2, .int x3] [] h r h' else mn_E 136 101 [.ref 63, .int x1, .int x2, .int x3] [] h r h' :=
  (mX_iload_n d_X8_told_95 rfl).trans <| (mX_bipush d_X8_told_96 cb_8).trans <| mX_icmp_ne d_X8_told_98 rfl
theorem b_X8_told_101 {x1 x2 x3 : Int32} {h h' : mn_H} {r : Option Value} : mn_E 136 101 [.ref 63, .int x1, .int x2, .int x3] [] h r h' ↔ ∃ x h1, mn_X 135 [.ref 63, .int 0] h (some (.int x)) h1 ∧ mn_E 136 106 [.ref 63, .int x1, .int x2, .int x3] [.int x] h1 r h' :=
  (mX_aload_n d_X8_told_101 rfl).trans <| (mX_iconst d_X8_told_102 ci_0).trans <| mV_i (a := 63) (vs := [.int 0]) (st' := []) d_X8_told_103 cv_136_114 (Or.inl rfl) (Nat.le_of_ble_eq_true rfl) rfl rfl rfl rfl
theorem b_X8_told_106 {x1 x2 x3 s0 : Int32} {h h' : mn_H} {r : Option Value} : mn_E 136 106 [.ref 63, .int x1, .int x2, .int x3] [.int s0] h r h' ↔ mn_E 136 153 [.ref 63, .int x1, .int x2, .int x3] [.int s0] h r h' :=
  mX_goto d_X8_told_106 rfl
theorem b_X8_told_109 {x1 x2 x3 : Int32} {h h' : mn_H} {r : Option Value} : mn_E 136 109 [.ref 63, .int x1, .int x2, .int x3] [] h r h' ↔ if ¬ x1 = 9 then mn_E 136 124 [.ref 63, .int x1, .int x2, .int x3] [] h r h' else mn_E 136 115 [.ref 63, .int x1, .int x2, .int x3] [] h r h' :=
  (mX_iload_n d_X8_told_109 rfl).trans <| (mX_bipush d_X8_told_110 cb_9).trans <| mX_icmp_ne d_X8_told_112 rfl
theorem b_X8_told_115 {x1 x2 x3 : Int32} {h h' : mn_H} {r : Option Value} : mn_E 136 115 [.ref 63, .int x1, .int x2, .int x3] [] h r h' ↔ mn_E 136 153 [.ref 63, .int x1, .int x2, .int x3] [.int (h 67 (1 : Int32).toNatClampNeg)] h r h' :=
  (mX_aload_n d_X8_told_115 rfl).trans <| (mG_r (b := 67) d_X8_told_116 fr_136_19 rfl (by decide) rfl).trans <| (mX_iconst d_X8_told_119 ci_1).trans <| (mX_iaload d_X8_told_120 rfl (by decide) (mn_in_iff (by decide +kernel))).trans <| mX_goto d_X8_told_121 rfl
theorem b_X8_told_124 {x1 x2 x3 : Int32} {h h' : mn_H} {r : Option Value} : mn_E 136 124 [.ref 63, .int x1, .int x2, .int x3] [] h r h' ↔ if ¬ x1 = 10 then mn_E 136 139 [.ref 63, .int x1, .int x2, .int x3] [] h r h' else mn_E 136 130 [.ref 63, .int x1, .int x2, .int x3] [] h r h' :=
  (mX_iload_n d_X8_told_124 rfl).trans <| (mX_bipush d_X8_told_125 cb_10).trans <| mX_icmp_ne d_X8_told_127 rfl
theorem b_X8_told_130 {x1 x2 x3 : Int32} {h h' : mn_H} {r : Option Value} : mn_E 136 130 [.ref 63, .int x1, .int x2, .int x3] [] h r h' ↔ mn_E 136 153 [.ref 63, .int x1, .int x2, .int x3] [.int (h 67 (2 : Int32).toNatClampNeg)] h r h' :=
  (mX_aload_n d_X8_told_130 rfl).trans <| (mG_r (b := 67) d_X8_told_131 fr_136_19 rfl (by decide) rfl).trans <| (mX_iconst d_X8_told_134 ci_2).trans <| (mX_iaload d_X8_told_135 rfl (by decide) (mn_in_iff (by decide +kernel))).trans <| mX_goto d_X8_told_136 rfl
theorem b_X8_told_139 {x1 x2 x3 : Int32} {h h' : mn_H} {r : Option Value} : mn_E 136 139 [.ref 63, .int x1, .int x2, .int x3] [] h r h' ↔ if ¬ x1 = 11 then mn_E 136 149 [.ref 63, .int x1, .int x2, .int x3] [] h r h' else mn_E 136 145 [.ref 63, .int x1, .int x2, .int x3] [] h r h' :=
  (mX_iload_n d_X8_told_139 rfl).trans <| (mX_bipush d_X8_told_140 cb_11).trans <| mX_icmp_ne d_X8_told_142 rfl
theorem b_X8_told_145 {x1 x2 x3 : Int32} {h h' : mn_H} {r : Option Value} : mn_E 136 145 [.ref 63, .int x1, .int x2, .int x3] [] h r h' ↔ mn_E 136 153 [.ref 63, .int x1, .int x2, .int x3] [.int x2] h r h' :=
  (mX_iload_n d_X8_told_145 rfl).trans <| mX_goto d_X8_told_146 rfl
theorem b_X8_told_149 {x1 x2 x3 : Int32} {h h' : mn_H} {r : Option Value} : mn_E 136 149 [.ref 63, .int x1, .int x2, .int x3] [] h r h' ↔ ∃ x h1, mn_X 146 [.ref 63] h (some (.int x)) h1 ∧ mn_E 136 153 [.ref 63, .int x1, .int x2, .int x3] [.int x] h1 r h' :=
  (mX_aload_n d_X8_told_149 rfl).trans <| mV_i (a := 63) (vs := []) (st' := []) d_X8_told_150 cv_136_117 (Or.inl rfl) (Nat.le_of_ble_eq_true rfl) rfl rfl rfl rfl
theorem b_X8_told_153 {x1 x2 x3 s0 : Int32} {h h' : mn_H} {r : Option Value} : mn_E 136 153 [.ref 63, .int x1, .int x2, .int x3] [.int s0] h r h' ↔ r = some (.int s0) ∧ h' = h :=
  mX_iret d_X8_told_153 rfl
-- X8_bell
theorem mo_137 : mO 137 = 8 := rfl
theorem d_X8_bell_0 : decode (mC 137) 0 = .ok (.aload_n 0, 1) := by decide +kernel
theorem d_X8_bell_1 : decode (mC 137) 1 = .ok (.iload_n 1, 1) := by decide +kernel
theorem d_X8_bell_2 : decode (mC 137) 2 = .ok (.invokevirtual 120, 3) := by decide +kernel
theorem d_X8_bell_5 : decode (mC 137) 5 = .ok (.ifCond .ne 6, 3) := by decide +kernel
theorem d_X8_bell_8 : decode (mC 137) 8 = .ok (.ldc 124, 2) := by decide +kernel
theorem d_X8_bell_10 : decode (mC 137) 10 = .ok (.ireturn, 1) := by decide +kernel
theorem d_X8_bell_11 : decode (mC 137) 11 = .ok (.iload_n 2, 1) := by decide +kernel
theorem d_X8_bell_12 : decode (mC 137) 12 = .ok (.iconst 0, 1) := by decide +kernel
theorem d_X8_bell_13 : decode (mC 137) 13 = .ok (.iconst 4, 1) := by decide +kernel
theorem d_X8_bell_14 : decode (mC 137) 14 = .ok (.invokestatic 46, 3) := by decide +kernel
theorem d_X8_bell_17 : decode (mC 137) 17 = .ok (.ifCond .ne 6, 3) := by decide +kernel
theorem d_X8_bell_20 : decode (mC 137) 20 = .ok (.ldc 50, 2) := by decide +kernel
theorem d_X8_bell_22 : decode (mC 137) 22 = .ok (.ireturn, 1) := by decide +kernel
theorem d_X8_bell_23 : decode (mC 137) 23 = .ok (.iconst 0, 1) := by decide +kernel
theorem d_X8_bell_24 : decode (mC 137) 24 = .ok (.istore_n 3, 1) := by decide +kernel
theorem d_X8_bell_25 : decode (mC 137) 25 = .ok (.iconst 0, 1) := by decide +kernel
theorem d_X8_bell_26 : decode (mC 137) 26 = .ok (.istore 4, 2) := by decide +kernel
theorem d_X8_bell_28 : decode (mC 137) 28 = .ok (.iload 4, 2) := by decide +kernel
theorem d_X8_bell_30 : decode (mC 137) 30 = .ok (.aload_n 0, 1) := by decide +kernel
theorem d_X8_bell_31 : decode (mC 137) 31 = .ok (.getfield 13, 3) := by decide +kernel
theorem d_X8_bell_34 : decode (mC 137) 34 = .ok (.iconst 1, 1) := by decide +kernel
theorem d_X8_bell_35 : decode (mC 137) 35 = .ok (.iaload, 1) := by decide +kernel
theorem d_X8_bell_36 : decode (mC 137) 36 = .ok (.if_icmp .ge 46, 3) := by decide +kernel
theorem d_X8_bell_39 : decode (mC 137) 39 = .ok (.iload_n 3, 1) := by decide +kernel
theorem d_X8_bell_40 : decode (mC 137) 40 = .ok (.aload_n 0, 1) := by decide +kernel
theorem d_X8_bell_41 : decode (mC 137) 41 = .ok (.getfield 13, 3) := by decide +kernel
theorem d_X8_bell_44 : decode (mC 137) 44 = .ok (.bipush 20, 2) := by decide +kernel
theorem d_X8_bell_46 : decode (mC 137) 46 = .ok (.iconst 4, 1) := by decide +kernel
theorem d_X8_bell_47 : decode (mC 137) 47 = .ok (.iload 4, 2) := by decide +kernel
theorem d_X8_bell_49 : decode (mC 137) 49 = .ok (.imul, 1) := by decide +kernel
theorem d_X8_bell_50 : decode (mC 137) 50 = .ok (.iadd, 1) := by decide +kernel
theorem d_X8_bell_51 : decode (mC 137) 51 = .ok (.iconst 1, 1) := by decide +kernel
theorem d_X8_bell_52 : decode (mC 137) 52 = .ok (.iadd, 1) := by decide +kernel
theorem d_X8_bell_53 : decode (mC 137) 53 = .ok (.iaload, 1) := by decide +kernel
theorem d_X8_bell_54 : decode (mC 137) 54 = .ok (.iload_n 1, 1) := by decide +kernel
theorem d_X8_bell_55 : decode (mC 137) 55 = .ok (.if_icmp .ne 18, 3) := by decide +kernel
theorem d_X8_bell_58 : decode (mC 137) 58 = .ok (.aload_n 0, 1) := by decide +kernel
theorem d_X8_bell_59 : decode (mC 137) 59 = .ok (.getfield 13, 3) := by decide +kernel
theorem d_X8_bell_62 : decode (mC 137) 62 = .ok (.bipush 20, 2) := by decide +kernel
theorem d_X8_bell_64 : decode (mC 137) 64 = .ok (.iconst 4, 1) := by decide +kernel
theorem d_X8_bell_65 : decode (mC 137) 65 = .ok (.iload 4, 2) := by decide +kernel
theorem d_X8_bell_67 : decode (mC 137) 67 = .ok (.imul, 1) := by decide +kernel
theorem d_X8_bell_68 : decode (mC 137) 68 = .ok (.iadd, 1) := by decide +kernel
theorem d_X8_bell_69 : decode (mC 137) 69 = .ok (.iaload, 1) := by decide +kernel
theorem d_X8_bell_70 : decode (mC 137) 70 = .ok (.goto 4, 3) := by decide +kernel
theorem d_X8_bell_73 : decode (mC 137) 73 = .ok (.iconst 0, 1) := by decide +kernel
theorem d_X8_bell_74 : decode (mC 137) 74 = .ok (.iadd, 1) := by decide +kernel
theorem d_X8_bell_75 : decode (mC 137) 75 = .ok (.istore_n 3, 1) := by decide +kernel
theorem d_X8_bell_76 : decode (mC 137) 76 = .ok (.iinc 4 1, 3) := by decide +kernel
theorem d_X8_bell_79 : decode (mC 137) 79 = .ok (.goto (-51), 3) := by decide +kernel
theorem d_X8_bell_82 : decode (mC 137) 82 = .ok (.iload_n 2, 1) := by decide +kernel
theorem d_X8_bell_83 : decode (mC 137) 83 = .ok (.iconst 3, 1) := by decide +kernel
theorem d_X8_bell_84 : decode (mC 137) 84 = .ok (.if_icmp .ge 18, 3) := by decide +kernel
theorem d_X8_bell_87 : decode (mC 137) 87 = .ok (.aload_n 0, 1) := by decide +kernel
theorem d_X8_bell_88 : decode (mC 137) 88 = .ok (.getfield 13, 3) := by decide +kernel
theorem d_X8_bell_91 : decode (mC 137) 91 = .ok (.iconst 5, 1) := by decide +kernel
theorem d_X8_bell_92 : decode (mC 137) 92 = .ok (.iconst 3, 1) := by decide +kernel
theorem d_X8_bell_93 : decode (mC 137) 93 = .ok (.iload_n 1, 1) := by decide +kernel
theorem d_X8_bell_94 : decode (mC 137) 94 = .ok (.imul, 1) := by decide +kernel
theorem d_X8_bell_95 : decode (mC 137) 95 = .ok (.iadd, 1) := by decide +kernel
theorem d_X8_bell_96 : decode (mC 137) 96 = .ok (.iload_n 2, 1) := by decide +kernel
theorem d_X8_bell_97 : decode (mC 137) 97 = .ok (.iadd, 1) := by decide +kernel
theorem d_X8_bell_98 : decode (mC 137) 98 = .ok (.iaload, 1) := by decide +kernel
theorem d_X8_bell_99 : decode (mC 137) 99 = .ok (.goto 18, 3) := by decide +kernel
theorem d_X8_bell_102 : decode (mC 137) 102 = .ok (.iload_n 2, 1) := by decide +kernel
theorem d_X8_bell_103 : decode (mC 137) 103 = .ok (.iconst 3, 1) := by decide +kernel
theorem d_X8_bell_104 : decode (mC 137) 104 = .ok (.if_icmp .ne 7, 3) := by decide +kernel
theorem d_X8_bell_107 : decode (mC 137) 107 = .ok (.iload_n 3, 1) := by decide +kernel
theorem d_X8_bell_108 : decode (mC 137) 108 = .ok (.goto 9, 3) := by decide +kernel
theorem d_X8_bell_111 : decode (mC 137) 111 = .ok (.aload_n 0, 1) := by decide +kernel
theorem d_X8_bell_112 : decode (mC 137) 112 = .ok (.getfield 29, 3) := by decide +kernel
theorem d_X8_bell_115 : decode (mC 137) 115 = .ok (.iload_n 1, 1) := by decide +kernel
theorem d_X8_bell_116 : decode (mC 137) 116 = .ok (.iaload, 1) := by decide +kernel
theorem d_X8_bell_117 : decode (mC 137) 117 = .ok (.ireturn, 1) := by decide +kernel
theorem cv_137_120 : mn_cvt 137 8 120 115 = true := by decide +kernel
theorem cs_137_46 : mn_cs 137 8 46 114 = true := by decide +kernel
theorem fr_137_13 : mn_fr 137 8 13 8 2 = true := by decide +kernel
theorem fr_137_29 : mn_fr 137 8 29 8 7 = true := by decide +kernel
theorem b_X8_bell_0 {x1 x2 : Int32} {h h' : mn_H} {r : Option Value} : mn_E 137 0 [.ref 63, .int x1, .int x2, .null, .null] [] h r h' ↔ ∃ x h1, mn_X 115 [.ref 63, .int x1] h (some (.int x)) h1 ∧ mn_E 137 5 [.ref 63, .int x1, .int x2, .null, .null] [.int x] h1 r h' :=
  (mX_aload_n d_X8_bell_0 rfl).trans <| (mX_iload_n d_X8_bell_1 rfl).trans <| mV_i (a := 63) (vs := [.int x1]) (st' := []) d_X8_bell_2 cv_137_120 (Or.inr (Or.inl rfl)) (Nat.le_of_ble_eq_true rfl) rfl rfl rfl rfl
theorem b_X8_bell_5 {x1 x2 s0 : Int32} {h h' : mn_H} {r : Option Value} : mn_E 137 5 [.ref 63, .int x1, .int x2, .null, .null] [.int s0] h r h' ↔ if ¬ s0 = 0 then mn_E 137 11 [.ref 63, .int x1, .int x2, .null, .null] [] h r h' else mn_E 137 8 [.ref 63, .int x1, .int x2, .null, .null] [] h r h' :=
  mX_if_ne d_X8_bell_5 rfl
theorem b_X8_bell_8 {x1 x2 : Int32} {h h' : mn_H} {r : Option Value} : mn_E 137 8 [.ref 63, .int x1, .int x2, .null, .null] [] h r h' ↔ r = some (.int (-1000000001)) ∧ h' = h :=
  (mX_ldc d_X8_bell_8 mo_137 kc_8_124 (by decide)).trans <| mX_iret d_X8_bell_10 rfl
theorem b_X8_bell_11 {x1 x2 : Int32} {h h' : mn_H} {r : Option Value} : mn_E 137 11 [.ref 63, .int x1, .int x2, .null, .null] [] h r h' ↔ ∃ x h1, mn_X 114 [.int x2, .int 0, .int 4] h (some (.int x)) h1 ∧ mn_E 137 17 [.ref 63, .int x1, .int x2, .null, .null] [.int x] h1 r h' :=
  (mX_iload_n d_X8_bell_11 rfl).trans <| (mX_iconst d_X8_bell_12 ci_0).trans <| (mX_iconst d_X8_bell_13 ci_4).trans <| mS_i (vs := [.int x2, .int 0, .int 4]) (st' := []) d_X8_bell_14 cs_137_46 (Or.inr (Or.inl rfl)) (Nat.le_of_ble_eq_true rfl) rfl rfl rfl
theorem b_X8_bell_17 {x1 x2 s0 : Int32} {h h' : mn_H} {r : Option Value} : mn_E 137 17 [.ref 63, .int x1, .int x2, .null, .null] [.int s0] h r h' ↔ if ¬ s0 = 0 then mn_E 137 23 [.ref 63, .int x1, .int x2, .null, .null] [] h r h' else mn_E 137 20 [.ref 63, .int x1, .int x2, .null, .null] [] h r h' :=
  mX_if_ne d_X8_bell_17 rfl
theorem b_X8_bell_20 {x1 x2 : Int32} {h h' : mn_H} {r : Option Value} : mn_E 137 20 [.ref 63, .int x1, .int x2, .null, .null] [] h r h' ↔ r = some (.int (-1000000002)) ∧ h' = h :=
  (mX_ldc d_X8_bell_20 mo_137 kc_8_50 (by decide)).trans <| mX_iret d_X8_bell_22 rfl
theorem b_X8_bell_23 {x1 x2 : Int32} {h h' : mn_H} {r : Option Value} : mn_E 137 23 [.ref 63, .int x1, .int x2, .null, .null] [] h r h' ↔ mn_E 137 28 [.ref 63, .int x1, .int x2, .int 0, .int 0] [] h r h' :=
  (mX_iconst d_X8_bell_23 ci_0).trans <| (mX_istore_n (ls' := [.ref 63, .int x1, .int x2, .int 0, .null]) d_X8_bell_24 rfl rfl).trans <| (mX_iconst d_X8_bell_25 ci_0).trans <| mX_istore (ls' := [.ref 63, .int x1, .int x2, .int 0, .int 0]) d_X8_bell_26 rfl rfl
theorem b_X8_bell_28 {x1 x2 x3 x4 : Int32} {h h' : mn_H} {r : Option Value} : mn_E 137 28 [.ref 63, .int x1, .int x2, .int x3, .int x4] [] h r h' ↔ if (h 65 (1 : Int32).toNatClampNeg) ≤ x4 then mn_E 137 82 [.ref 63, .int x1, .int x2, .int x3, .int x4] [] h r h' else mn_E 137 39 [.ref 63, .int x1, .int x2, .int x3, .int x4] [] h r h' :=
  (mX_iload d_X8_bell_28 rfl).trans <| (mX_aload_n d_X8_bell_30 rfl).trans <| (mG_r (b := 65) d_X8_bell_31 fr_137_13 rfl (by decide) rfl).trans <| (mX_iconst d_X8_bell_34 ci_1).trans <| (mX_iaload d_X8_bell_35 rfl (by decide) (mn_in_iff (by decide +kernel))).trans <| mX_icmp_ge d_X8_bell_36 rfl
theorem b_X8_bell_39 {x1 x2 x3 x4 : Int32} {h h' : mn_H} {r : Option Value} (hy0 : vp_in ((20 + (4 * x4)) + 1) 96) : mn_E 137 39 [.ref 63, .int x1, .int x2, .int x3, .int x4] [] h r h' ↔ if ¬ (h 65 ((20 + (4 * x4)) + 1).toNatClampNeg) = x1 then mn_E 137 73 [.ref 63, .int x1, .int x2, .int x3, .int x4] [.int x3] h r h' else mn_E 137 58 [.ref 63, .int x1, .int x2, .int x3, .int x4] [.int x3] h r h' :=
  (mX_iload_n d_X8_bell_39 rfl).trans <| (mX_aload_n d_X8_bell_40 rfl).trans <| (mG_r (b := 65) d_X8_bell_41 fr_137_13 rfl (by decide) rfl).trans <| (mX_bipush d_X8_bell_44 cb_20).trans <| (mX_iconst d_X8_bell_46 ci_4).trans <| (mX_iload d_X8_bell_47 rfl).trans <| (mX_imul d_X8_bell_49).trans <| (mX_iadd d_X8_bell_50).trans <| (mX_iconst d_X8_bell_51 ci_1).trans <| (mX_iadd d_X8_bell_52).trans <| (mX_iaload d_X8_bell_53 rfl (by decide) hy0).trans <| (mX_iload_n d_X8_bell_54 rfl).trans <| mX_icmp_ne d_X8_bell_55 rfl
theorem b_X8_bell_58 {x1 x2 x3 x4 s0 : Int32} {h h' : mn_H} {r : Option Value} (hy0 : vp_in (20 + (4 * x4)) 96) : mn_E 137 58 [.ref 63, .int x1, .int x2, .int x3, .int x4] [.int s0] h r h' ↔ mn_E 137 74 [.ref 63, .int x1, .int x2, .int x3, .int x4] [.int (h 65 (20 + (4 * x4)).toNatClampNeg), .int s0] h r h' :=
  (mX_aload_n d_X8_bell_58 rfl).trans <| (mG_r (b := 65) d_X8_bell_59 fr_137_13 rfl (by decide) rfl).trans <| (mX_bipush d_X8_bell_62 cb_20).trans <| (mX_iconst d_X8_bell_64 ci_4).trans <| (mX_iload d_X8_bell_65 rfl).trans <| (mX_imul d_X8_bell_67).trans <| (mX_iadd d_X8_bell_68).trans <| (mX_iaload d_X8_bell_69 rfl (by decide) hy0).trans <| mX_goto d_X8_bell_70 rfl
theorem b_X8_bell_73 {x1 x2 x3 x4 s0 : Int32} {h h' : mn_H} {r : Option Value} : mn_E 137 73 [.ref 63, .int x1, .int x2, .int x3, .int x4] [.int s0] h r h' ↔ mn_E 137 74 [.ref 63, .int x1, .int x2, .int x3, .int x4] [.int 0, .int s0] h r h' :=
  mX_iconst d_X8_bell_73 ci_0
theorem b_X8_bell_74 {x1 x2 x3 x4 s0 s1 : Int32} {h h' : mn_H} {r : Option Value} : mn_E 137 74 [.ref 63, .int x1, .int x2, .int x3, .int x4] [.int s0, .int s1] h r h' ↔ mn_E 137 28 [.ref 63, .int x1, .int x2, .int (s1 + s0), .int (x4 + 1)] [] h r h' :=
  (mX_iadd d_X8_bell_74).trans <| (mX_istore_n (ls' := [.ref 63, .int x1, .int x2, .int (s1 + s0), .int x4]) d_X8_bell_75 rfl rfl).trans <| (mX_iinc (ls' := [.ref 63, .int x1, .int x2, .int (s1 + s0), .int (x4 + 1)]) d_X8_bell_76 rfl ci_1 rfl rfl).trans <| mX_goto d_X8_bell_79 rfl
theorem b_X8_bell_82 {x1 x2 x3 x4 : Int32} {h h' : mn_H} {r : Option Value} : mn_E 137 82 [.ref 63, .int x1, .int x2, .int x3, .int x4] [] h r h' ↔ if (3 : Int32) ≤ x2 then mn_E 137 102 [.ref 63, .int x1, .int x2, .int x3, .int x4] [] h r h' else mn_E 137 87 [.ref 63, .int x1, .int x2, .int x3, .int x4] [] h r h' :=
  (mX_iload_n d_X8_bell_82 rfl).trans <| (mX_iconst d_X8_bell_83 ci_3).trans <| mX_icmp_ge d_X8_bell_84 rfl
theorem b_X8_bell_87 {x1 x2 x3 x4 : Int32} {h h' : mn_H} {r : Option Value} (hy0 : vp_in ((5 + (3 * x1)) + x2) 96) : mn_E 137 87 [.ref 63, .int x1, .int x2, .int x3, .int x4] [] h r h' ↔ mn_E 137 117 [.ref 63, .int x1, .int x2, .int x3, .int x4] [.int (h 65 ((5 + (3 * x1)) + x2).toNatClampNeg)] h r h' :=
  (mX_aload_n d_X8_bell_87 rfl).trans <| (mG_r (b := 65) d_X8_bell_88 fr_137_13 rfl (by decide) rfl).trans <| (mX_iconst d_X8_bell_91 ci_5).trans <| (mX_iconst d_X8_bell_92 ci_3).trans <| (mX_iload_n d_X8_bell_93 rfl).trans <| (mX_imul d_X8_bell_94).trans <| (mX_iadd d_X8_bell_95).trans <| (mX_iload_n d_X8_bell_96 rfl).trans <| (mX_iadd d_X8_bell_97).trans <| (mX_iaload d_X8_bell_98 rfl (by decide) hy0).trans <| mX_goto d_X8_bell_99 rfl
theorem b_X8_bell_102 {x1 x2 x3 x4 : Int32} {h h' : mn_H} {r : Option Value} : mn_E 137 102 [.ref 63, .int x1, .int x2, .int x3, .int x4] [] h r h' ↔ if ¬ x2 = 3 then mn_E 137 111 [.ref 63, .int x1, .int x2, .int x3, .int x4] [] h r h' else mn_E 137 107 [.ref 63, .int x1, .int x2, .int x3, .int x4] [] h r h' :=
  (mX_iload_n d_X8_bell_102 rfl).trans <| (mX_iconst d_X8_bell_103 ci_3).trans <| mX_icmp_ne d_X8_bell_104 rfl
theorem b_X8_bell_107 {x1 x2 x3 x4 : Int32} {h h' : mn_H} {r : Option Value} : mn_E 137 107 [.ref 63, .int x1, .int x2, .int x3, .int x4] [] h r h' ↔ mn_E 137 117 [.ref 63, .int x1, .int x2, .int x3, .int x4] [.int x3] h r h' :=
  (mX_iload_n d_X8_bell_107 rfl).trans <| mX_goto d_X8_bell_108 rfl
theorem b_X8_bell_111 {x1 x2 x3 x4 : Int32} {h h' : mn_H} {r : Option Value} (hy0 : vp_in x1 5) : mn_E 137 111 [.ref 63, .int x1, .int x2, .int x3, .int x4] [] h r h' ↔ mn_E 137 117 [.ref 63, .int x1, .int x2, .int x3, .int x4] [.int (h 70 x1.toNatClampNeg)] h r h' :=
  (mX_aload_n d_X8_bell_111 rfl).trans <| (mG_r (b := 70) d_X8_bell_112 fr_137_29 rfl (by decide) rfl).trans <| (mX_iload_n d_X8_bell_115 rfl).trans <| mX_iaload d_X8_bell_116 rfl (by decide) hy0
theorem b_X8_bell_117 {x1 x2 x3 x4 s0 : Int32} {h h' : mn_H} {r : Option Value} : mn_E 137 117 [.ref 63, .int x1, .int x2, .int x3, .int x4] [.int s0] h r h' ↔ r = some (.int s0) ∧ h' = h :=
  mX_iret d_X8_bell_117 rfl
-- X8_group
theorem mo_138 : mO 138 = 8 := rfl
theorem d_X8_group_0 : decode (mC 138) 0 = .ok (.aload_n 0, 1) := by decide +kernel
theorem d_X8_group_1 : decode (mC 138) 1 = .ok (.iload_n 1, 1) := by decide +kernel
theorem d_X8_group_2 : decode (mC 138) 2 = .ok (.invokevirtual 125, 3) := by decide +kernel
theorem d_X8_group_5 : decode (mC 138) 5 = .ok (.ifCond .ne 6, 3) := by decide +kernel
theorem d_X8_group_8 : decode (mC 138) 8 = .ok (.ldc 124, 2) := by decide +kernel
theorem d_X8_group_10 : decode (mC 138) 10 = .ok (.ireturn, 1) := by decide +kernel
theorem d_X8_group_11 : decode (mC 138) 11 = .ok (.iload_n 2, 1) := by decide +kernel
theorem d_X8_group_12 : decode (mC 138) 12 = .ok (.iconst 0, 1) := by decide +kernel
theorem d_X8_group_13 : decode (mC 138) 13 = .ok (.iconst 5, 1) := by decide +kernel
theorem d_X8_group_14 : decode (mC 138) 14 = .ok (.invokestatic 46, 3) := by decide +kernel
theorem d_X8_group_17 : decode (mC 138) 17 = .ok (.ifCond .ne 6, 3) := by decide +kernel
theorem d_X8_group_20 : decode (mC 138) 20 = .ok (.ldc 50, 2) := by decide +kernel
theorem d_X8_group_22 : decode (mC 138) 22 = .ok (.ireturn, 1) := by decide +kernel
theorem d_X8_group_23 : decode (mC 138) 23 = .ok (.iload_n 2, 1) := by decide +kernel
theorem d_X8_group_24 : decode (mC 138) 24 = .ok (.iconst 4, 1) := by decide +kernel
theorem d_X8_group_25 : decode (mC 138) 25 = .ok (.if_icmp .ge 19, 3) := by decide +kernel
theorem d_X8_group_28 : decode (mC 138) 28 = .ok (.aload_n 0, 1) := by decide +kernel
theorem d_X8_group_29 : decode (mC 138) 29 = .ok (.getfield 13, 3) := by decide +kernel
theorem d_X8_group_32 : decode (mC 138) 32 = .ok (.bipush 20, 2) := by decide +kernel
theorem d_X8_group_34 : decode (mC 138) 34 = .ok (.iconst 4, 1) := by decide +kernel
theorem d_X8_group_35 : decode (mC 138) 35 = .ok (.iload_n 1, 1) := by decide +kernel
theorem d_X8_group_36 : decode (mC 138) 36 = .ok (.imul, 1) := by decide +kernel
theorem d_X8_group_37 : decode (mC 138) 37 = .ok (.iadd, 1) := by decide +kernel
theorem d_X8_group_38 : decode (mC 138) 38 = .ok (.iload_n 2, 1) := by decide +kernel
theorem d_X8_group_39 : decode (mC 138) 39 = .ok (.iadd, 1) := by decide +kernel
theorem d_X8_group_40 : decode (mC 138) 40 = .ok (.iaload, 1) := by decide +kernel
theorem d_X8_group_41 : decode (mC 138) 41 = .ok (.goto 22, 3) := by decide +kernel
theorem d_X8_group_44 : decode (mC 138) 44 = .ok (.aload_n 0, 1) := by decide +kernel
theorem d_X8_group_45 : decode (mC 138) 45 = .ok (.getfield 19, 3) := by decide +kernel
theorem d_X8_group_48 : decode (mC 138) 48 = .ok (.iload_n 2, 1) := by decide +kernel
theorem d_X8_group_49 : decode (mC 138) 49 = .ok (.iconst 4, 1) := by decide +kernel
theorem d_X8_group_50 : decode (mC 138) 50 = .ok (.if_icmp .ne 7, 3) := by decide +kernel
theorem d_X8_group_53 : decode (mC 138) 53 = .ok (.iconst 1, 1) := by decide +kernel
theorem d_X8_group_54 : decode (mC 138) 54 = .ok (.goto 4, 3) := by decide +kernel
theorem d_X8_group_57 : decode (mC 138) 57 = .ok (.iconst 2, 1) := by decide +kernel
theorem d_X8_group_58 : decode (mC 138) 58 = .ok (.iaload, 1) := by decide +kernel
theorem d_X8_group_59 : decode (mC 138) 59 = .ok (.iload_n 1, 1) := by decide +kernel
theorem d_X8_group_60 : decode (mC 138) 60 = .ok (.ishr, 1) := by decide +kernel
theorem d_X8_group_61 : decode (mC 138) 61 = .ok (.iconst 1, 1) := by decide +kernel
theorem d_X8_group_62 : decode (mC 138) 62 = .ok (.iand, 1) := by decide +kernel
theorem d_X8_group_63 : decode (mC 138) 63 = .ok (.ireturn, 1) := by decide +kernel
theorem cv_138_125 : mn_cvt 138 8 125 116 = true := by decide +kernel
theorem cs_138_46 : mn_cs 138 8 46 114 = true := by decide +kernel
theorem fr_138_13 : mn_fr 138 8 13 8 2 = true := by decide +kernel
theorem fr_138_19 : mn_fr 138 8 19 8 4 = true := by decide +kernel
theorem b_X8_group_0 {x1 x2 : Int32} {h h' : mn_H} {r : Option Value} : mn_E 138 0 [.ref 63, .int x1, .int x2] [] h r h' ↔ ∃ x h1, mn_X 116 [.ref 63, .int x1] h (some (.int x)) h1 ∧ mn_E 138 5 [.ref 63, .int x1, .int x2] [.int x] h1 r h' :=
  (mX_aload_n d_X8_group_0 rfl).trans <| (mX_iload_n d_X8_group_1 rfl).trans <| mV_i (a := 63) (vs := [.int x1]) (st' := []) d_X8_group_2 cv_138_125 (Or.inr (Or.inl rfl)) (Nat.le_of_ble_eq_true rfl) rfl rfl rfl rfl
theorem b_X8_group_5 {x1 x2 s0 : Int32} {h h' : mn_H} {r : Option Value} : mn_E 138 5 [.ref 63, .int x1, .int x2] [.int s0] h r h' ↔ if ¬ s0 = 0 then mn_E 138 11 [.ref 63, .int x1, .int x2] [] h r h' else mn_E 138 8 [.ref 63, .int x1, .int x2] [] h r h' :=
  mX_if_ne d_X8_group_5 rfl
theorem b_X8_group_8 {x1 x2 : Int32} {h h' : mn_H} {r : Option Value} : mn_E 138 8 [.ref 63, .int x1, .int x2] [] h r h' ↔ r = some (.int (-1000000001)) ∧ h' = h :=
  (mX_ldc d_X8_group_8 mo_138 kc_8_124 (by decide)).trans <| mX_iret d_X8_group_10 rfl
theorem b_X8_group_11 {x1 x2 : Int32} {h h' : mn_H} {r : Option Value} : mn_E 138 11 [.ref 63, .int x1, .int x2] [] h r h' ↔ ∃ x h1, mn_X 114 [.int x2, .int 0, .int 5] h (some (.int x)) h1 ∧ mn_E 138 17 [.ref 63, .int x1, .int x2] [.int x] h1 r h' :=
  (mX_iload_n d_X8_group_11 rfl).trans <| (mX_iconst d_X8_group_12 ci_0).trans <| (mX_iconst d_X8_group_13 ci_5).trans <| mS_i (vs := [.int x2, .int 0, .int 5]) (st' := []) d_X8_group_14 cs_138_46 (Or.inr (Or.inl rfl)) (Nat.le_of_ble_eq_true rfl) rfl rfl rfl
theorem b_X8_group_17 {x1 x2 s0 : Int32} {h h' : mn_H} {r : Option Value} : mn_E 138 17 [.ref 63, .int x1, .int x2] [.int s0] h r h' ↔ if ¬ s0 = 0 then mn_E 138 23 [.ref 63, .int x1, .int x2] [] h r h' else mn_E 138 20 [.ref 63, .int x1, .int x2] [] h r h' :=
  mX_if_ne d_X8_group_17 rfl
theorem b_X8_group_20 {x1 x2 : Int32} {h h' : mn_H} {r : Option Value} : mn_E 138 20 [.ref 63, .int x1, .int x2] [] h r h' ↔ r = some (.int (-1000000002)) ∧ h' = h :=
  (mX_ldc d_X8_group_20 mo_138 kc_8_50 (by decide)).trans <| mX_iret d_X8_group_22 rfl
theorem b_X8_group_23 {x1 x2 : Int32} {h h' : mn_H} {r : Option Value} : mn_E 138 23 [.ref 63, .int x1, .int x2] [] h r h' ↔ if (4 : Int32) ≤ x2 then mn_E 138 44 [.ref 63, .int x1, .int x2] [] h r h' else mn_E 138 28 [.ref 63, .int x1, .int x2] [] h r h' :=
  (mX_iload_n d_X8_group_23 rfl).trans <| (mX_iconst d_X8_group_24 ci_4).trans <| mX_icmp_ge d_X8_group_25 rfl
theorem b_X8_group_28 {x1 x2 : Int32} {h h' : mn_H} {r : Option Value} (hy0 : vp_in ((20 + (4 * x1)) + x2) 96) : mn_E 138 28 [.ref 63, .int x1, .int x2] [] h r h' ↔ mn_E 138 63 [.ref 63, .int x1, .int x2] [.int (h 65 ((20 + (4 * x1)) + x2).toNatClampNeg)] h r h' :=
  (mX_aload_n d_X8_group_28 rfl).trans <| (mG_r (b := 65) d_X8_group_29 fr_138_13 rfl (by decide) rfl).trans <| (mX_bipush d_X8_group_32 cb_20).trans <| (mX_iconst d_X8_group_34 ci_4).trans <| (mX_iload_n d_X8_group_35 rfl).trans <| (mX_imul d_X8_group_36).trans <| (mX_iadd d_X8_group_37).trans <| (mX_iload_n d_X8_group_38 rfl).trans <| (mX_iadd d_X8_group_39).trans <| (mX_iaload d_X8_group_40 rfl (by decide) hy0).trans <| mX_goto d_X8_group_41 rfl
theorem b_X8_group_44 {x1 x2 : Int32} {h h' : mn_H} {r : Option Value} : mn_E 138 44 [.ref 63, .int x1, .int x2] [] h r h' ↔ if ¬ x2 = 4 then mn_E 138 57 [.ref 63, .int x1, .int x2] [.ref 67] h r h' else mn_E 138 53 [.ref 63, .int x1, .int x2] [.ref 67] h r h' :=
  (mX_aload_n d_X8_group_44 rfl).trans <| (mG_r (b := 67) d_X8_group_45 fr_138_19 rfl (by decide) rfl).trans <| (mX_iload_n d_X8_group_48 rfl).trans <| (mX_iconst d_X8_group_49 ci_4).trans <| mX_icmp_ne d_X8_group_50 rfl
theorem b_X8_group_53 {x1 x2 : Int32} {h h' : mn_H} {r : Option Value} : mn_E 138 53 [.ref 63, .int x1, .int x2] [.ref 67] h r h' ↔ mn_E 138 58 [.ref 63, .int x1, .int x2] [.int 1, .ref 67] h r h' :=
  (mX_iconst d_X8_group_53 ci_1).trans <| mX_goto d_X8_group_54 rfl
theorem b_X8_group_57 {x1 x2 : Int32} {h h' : mn_H} {r : Option Value} : mn_E 138 57 [.ref 63, .int x1, .int x2] [.ref 67] h r h' ↔ mn_E 138 58 [.ref 63, .int x1, .int x2] [.int 2, .ref 67] h r h' :=
  mX_iconst d_X8_group_57 ci_2
theorem b_X8_group_58 {x1 x2 s0 : Int32} {h h' : mn_H} {r : Option Value} (hy0 : vp_in s0 65) : mn_E 138 58 [.ref 63, .int x1, .int x2] [.int s0, .ref 67] h r h' ↔ mn_E 138 63 [.ref 63, .int x1, .int x2] [.int (((h 67 s0.toNatClampNeg) >>> (x1 &&& 31)) &&& 1)] h r h' :=
  (mX_iaload d_X8_group_58 rfl (by decide) hy0).trans <| (mX_iload_n d_X8_group_59 rfl).trans <| (mX_ishr d_X8_group_60).trans <| (mX_iconst d_X8_group_61 ci_1).trans <| mX_iand d_X8_group_62
theorem b_X8_group_63 {x1 x2 s0 : Int32} {h h' : mn_H} {r : Option Value} : mn_E 138 63 [.ref 63, .int x1, .int x2] [.int s0] h r h' ↔ r = some (.int s0) ∧ h' = h :=
  mX_iret d_X8_group_63 rfl
-- X8_harmOf
theorem mo_139 : mO 139 = 8 := rfl
theorem d_X8_harmOf_0 : decode (mC 139) 0 = .ok (.iconst 0, 1) := by decide +kernel
theorem d_X8_harmOf_1 : decode (mC 139) 1 = .ok (.istore_n 2, 1) := by decide +kernel
theorem d_X8_harmOf_2 : decode (mC 139) 2 = .ok (.iconst 0, 1) := by decide +kernel
theorem d_X8_harmOf_3 : decode (mC 139) 3 = .ok (.istore_n 3, 1) := by decide +kernel
theorem d_X8_harmOf_4 : decode (mC 139) 4 = .ok (.iload_n 3, 1) := by decide +kernel
theorem d_X8_harmOf_5 : decode (mC 139) 5 = .ok (.bipush 6, 2) := by decide +kernel
theorem d_X8_harmOf_7 : decode (mC 139) 7 = .ok (.if_icmp .ge 34, 3) := by decide +kernel
theorem d_X8_harmOf_10 : decode (mC 139) 10 = .ok (.iload_n 2, 1) := by decide +kernel
theorem d_X8_harmOf_11 : decode (mC 139) 11 = .ok (.iload_n 1, 1) := by decide +kernel
theorem d_X8_harmOf_12 : decode (mC 139) 12 = .ok (.iload_n 3, 1) := by decide +kernel
theorem d_X8_harmOf_13 : decode (mC 139) 13 = .ok (.ishr, 1) := by decide +kernel
theorem d_X8_harmOf_14 : decode (mC 139) 14 = .ok (.iconst 1, 1) := by decide +kernel
theorem d_X8_harmOf_15 : decode (mC 139) 15 = .ok (.iand, 1) := by decide +kernel
theorem d_X8_harmOf_16 : decode (mC 139) 16 = .ok (.iconst 1, 1) := by decide +kernel
theorem d_X8_harmOf_17 : decode (mC 139) 17 = .ok (.if_icmp .ne 15, 3) := by decide +kernel
theorem d_X8_harmOf_20 : decode (mC 139) 20 = .ok (.aload_n 0, 1) := by decide +kernel
theorem d_X8_harmOf_21 : decode (mC 139) 21 = .ok (.getfield 13, 3) := by decide +kernel
theorem d_X8_harmOf_24 : decode (mC 139) 24 = .ok (.bipush 89, 2) := by decide +kernel
theorem d_X8_harmOf_26 : decode (mC 139) 26 = .ok (.iload_n 3, 1) := by decide +kernel
theorem d_X8_harmOf_27 : decode (mC 139) 27 = .ok (.iadd, 1) := by decide +kernel
theorem d_X8_harmOf_28 : decode (mC 139) 28 = .ok (.iaload, 1) := by decide +kernel
theorem d_X8_harmOf_29 : decode (mC 139) 29 = .ok (.goto 4, 3) := by decide +kernel
theorem d_X8_harmOf_32 : decode (mC 139) 32 = .ok (.iconst 0, 1) := by decide +kernel
theorem d_X8_harmOf_33 : decode (mC 139) 33 = .ok (.iadd, 1) := by decide +kernel
theorem d_X8_harmOf_34 : decode (mC 139) 34 = .ok (.istore_n 2, 1) := by decide +kernel
theorem d_X8_harmOf_35 : decode (mC 139) 35 = .ok (.iinc 3 1, 3) := by decide +kernel
theorem d_X8_harmOf_38 : decode (mC 139) 38 = .ok (.goto (-34), 3) := by decide +kernel
theorem d_X8_harmOf_41 : decode (mC 139) 41 = .ok (.iload_n 2, 1) := by decide +kernel
theorem d_X8_harmOf_42 : decode (mC 139) 42 = .ok (.ireturn, 1) := by decide +kernel
theorem fr_139_13 : mn_fr 139 8 13 8 2 = true := by decide +kernel
theorem b_X8_harmOf_0 {x1 : Int32} {h h' : mn_H} {r : Option Value} : mn_E 139 0 [.ref 63, .int x1, .null, .null] [] h r h' ↔ mn_E 139 4 [.ref 63, .int x1, .int 0, .int 0] [] h r h' :=
  (mX_iconst d_X8_harmOf_0 ci_0).trans <| (mX_istore_n (ls' := [.ref 63, .int x1, .int 0, .null]) d_X8_harmOf_1 rfl rfl).trans <| (mX_iconst d_X8_harmOf_2 ci_0).trans <| mX_istore_n (ls' := [.ref 63, .int x1, .int 0, .int 0]) d_X8_harmOf_3 rfl rfl
theorem b_X8_harmOf_4 {x1 x2 x3 : Int32} {h h' : mn_H} {r : Option Value} : mn_E 139 4 [.ref 63, .int x1, .int x2, .int x3] [] h r h' ↔ if (6 : Int32) ≤ x3 then mn_E 139 41 [.ref 63, .int x1, .int x2, .int x3] [] h r h' else mn_E 139 10 [.ref 63, .int x1, .int x2, .int x3] [] h r h' :=
  (mX_iload_n d_X8_harmOf_4 rfl).trans <| (mX_bipush d_X8_harmOf_5 cb_6).trans <| mX_icmp_ge d_X8_harmOf_7 rfl
theorem b_X8_harmOf_10 {x1 x2 x3 : Int32} {h h' : mn_H} {r : Option Value} : mn_E 139 10 [.ref 63, .int x1, .int x2, .int x3] [] h r h' ↔ if ¬ ((x1 >>> (x3 &&& 31)) &&& 1) = 1 then mn_E 139 32 [.ref 63, .int x1, .int x2, .int x3] [.int x2] h r h' else mn_E 139 20 [.ref 63, .int x1, .int x2, .int x3] [.int x2] h r h' :=
  (mX_iload_n d_X8_harmOf_10 rfl).trans <| (mX_iload_n d_X8_harmOf_11 rfl).trans <| (mX_iload_n d_X8_harmOf_12 rfl).trans <| (mX_ishr d_X8_harmOf_13).trans <| (mX_iconst d_X8_harmOf_14 ci_1).trans <| (mX_iand d_X8_harmOf_15).trans <| (mX_iconst d_X8_harmOf_16 ci_1).trans <| mX_icmp_ne d_X8_harmOf_17 rfl
theorem b_X8_harmOf_20 {x1 x2 x3 s0 : Int32} {h h' : mn_H} {r : Option Value} (hy0 : vp_in (89 + x3) 96) : mn_E 139 20 [.ref 63, .int x1, .int x2, .int x3] [.int s0] h r h' ↔ mn_E 139 33 [.ref 63, .int x1, .int x2, .int x3] [.int (h 65 (89 + x3).toNatClampNeg), .int s0] h r h' :=
  (mX_aload_n d_X8_harmOf_20 rfl).trans <| (mG_r (b := 65) d_X8_harmOf_21 fr_139_13 rfl (by decide) rfl).trans <| (mX_bipush d_X8_harmOf_24 cb_89).trans <| (mX_iload_n d_X8_harmOf_26 rfl).trans <| (mX_iadd d_X8_harmOf_27).trans <| (mX_iaload d_X8_harmOf_28 rfl (by decide) hy0).trans <| mX_goto d_X8_harmOf_29 rfl
theorem b_X8_harmOf_32 {x1 x2 x3 s0 : Int32} {h h' : mn_H} {r : Option Value} : mn_E 139 32 [.ref 63, .int x1, .int x2, .int x3] [.int s0] h r h' ↔ mn_E 139 33 [.ref 63, .int x1, .int x2, .int x3] [.int 0, .int s0] h r h' :=
  mX_iconst d_X8_harmOf_32 ci_0
theorem b_X8_harmOf_33 {x1 x2 x3 s0 s1 : Int32} {h h' : mn_H} {r : Option Value} : mn_E 139 33 [.ref 63, .int x1, .int x2, .int x3] [.int s0, .int s1] h r h' ↔ mn_E 139 4 [.ref 63, .int x1, .int (s1 + s0), .int (x3 + 1)] [] h r h' :=
  (mX_iadd d_X8_harmOf_33).trans <| (mX_istore_n (ls' := [.ref 63, .int x1, .int (s1 + s0), .int x3]) d_X8_harmOf_34 rfl rfl).trans <| (mX_iinc (ls' := [.ref 63, .int x1, .int (s1 + s0), .int (x3 + 1)]) d_X8_harmOf_35 rfl ci_1 rfl rfl).trans <| mX_goto d_X8_harmOf_38 rfl
theorem b_X8_harmOf_41 {x1 x2 x3 : Int32} {h h' : mn_H} {r : Option Value} : mn_E 139 41 [.ref 63, .int x1, .int x2, .int x3] [] h r h' ↔ r = some (.int x2) ∧ h' = h :=
  (mX_iload_n d_X8_harmOf_41 rfl).trans <| mX_iret d_X8_harmOf_42 rfl
-- X8_harm
theorem mo_140 : mO 140 = 8 := rfl
theorem d_X8_harm_0 : decode (mC 140) 0 = .ok (.iload_n 1, 1) := by decide +kernel
theorem d_X8_harm_1 : decode (mC 140) 1 = .ok (.invokestatic 128, 3) := by decide +kernel
theorem d_X8_harm_4 : decode (mC 140) 4 = .ok (.ifCond .eq 11, 3) := by decide +kernel
theorem d_X8_harm_7 : decode (mC 140) 7 = .ok (.aload_n 0, 1) := by decide +kernel
theorem d_X8_harm_8 : decode (mC 140) 8 = .ok (.iload_n 1, 1) := by decide +kernel
theorem d_X8_harm_9 : decode (mC 140) 9 = .ok (.invokevirtual 104, 3) := by decide +kernel
theorem d_X8_harm_12 : decode (mC 140) 12 = .ok (.goto 5, 3) := by decide +kernel
theorem d_X8_harm_15 : decode (mC 140) 15 = .ok (.ldc 50, 2) := by decide +kernel
theorem d_X8_harm_17 : decode (mC 140) 17 = .ok (.ireturn, 1) := by decide +kernel
theorem cs_140_128 : mn_cs 140 8 128 117 = true := by decide +kernel
theorem cv_140_104 : mn_cvt 140 8 104 139 = true := by decide +kernel
theorem b_X8_harm_0 {x1 : Int32} {h h' : mn_H} {r : Option Value} : mn_E 140 0 [.ref 63, .int x1] [] h r h' ↔ ∃ x h1, mn_X 117 [.int x1] h (some (.int x)) h1 ∧ mn_E 140 4 [.ref 63, .int x1] [.int x] h1 r h' :=
  (mX_iload_n d_X8_harm_0 rfl).trans <| mS_i (vs := [.int x1]) (st' := []) d_X8_harm_1 cs_140_128 (Or.inr (Or.inl rfl)) (Nat.le_of_ble_eq_true rfl) rfl rfl rfl
theorem b_X8_harm_4 {x1 s0 : Int32} {h h' : mn_H} {r : Option Value} : mn_E 140 4 [.ref 63, .int x1] [.int s0] h r h' ↔ if s0 = 0 then mn_E 140 15 [.ref 63, .int x1] [] h r h' else mn_E 140 7 [.ref 63, .int x1] [] h r h' :=
  mX_if_eq d_X8_harm_4 rfl
theorem b_X8_harm_7 {x1 : Int32} {h h' : mn_H} {r : Option Value} : mn_E 140 7 [.ref 63, .int x1] [] h r h' ↔ ∃ x h1, mn_X 139 [.ref 63, .int x1] h (some (.int x)) h1 ∧ mn_E 140 12 [.ref 63, .int x1] [.int x] h1 r h' :=
  (mX_aload_n d_X8_harm_7 rfl).trans <| (mX_iload_n d_X8_harm_8 rfl).trans <| mV_i (a := 63) (vs := [.int x1]) (st' := []) d_X8_harm_9 cv_140_104 (Or.inl rfl) (Nat.le_of_ble_eq_true rfl) rfl rfl rfl rfl
theorem b_X8_harm_12 {x1 s0 : Int32} {h h' : mn_H} {r : Option Value} : mn_E 140 12 [.ref 63, .int x1] [.int s0] h r h' ↔ mn_E 140 17 [.ref 63, .int x1] [.int s0] h r h' :=
  mX_goto d_X8_harm_12 rfl
theorem b_X8_harm_15 {x1 : Int32} {h h' : mn_H} {r : Option Value} : mn_E 140 15 [.ref 63, .int x1] [] h r h' ↔ mn_E 140 17 [.ref 63, .int x1] [.int (-1000000002)] h r h' :=
  mX_ldc d_X8_harm_15 mo_140 kc_8_50 (by decide)
theorem b_X8_harm_17 {x1 s0 : Int32} {h h' : mn_H} {r : Option Value} : mn_E 140 17 [.ref 63, .int x1] [.int s0] h r h' ↔ r = some (.int s0) ∧ h' = h :=
  mX_iret d_X8_harm_17 rfl
-- X8_trying
theorem mo_141 : mO 141 = 8 := rfl
theorem d_X8_trying_0 : decode (mC 141) 0 = .ok (.aload_n 0, 1) := by decide +kernel
theorem d_X8_trying_1 : decode (mC 141) 1 = .ok (.aload_n 0, 1) := by decide +kernel
theorem d_X8_trying_2 : decode (mC 141) 2 = .ok (.getfield 19, 3) := by decide +kernel
theorem d_X8_trying_5 : decode (mC 141) 5 = .ok (.iconst 1, 1) := by decide +kernel
theorem d_X8_trying_6 : decode (mC 141) 6 = .ok (.iaload, 1) := by decide +kernel
theorem d_X8_trying_7 : decode (mC 141) 7 = .ok (.putfield 131, 3) := by decide +kernel
theorem d_X8_trying_10 : decode (mC 141) 10 = .ok (.aload_n 0, 1) := by decide +kernel
theorem d_X8_trying_11 : decode (mC 141) 11 = .ok (.aload_n 0, 1) := by decide +kernel
theorem d_X8_trying_12 : decode (mC 141) 12 = .ok (.getfield 19, 3) := by decide +kernel
theorem d_X8_trying_15 : decode (mC 141) 15 = .ok (.iconst 2, 1) := by decide +kernel
theorem d_X8_trying_16 : decode (mC 141) 16 = .ok (.iaload, 1) := by decide +kernel
theorem d_X8_trying_17 : decode (mC 141) 17 = .ok (.putfield 134, 3) := by decide +kernel
theorem d_X8_trying_20 : decode (mC 141) 20 = .ok (.aload_n 0, 1) := by decide +kernel
theorem d_X8_trying_21 : decode (mC 141) 21 = .ok (.iconst (-1), 1) := by decide +kernel
theorem d_X8_trying_22 : decode (mC 141) 22 = .ok (.putfield 137, 3) := by decide +kernel
theorem d_X8_trying_25 : decode (mC 141) 25 = .ok (.aload_n 0, 1) := by decide +kernel
theorem d_X8_trying_26 : decode (mC 141) 26 = .ok (.iconst 0, 1) := by decide +kernel
theorem d_X8_trying_27 : decode (mC 141) 27 = .ok (.putfield 140, 3) := by decide +kernel
theorem d_X8_trying_30 : decode (mC 141) 30 = .ok (.aload_n 0, 1) := by decide +kernel
theorem d_X8_trying_31 : decode (mC 141) 31 = .ok (.iconst (-1), 1) := by decide +kernel
theorem d_X8_trying_32 : decode (mC 141) 32 = .ok (.putfield 143, 3) := by decide +kernel
theorem d_X8_trying_35 : decode (mC 141) 35 = .ok (.aload_n 0, 1) := by decide +kernel
theorem d_X8_trying_36 : decode (mC 141) 36 = .ok (.aload_n 0, 1) := by decide +kernel
theorem d_X8_trying_37 : decode (mC 141) 37 = .ok (.invokevirtual 110, 3) := by decide +kernel
theorem d_X8_trying_40 : decode (mC 141) 40 = .ok (.putfield 146, 3) := by decide +kernel
theorem d_X8_trying_43 : decode (mC 141) 43 = .ok (.aload_n 0, 1) := by decide +kernel
theorem d_X8_trying_44 : decode (mC 141) 44 = .ok (.aload_n 0, 1) := by decide +kernel
theorem d_X8_trying_45 : decode (mC 141) 45 = .ok (.getfield 19, 3) := by decide +kernel
theorem d_X8_trying_48 : decode (mC 141) 48 = .ok (.iconst 0, 1) := by decide +kernel
theorem d_X8_trying_49 : decode (mC 141) 49 = .ok (.iaload, 1) := by decide +kernel
theorem d_X8_trying_50 : decode (mC 141) 50 = .ok (.putfield 149, 3) := by decide +kernel
theorem d_X8_trying_53 : decode (mC 141) 53 = .ok (.return_, 1) := by decide +kernel
theorem fr_141_19 : mn_fr 141 8 19 8 4 = true := by decide +kernel
theorem fi_141_131 : mn_fi 141 8 131 8 13 = true := by decide +kernel
theorem fi_141_134 : mn_fi 141 8 134 8 14 = true := by decide +kernel
theorem fi_141_137 : mn_fi 141 8 137 8 15 = true := by decide +kernel
theorem fi_141_140 : mn_fi 141 8 140 8 16 = true := by decide +kernel
theorem fi_141_143 : mn_fi 141 8 143 8 17 = true := by decide +kernel
theorem cv_141_110 : mn_cvt 141 8 110 134 = true := by decide +kernel
theorem fi_141_146 : mn_fi 141 8 146 8 19 = true := by decide +kernel
theorem fi_141_149 : mn_fi 141 8 149 8 20 = true := by decide +kernel
theorem b_X8_trying_0 {h h' : mn_H} {r : Option Value} : mn_E 141 0 [.ref 63] [] h r h' ↔ ∃ x h1, mn_X 134 [.ref 63] (mn_up (mn_up (mn_up (mn_up (mn_up h 63 13 (h 67 (1 : Int32).toNatClampNeg)) 63 14 ((mn_up h 63 13 (h 67 (1 : Int32).toNatClampNeg)) 67 (2 : Int32).toNatClampNeg)) 63 15 (-1)) 63 16 0) 63 17 (-1)) (some (.int x)) h1 ∧ mn_E 141 40 [.ref 63] [.int x, .ref 63] h1 r h' :=
  (mX_aload_n d_X8_trying_0 rfl).trans <| (mX_aload_n d_X8_trying_1 rfl).trans <| (mG_r (b := 67) d_X8_trying_2 fr_141_19 rfl (by decide) rfl).trans <| (mX_iconst d_X8_trying_5 ci_1).trans <| (mX_iaload d_X8_trying_6 rfl (by decide) (mn_in_iff (by decide +kernel))).trans <| (mP_i d_X8_trying_7 fi_141_131 rfl (by decide) rfl (Or.inl (by decide))).trans <| (mX_aload_n d_X8_trying_10 rfl).trans <| (mX_aload_n d_X8_trying_11 rfl).trans <| (mG_r (b := 67) d_X8_trying_12 fr_141_19 rfl (by decide) rfl).trans <| (mX_iconst d_X8_trying_15 ci_2).trans <| (mX_iaload d_X8_trying_16 rfl (by decide) (mn_in_iff (by decide +kernel))).trans <| (mP_i d_X8_trying_17 fi_141_134 rfl (by decide) rfl (Or.inl (by decide))).trans <| (mX_aload_n d_X8_trying_20 rfl).trans <| (mX_iconst d_X8_trying_21 ci_m1).trans <| (mP_i d_X8_trying_22 fi_141_137 rfl (by decide) rfl (Or.inl (by decide))).trans <| (mX_aload_n d_X8_trying_25 rfl).trans <| (mX_iconst d_X8_trying_26 ci_0).trans <| (mP_i d_X8_trying_27 fi_141_140 rfl (by decide) rfl (Or.inl (by decide))).trans <| (mX_aload_n d_X8_trying_30 rfl).trans <| (mX_iconst d_X8_trying_31 ci_m1).trans <| (mP_i d_X8_trying_32 fi_141_143 rfl (by decide) rfl (Or.inl (by decide))).trans <| (mX_aload_n d_X8_trying_35 rfl).trans <| (mX_aload_n d_X8_trying_36 rfl).trans <| mV_i (a := 63) (vs := []) (st' := [.ref 63]) d_X8_trying_37 cv_141_110 (Or.inl rfl) (Nat.le_of_ble_eq_true rfl) rfl rfl rfl rfl
theorem b_X8_trying_40 {s0 : Int32} {h h' : mn_H} {r : Option Value} : mn_E 141 40 [.ref 63] [.int s0, .ref 63] h r h' ↔ r = none ∧ h' = mn_up (mn_up h 63 19 s0) 63 20 ((mn_up h 63 19 s0) 67 (0 : Int32).toNatClampNeg) :=
  (mP_i d_X8_trying_40 fi_141_146 rfl (by decide) rfl (Or.inl (by decide))).trans <| (mX_aload_n d_X8_trying_43 rfl).trans <| (mX_aload_n d_X8_trying_44 rfl).trans <| (mG_r (b := 67) d_X8_trying_45 fr_141_19 rfl (by decide) rfl).trans <| (mX_iconst d_X8_trying_48 ci_0).trans <| (mX_iaload d_X8_trying_49 rfl (by decide) (mn_in_iff (by decide +kernel))).trans <| (mP_i d_X8_trying_50 fi_141_149 rfl (by decide) rfl (Or.inl (by decide))).trans <| mX_vret d_X8_trying_53 rfl
-- X8_rings
theorem mo_142 : mO 142 = 8 := rfl
theorem d_X8_rings_0 : decode (mC 142) 0 = .ok (.iload 4, 2) := by decide +kernel
theorem d_X8_rings_2 : decode (mC 142) 2 = .ok (.iload_n 1, 1) := by decide +kernel
theorem d_X8_rings_3 : decode (mC 142) 3 = .ok (.ishr, 1) := by decide +kernel
theorem d_X8_rings_4 : decode (mC 142) 4 = .ok (.iconst 1, 1) := by decide +kernel
theorem d_X8_rings_5 : decode (mC 142) 5 = .ok (.iand, 1) := by decide +kernel
theorem d_X8_rings_6 : decode (mC 142) 6 = .ok (.iconst 1, 1) := by decide +kernel
theorem d_X8_rings_7 : decode (mC 142) 7 = .ok (.if_icmp .ne 7, 3) := by decide +kernel
theorem d_X8_rings_10 : decode (mC 142) 10 = .ok (.iconst 1, 1) := by decide +kernel
theorem d_X8_rings_11 : decode (mC 142) 11 = .ok (.goto 4, 3) := by decide +kernel
theorem d_X8_rings_14 : decode (mC 142) 14 = .ok (.iconst 0, 1) := by decide +kernel
theorem d_X8_rings_15 : decode (mC 142) 15 = .ok (.istore 5, 2) := by decide +kernel
theorem d_X8_rings_17 : decode (mC 142) 17 = .ok (.iload 4, 2) := by decide +kernel
theorem d_X8_rings_19 : decode (mC 142) 19 = .ok (.iload_n 2, 1) := by decide +kernel
theorem d_X8_rings_20 : decode (mC 142) 20 = .ok (.ishr, 1) := by decide +kernel
theorem d_X8_rings_21 : decode (mC 142) 21 = .ok (.iconst 1, 1) := by decide +kernel
theorem d_X8_rings_22 : decode (mC 142) 22 = .ok (.iand, 1) := by decide +kernel
theorem d_X8_rings_23 : decode (mC 142) 23 = .ok (.iconst 1, 1) := by decide +kernel
theorem d_X8_rings_24 : decode (mC 142) 24 = .ok (.if_icmp .ne 7, 3) := by decide +kernel
theorem d_X8_rings_27 : decode (mC 142) 27 = .ok (.iconst 1, 1) := by decide +kernel
theorem d_X8_rings_28 : decode (mC 142) 28 = .ok (.goto 4, 3) := by decide +kernel
theorem d_X8_rings_31 : decode (mC 142) 31 = .ok (.iconst 0, 1) := by decide +kernel
theorem d_X8_rings_32 : decode (mC 142) 32 = .ok (.istore 6, 2) := by decide +kernel
theorem d_X8_rings_34 : decode (mC 142) 34 = .ok (.iload_n 0, 1) := by decide +kernel
theorem d_X8_rings_35 : decode (mC 142) 35 = .ok (.ifCond .ne 8, 3) := by decide +kernel
theorem d_X8_rings_38 : decode (mC 142) 38 = .ok (.iload 5, 2) := by decide +kernel
theorem d_X8_rings_40 : decode (mC 142) 40 = .ok (.goto 81, 3) := by decide +kernel
theorem d_X8_rings_43 : decode (mC 142) 43 = .ok (.iload_n 0, 1) := by decide +kernel
theorem d_X8_rings_44 : decode (mC 142) 44 = .ok (.iconst 1, 1) := by decide +kernel
theorem d_X8_rings_45 : decode (mC 142) 45 = .ok (.if_icmp .ne 16, 3) := by decide +kernel
theorem d_X8_rings_48 : decode (mC 142) 48 = .ok (.iload 5, 2) := by decide +kernel
theorem d_X8_rings_50 : decode (mC 142) 50 = .ok (.ifCond .ne 7, 3) := by decide +kernel
theorem d_X8_rings_53 : decode (mC 142) 53 = .ok (.iconst 1, 1) := by decide +kernel
theorem d_X8_rings_54 : decode (mC 142) 54 = .ok (.goto 67, 3) := by decide +kernel
theorem d_X8_rings_57 : decode (mC 142) 57 = .ok (.iconst 0, 1) := by decide +kernel
theorem d_X8_rings_58 : decode (mC 142) 58 = .ok (.goto 63, 3) := by decide +kernel
theorem d_X8_rings_61 : decode (mC 142) 61 = .ok (.iload_n 0, 1) := by decide +kernel
theorem d_X8_rings_62 : decode (mC 142) 62 = .ok (.iconst 2, 1) := by decide +kernel
theorem d_X8_rings_63 : decode (mC 142) 63 = .ok (.if_icmp .ne 21, 3) := by decide +kernel
theorem d_X8_rings_66 : decode (mC 142) 66 = .ok (.iload 5, 2) := by decide +kernel
theorem d_X8_rings_68 : decode (mC 142) 68 = .ok (.ifCond .eq 12, 3) := by decide +kernel
theorem d_X8_rings_71 : decode (mC 142) 71 = .ok (.iload 6, 2) := by decide +kernel
theorem d_X8_rings_73 : decode (mC 142) 73 = .ok (.ifCond .eq 7, 3) := by decide +kernel
theorem d_X8_rings_76 : decode (mC 142) 76 = .ok (.iconst 1, 1) := by decide +kernel
theorem d_X8_rings_77 : decode (mC 142) 77 = .ok (.goto 44, 3) := by decide +kernel
theorem d_X8_rings_80 : decode (mC 142) 80 = .ok (.iconst 0, 1) := by decide +kernel
theorem d_X8_rings_81 : decode (mC 142) 81 = .ok (.goto 40, 3) := by decide +kernel
theorem d_X8_rings_84 : decode (mC 142) 84 = .ok (.iload_n 0, 1) := by decide +kernel
theorem d_X8_rings_85 : decode (mC 142) 85 = .ok (.iconst 3, 1) := by decide +kernel
theorem d_X8_rings_86 : decode (mC 142) 86 = .ok (.if_icmp .ne 21, 3) := by decide +kernel
theorem d_X8_rings_89 : decode (mC 142) 89 = .ok (.iload 5, 2) := by decide +kernel
theorem d_X8_rings_91 : decode (mC 142) 91 = .ok (.ifCond .ne 8, 3) := by decide +kernel
theorem d_X8_rings_94 : decode (mC 142) 94 = .ok (.iload 6, 2) := by decide +kernel
theorem d_X8_rings_96 : decode (mC 142) 96 = .ok (.ifCond .eq 7, 3) := by decide +kernel
theorem d_X8_rings_99 : decode (mC 142) 99 = .ok (.iconst 1, 1) := by decide +kernel
theorem d_X8_rings_100 : decode (mC 142) 100 = .ok (.goto 21, 3) := by decide +kernel
theorem d_X8_rings_103 : decode (mC 142) 103 = .ok (.iconst 0, 1) := by decide +kernel
theorem d_X8_rings_104 : decode (mC 142) 104 = .ok (.goto 17, 3) := by decide +kernel
theorem d_X8_rings_107 : decode (mC 142) 107 = .ok (.iload_n 3, 1) := by decide +kernel
theorem d_X8_rings_108 : decode (mC 142) 108 = .ok (.iload_n 1, 1) := by decide +kernel
theorem d_X8_rings_109 : decode (mC 142) 109 = .ok (.ishr, 1) := by decide +kernel
theorem d_X8_rings_110 : decode (mC 142) 110 = .ok (.iconst 1, 1) := by decide +kernel
theorem d_X8_rings_111 : decode (mC 142) 111 = .ok (.iand, 1) := by decide +kernel
theorem d_X8_rings_112 : decode (mC 142) 112 = .ok (.iconst 1, 1) := by decide +kernel
theorem d_X8_rings_113 : decode (mC 142) 113 = .ok (.if_icmp .ne 7, 3) := by decide +kernel
theorem d_X8_rings_116 : decode (mC 142) 116 = .ok (.iconst 1, 1) := by decide +kernel
theorem d_X8_rings_117 : decode (mC 142) 117 = .ok (.goto 4, 3) := by decide +kernel
theorem d_X8_rings_120 : decode (mC 142) 120 = .ok (.iconst 0, 1) := by decide +kernel
theorem d_X8_rings_121 : decode (mC 142) 121 = .ok (.ireturn, 1) := by decide +kernel
theorem b_X8_rings_0 {x0 x1 x2 x3 x4 : Int32} {h h' : mn_H} {r : Option Value} : mn_E 142 0 [.int x0, .int x1, .int x2, .int x3, .int x4, .null, .null] [] h r h' ↔ if ¬ ((x4 >>> (x1 &&& 31)) &&& 1) = 1 then mn_E 142 14 [.int x0, .int x1, .int x2, .int x3, .int x4, .null, .null] [] h r h' else mn_E 142 10 [.int x0, .int x1, .int x2, .int x3, .int x4, .null, .null] [] h r h' :=
  (mX_iload d_X8_rings_0 rfl).trans <| (mX_iload_n d_X8_rings_2 rfl).trans <| (mX_ishr d_X8_rings_3).trans <| (mX_iconst d_X8_rings_4 ci_1).trans <| (mX_iand d_X8_rings_5).trans <| (mX_iconst d_X8_rings_6 ci_1).trans <| mX_icmp_ne d_X8_rings_7 rfl
theorem b_X8_rings_10 {x0 x1 x2 x3 x4 : Int32} {h h' : mn_H} {r : Option Value} : mn_E 142 10 [.int x0, .int x1, .int x2, .int x3, .int x4, .null, .null] [] h r h' ↔ mn_E 142 15 [.int x0, .int x1, .int x2, .int x3, .int x4, .null, .null] [.int 1] h r h' :=
  (mX_iconst d_X8_rings_10 ci_1).trans <| mX_goto d_X8_rings_11 rfl
theorem b_X8_rings_14 {x0 x1 x2 x3 x4 : Int32} {h h' : mn_H} {r : Option Value} : mn_E 142 14 [.int x0, .int x1, .int x2, .int x3, .int x4, .null, .null] [] h r h' ↔ mn_E 142 15 [.int x0, .int x1, .int x2, .int x3, .int x4, .null, .null] [.int 0] h r h' :=
  mX_iconst d_X8_rings_14 ci_0
theorem b_X8_rings_15 {x0 x1 x2 x3 x4 s0 : Int32} {h h' : mn_H} {r : Option Value} : mn_E 142 15 [.int x0, .int x1, .int x2, .int x3, .int x4, .null, .null] [.int s0] h r h' ↔ if ¬ ((x4 >>> (x2 &&& 31)) &&& 1) = 1 then mn_E 142 31 [.int x0, .int x1, .int x2, .int x3, .int x4, .int s0, .null] [] h r h' else mn_E 142 27 [.int x0, .int x1, .int x2, .int x3, .int x4, .int s0, .null] [] h r h' :=
  (mX_istore (ls' := [.int x0, .int x1, .int x2, .int x3, .int x4, .int s0, .null]) d_X8_rings_15 rfl rfl).trans <| (mX_iload d_X8_rings_17 rfl).trans <| (mX_iload_n d_X8_rings_19 rfl).trans <| (mX_ishr d_X8_rings_20).trans <| (mX_iconst d_X8_rings_21 ci_1).trans <| (mX_iand d_X8_rings_22).trans <| (mX_iconst d_X8_rings_23 ci_1).trans <| mX_icmp_ne d_X8_rings_24 rfl
theorem b_X8_rings_27 {x0 x1 x2 x3 x4 x5 : Int32} {h h' : mn_H} {r : Option Value} : mn_E 142 27 [.int x0, .int x1, .int x2, .int x3, .int x4, .int x5, .null] [] h r h' ↔ mn_E 142 32 [.int x0, .int x1, .int x2, .int x3, .int x4, .int x5, .null] [.int 1] h r h' :=
  (mX_iconst d_X8_rings_27 ci_1).trans <| mX_goto d_X8_rings_28 rfl
theorem b_X8_rings_31 {x0 x1 x2 x3 x4 x5 : Int32} {h h' : mn_H} {r : Option Value} : mn_E 142 31 [.int x0, .int x1, .int x2, .int x3, .int x4, .int x5, .null] [] h r h' ↔ mn_E 142 32 [.int x0, .int x1, .int x2, .int x3, .int x4, .int x5, .null] [.int 0] h r h' :=
  mX_iconst d_X8_rings_31 ci_0
theorem b_X8_rings_32 {x0 x1 x2 x3 x4 x5 s0 : Int32} {h h' : mn_H} {r : Option Value} : mn_E 142 32 [.int x0, .int x1, .int x2, .int x3, .int x4, .int x5, .null] [.int s0] h r h' ↔ if ¬ x0 = 0 then mn_E 142 43 [.int x0, .int x1, .int x2, .int x3, .int x4, .int x5, .int s0] [] h r h' else mn_E 142 38 [.int x0, .int x1, .int x2, .int x3, .int x4, .int x5, .int s0] [] h r h' :=
  (mX_istore (ls' := [.int x0, .int x1, .int x2, .int x3, .int x4, .int x5, .int s0]) d_X8_rings_32 rfl rfl).trans <| (mX_iload_n d_X8_rings_34 rfl).trans <| mX_if_ne d_X8_rings_35 rfl
theorem b_X8_rings_38 {x0 x1 x2 x3 x4 x5 x6 : Int32} {h h' : mn_H} {r : Option Value} : mn_E 142 38 [.int x0, .int x1, .int x2, .int x3, .int x4, .int x5, .int x6] [] h r h' ↔ mn_E 142 121 [.int x0, .int x1, .int x2, .int x3, .int x4, .int x5, .int x6] [.int x5] h r h' :=
  (mX_iload d_X8_rings_38 rfl).trans <| mX_goto d_X8_rings_40 rfl
theorem b_X8_rings_43 {x0 x1 x2 x3 x4 x5 x6 : Int32} {h h' : mn_H} {r : Option Value} : mn_E 142 43 [.int x0, .int x1, .int x2, .int x3, .int x4, .int x5, .int x6] [] h r h' ↔ if ¬ x0 = 1 then mn_E 142 61 [.int x0, .int x1, .int x2, .int x3, .int x4, .int x5, .int x6] [] h r h' else mn_E 142 48 [.int x0, .int x1, .int x2, .int x3, .int x4, .int x5, .int x6] [] h r h' :=
  (mX_iload_n d_X8_rings_43 rfl).trans <| (mX_iconst d_X8_rings_44 ci_1).trans <| mX_icmp_ne d_X8_rings_45 rfl
theorem b_X8_rings_48 {x0 x1 x2 x3 x4 x5 x6 : Int32} {h h' : mn_H} {r : Option Value} : mn_E 142 48 [.int x0, .int x1, .int x2, .int x3, .int x4, .int x5, .int x6] [] h r h' ↔ if ¬ x5 = 0 then mn_E 142 57 [.int x0, .int x1, .int x2, .int x3, .int x4, .int x5, .int x6] [] h r h' else mn_E 142 53 [.int x0, .int x1, .int x2, .int x3, .int x4, .int x5, .int x6] [] h r h' :=
  (mX_iload d_X8_rings_48 rfl).trans <| mX_if_ne d_X8_rings_50 rfl
theorem b_X8_rings_53 {x0 x1 x2 x3 x4 x5 x6 : Int32} {h h' : mn_H} {r : Option Value} : mn_E 142 53 [.int x0, .int x1, .int x2, .int x3, .int x4, .int x5, .int x6] [] h r h' ↔ mn_E 142 121 [.int x0, .int x1, .int x2, .int x3, .int x4, .int x5, .int x6] [.int 1] h r h' :=
  (mX_iconst d_X8_rings_53 ci_1).trans <| mX_goto d_X8_rings_54 rfl
theorem b_X8_rings_57 {x0 x1 x2 x3 x4 x5 x6 : Int32} {h h' : mn_H} {r : Option Value} : mn_E 142 57 [.int x0, .int x1, .int x2, .int x3, .int x4, .int x5, .int x6] [] h r h' ↔ mn_E 142 121 [.int x0, .int x1, .int x2, .int x3, .int x4, .int x5, .int x6] [.int 0] h r h' :=
  (mX_iconst d_X8_rings_57 ci_0).trans <| mX_goto d_X8_rings_58 rfl
theorem b_X8_rings_61 {x0 x1 x2 x3 x4 x5 x6 : Int32} {h h' : mn_H} {r : Option Value} : mn_E 142 61 [.int x0, .int x1, .int x2, .int x3, .int x4, .int x5, .int x6] [] h r h' ↔ if ¬ x0 = 2 then mn_E 142 84 [.int x0, .int x1, .int x2, .int x3, .int x4, .int x5, .int x6] [] h r h' else mn_E 142 66 [.int x0, .int x1, .int x2, .int x3, .int x4, .int x5, .int x6] [] h r h' :=
  (mX_iload_n d_X8_rings_61 rfl).trans <| (mX_iconst d_X8_rings_62 ci_2).trans <| mX_icmp_ne d_X8_rings_63 rfl
theorem b_X8_rings_66 {x0 x1 x2 x3 x4 x5 x6 : Int32} {h h' : mn_H} {r : Option Value} : mn_E 142 66 [.int x0, .int x1, .int x2, .int x3, .int x4, .int x5, .int x6] [] h r h' ↔ if x5 = 0 then mn_E 142 80 [.int x0, .int x1, .int x2, .int x3, .int x4, .int x5, .int x6] [] h r h' else mn_E 142 71 [.int x0, .int x1, .int x2, .int x3, .int x4, .int x5, .int x6] [] h r h' :=
  (mX_iload d_X8_rings_66 rfl).trans <| mX_if_eq d_X8_rings_68 rfl
theorem b_X8_rings_71 {x0 x1 x2 x3 x4 x5 x6 : Int32} {h h' : mn_H} {r : Option Value} : mn_E 142 71 [.int x0, .int x1, .int x2, .int x3, .int x4, .int x5, .int x6] [] h r h' ↔ if x6 = 0 then mn_E 142 80 [.int x0, .int x1, .int x2, .int x3, .int x4, .int x5, .int x6] [] h r h' else mn_E 142 76 [.int x0, .int x1, .int x2, .int x3, .int x4, .int x5, .int x6] [] h r h' :=
  (mX_iload d_X8_rings_71 rfl).trans <| mX_if_eq d_X8_rings_73 rfl
theorem b_X8_rings_76 {x0 x1 x2 x3 x4 x5 x6 : Int32} {h h' : mn_H} {r : Option Value} : mn_E 142 76 [.int x0, .int x1, .int x2, .int x3, .int x4, .int x5, .int x6] [] h r h' ↔ mn_E 142 121 [.int x0, .int x1, .int x2, .int x3, .int x4, .int x5, .int x6] [.int 1] h r h' :=
  (mX_iconst d_X8_rings_76 ci_1).trans <| mX_goto d_X8_rings_77 rfl
theorem b_X8_rings_80 {x0 x1 x2 x3 x4 x5 x6 : Int32} {h h' : mn_H} {r : Option Value} : mn_E 142 80 [.int x0, .int x1, .int x2, .int x3, .int x4, .int x5, .int x6] [] h r h' ↔ mn_E 142 121 [.int x0, .int x1, .int x2, .int x3, .int x4, .int x5, .int x6] [.int 0] h r h' :=
  (mX_iconst d_X8_rings_80 ci_0).trans <| mX_goto d_X8_rings_81 rfl
theorem b_X8_rings_84 {x0 x1 x2 x3 x4 x5 x6 : Int32} {h h' : mn_H} {r : Option Value} : mn_E 142 84 [.int x0, .int x1, .int x2, .int x3, .int x4, .int x5, .int x6] [] h r h' ↔ if ¬ x0 = 3 then mn_E 142 107 [.int x0, .int x1, .int x2, .int x3, .int x4, .int x5, .int x6] [] h r h' else mn_E 142 89 [.int x0, .int x1, .int x2, .int x3, .int x4, .int x5, .int x6] [] h r h' :=
  (mX_iload_n d_X8_rings_84 rfl).trans <| (mX_iconst d_X8_rings_85 ci_3).trans <| mX_icmp_ne d_X8_rings_86 rfl
theorem b_X8_rings_89 {x0 x1 x2 x3 x4 x5 x6 : Int32} {h h' : mn_H} {r : Option Value} : mn_E 142 89 [.int x0, .int x1, .int x2, .int x3, .int x4, .int x5, .int x6] [] h r h' ↔ if ¬ x5 = 0 then mn_E 142 99 [.int x0, .int x1, .int x2, .int x3, .int x4, .int x5, .int x6] [] h r h' else mn_E 142 94 [.int x0, .int x1, .int x2, .int x3, .int x4, .int x5, .int x6] [] h r h' :=
  (mX_iload d_X8_rings_89 rfl).trans <| mX_if_ne d_X8_rings_91 rfl
theorem b_X8_rings_94 {x0 x1 x2 x3 x4 x5 x6 : Int32} {h h' : mn_H} {r : Option Value} : mn_E 142 94 [.int x0, .int x1, .int x2, .int x3, .int x4, .int x5, .int x6] [] h r h' ↔ if x6 = 0 then mn_E 142 103 [.int x0, .int x1, .int x2, .int x3, .int x4, .int x5, .int x6] [] h r h' else mn_E 142 99 [.int x0, .int x1, .int x2, .int x3, .int x4, .int x5, .int x6] [] h r h' :=
  (mX_iload d_X8_rings_94 rfl).trans <| mX_if_eq d_X8_rings_96 rfl
theorem b_X8_rings_99 {x0 x1 x2 x3 x4 x5 x6 : Int32} {h h' : mn_H} {r : Option Value} : mn_E 142 99 [.int x0, .int x1, .int x2, .int x3, .int x4, .int x5, .int x6] [] h r h' ↔ mn_E 142 121 [.int x0, .int x1, .int x2, .int x3, .int x4, .int x5, .int x6] [.int 1] h r h' :=
  (mX_iconst d_X8_rings_99 ci_1).trans <| mX_goto d_X8_rings_100 rfl
theorem b_X8_rings_103 {x0 x1 x2 x3 x4 x5 x6 : Int32} {h h' : mn_H} {r : Option Value} : mn_E 142 103 [.int x0, .int x1, .int x2, .int x3, .int x4, .int x5, .int x6] [] h r h' ↔ mn_E 142 121 [.int x0, .int x1, .int x2, .int x3, .int x4, .int x5, .int x6] [.int 0] h r h' :=
  (mX_iconst d_X8_rings_103 ci_0).trans <| mX_goto d_X8_rings_104 rfl
theorem b_X8_rings_107 {x0 x1 x2 x3 x4 x5 x6 : Int32} {h h' : mn_H} {r : Option Value} : mn_E 142 107 [.int x0, .int x1, .int x2, .int x3, .int x4, .int x5, .int x6] [] h r h' ↔ if ¬ ((x3 >>> (x1 &&& 31)) &&& 1) = 1 then mn_E 142 120 [.int x0, .int x1, .int x2, .int x3, .int x4, .int x5, .int x6] [] h r h' else mn_E 142 116 [.int x0, .int x1, .int x2, .int x3, .int x4, .int x5, .int x6] [] h r h' :=
  (mX_iload_n d_X8_rings_107 rfl).trans <| (mX_iload_n d_X8_rings_108 rfl).trans <| (mX_ishr d_X8_rings_109).trans <| (mX_iconst d_X8_rings_110 ci_1).trans <| (mX_iand d_X8_rings_111).trans <| (mX_iconst d_X8_rings_112 ci_1).trans <| mX_icmp_ne d_X8_rings_113 rfl
theorem b_X8_rings_116 {x0 x1 x2 x3 x4 x5 x6 : Int32} {h h' : mn_H} {r : Option Value} : mn_E 142 116 [.int x0, .int x1, .int x2, .int x3, .int x4, .int x5, .int x6] [] h r h' ↔ mn_E 142 121 [.int x0, .int x1, .int x2, .int x3, .int x4, .int x5, .int x6] [.int 1] h r h' :=
  (mX_iconst d_X8_rings_116 ci_1).trans <| mX_goto d_X8_rings_117 rfl
theorem b_X8_rings_120 {x0 x1 x2 x3 x4 x5 x6 : Int32} {h h' : mn_H} {r : Option Value} : mn_E 142 120 [.int x0, .int x1, .int x2, .int x3, .int x4, .int x5, .int x6] [] h r h' ↔ mn_E 142 121 [.int x0, .int x1, .int x2, .int x3, .int x4, .int x5, .int x6] [.int 0] h r h' :=
  mX_iconst d_X8_rings_120 ci_0
theorem b_X8_rings_121 {x0 x1 x2 x3 x4 x5 x6 s0 : Int32} {h h' : mn_H} {r : Option Value} (hy0 : s0 = 0 ∨ s0 = 1) : mn_E 142 121 [.int x0, .int x1, .int x2, .int x3, .int x4, .int x5, .int x6] [.int s0] h r h' ↔ r = some (.int s0) ∧ h' = h :=
  mX_zret d_X8_rings_121 rfl hy0
-- X8_ringOf
theorem mo_143 : mO 143 = 8 := rfl
theorem d_X8_ringOf_0 : decode (mC 143) 0 = .ok (.iconst 0, 1) := by decide +kernel
theorem d_X8_ringOf_1 : decode (mC 143) 1 = .ok (.istore_n 2, 1) := by decide +kernel
theorem d_X8_ringOf_2 : decode (mC 143) 2 = .ok (.iconst 0, 1) := by decide +kernel
theorem d_X8_ringOf_3 : decode (mC 143) 3 = .ok (.istore_n 3, 1) := by decide +kernel
theorem d_X8_ringOf_4 : decode (mC 143) 4 = .ok (.iload_n 3, 1) := by decide +kernel
theorem d_X8_ringOf_5 : decode (mC 143) 5 = .ok (.aload_n 0, 1) := by decide +kernel
theorem d_X8_ringOf_6 : decode (mC 143) 6 = .ok (.getfield 13, 3) := by decide +kernel
theorem d_X8_ringOf_9 : decode (mC 143) 9 = .ok (.iconst 0, 1) := by decide +kernel
theorem d_X8_ringOf_10 : decode (mC 143) 10 = .ok (.iaload, 1) := by decide +kernel
theorem d_X8_ringOf_11 : decode (mC 143) 11 = .ok (.if_icmp .ge 77, 3) := by decide +kernel
theorem d_X8_ringOf_14 : decode (mC 143) 14 = .ok (.iconst 5, 1) := by decide +kernel
theorem d_X8_ringOf_15 : decode (mC 143) 15 = .ok (.iconst 3, 1) := by decide +kernel
theorem d_X8_ringOf_16 : decode (mC 143) 16 = .ok (.iload_n 3, 1) := by decide +kernel
theorem d_X8_ringOf_17 : decode (mC 143) 17 = .ok (.aload_n 0, 1) := by decide +kernel
theorem d_X8_ringOf_18 : decode (mC 143) 18 = .ok (.getfield 143, 3) := by decide +kernel
theorem d_X8_ringOf_21 : decode (mC 143) 21 = .ok (.if_icmp .ne 10, 3) := by decide +kernel
theorem d_X8_ringOf_24 : decode (mC 143) 24 = .ok (.aload_n 0, 1) := by decide +kernel
theorem d_X8_ringOf_25 : decode (mC 143) 25 = .ok (.getfield 151, 3) := by decide +kernel
theorem d_X8_ringOf_28 : decode (mC 143) 28 = .ok (.goto 4, 3) := by decide +kernel
theorem d_X8_ringOf_31 : decode (mC 143) 31 = .ok (.iload_n 3, 1) := by decide +kernel
theorem d_X8_ringOf_32 : decode (mC 143) 32 = .ok (.imul, 1) := by decide +kernel
theorem d_X8_ringOf_33 : decode (mC 143) 33 = .ok (.iadd, 1) := by decide +kernel
theorem d_X8_ringOf_34 : decode (mC 143) 34 = .ok (.istore 4, 2) := by decide +kernel
theorem d_X8_ringOf_36 : decode (mC 143) 36 = .ok (.iload_n 2, 1) := by decide +kernel
theorem d_X8_ringOf_37 : decode (mC 143) 37 = .ok (.aload_n 0, 1) := by decide +kernel
theorem d_X8_ringOf_38 : decode (mC 143) 38 = .ok (.getfield 13, 3) := by decide +kernel
theorem d_X8_ringOf_41 : decode (mC 143) 41 = .ok (.iload 4, 2) := by decide +kernel
theorem d_X8_ringOf_43 : decode (mC 143) 43 = .ok (.iaload, 1) := by decide +kernel
theorem d_X8_ringOf_44 : decode (mC 143) 44 = .ok (.aload_n 0, 1) := by decide +kernel
theorem d_X8_ringOf_45 : decode (mC 143) 45 = .ok (.getfield 13, 3) := by decide +kernel
theorem d_X8_ringOf_48 : decode (mC 143) 48 = .ok (.iload 4, 2) := by decide +kernel
theorem d_X8_ringOf_50 : decode (mC 143) 50 = .ok (.iconst 1, 1) := by decide +kernel
theorem d_X8_ringOf_51 : decode (mC 143) 51 = .ok (.iadd, 1) := by decide +kernel
theorem d_X8_ringOf_52 : decode (mC 143) 52 = .ok (.iaload, 1) := by decide +kernel
theorem d_X8_ringOf_53 : decode (mC 143) 53 = .ok (.aload_n 0, 1) := by decide +kernel
theorem d_X8_ringOf_54 : decode (mC 143) 54 = .ok (.getfield 13, 3) := by decide +kernel
theorem d_X8_ringOf_57 : decode (mC 143) 57 = .ok (.iload 4, 2) := by decide +kernel
theorem d_X8_ringOf_59 : decode (mC 143) 59 = .ok (.iconst 2, 1) := by decide +kernel
theorem d_X8_ringOf_60 : decode (mC 143) 60 = .ok (.iadd, 1) := by decide +kernel
theorem d_X8_ringOf_61 : decode (mC 143) 61 = .ok (.iaload, 1) := by decide +kernel
theorem d_X8_ringOf_62 : decode (mC 143) 62 = .ok (.aload_n 0, 1) := by decide +kernel
theorem d_X8_ringOf_63 : decode (mC 143) 63 = .ok (.getfield 146, 3) := by decide +kernel
theorem d_X8_ringOf_66 : decode (mC 143) 66 = .ok (.iload_n 1, 1) := by decide +kernel
theorem d_X8_ringOf_67 : decode (mC 143) 67 = .ok (.invokestatic 154, 3) := by decide +kernel
theorem d_X8_ringOf_70 : decode (mC 143) 70 = .ok (.ifCond .eq 9, 3) := by decide +kernel
theorem d_X8_ringOf_73 : decode (mC 143) 73 = .ok (.iconst 1, 1) := by decide +kernel
theorem d_X8_ringOf_74 : decode (mC 143) 74 = .ok (.iload_n 3, 1) := by decide +kernel
theorem d_X8_ringOf_75 : decode (mC 143) 75 = .ok (.ishl, 1) := by decide +kernel
theorem d_X8_ringOf_76 : decode (mC 143) 76 = .ok (.goto 4, 3) := by decide +kernel
theorem d_X8_ringOf_79 : decode (mC 143) 79 = .ok (.iconst 0, 1) := by decide +kernel
theorem d_X8_ringOf_80 : decode (mC 143) 80 = .ok (.ior, 1) := by decide +kernel
theorem d_X8_ringOf_81 : decode (mC 143) 81 = .ok (.istore_n 2, 1) := by decide +kernel
theorem d_X8_ringOf_82 : decode (mC 143) 82 = .ok (.iinc 3 1, 3) := by decide +kernel
theorem d_X8_ringOf_85 : decode (mC 143) 85 = .ok (.goto (-81), 3) := by decide +kernel
theorem d_X8_ringOf_88 : decode (mC 143) 88 = .ok (.iload_n 2, 1) := by decide +kernel
theorem d_X8_ringOf_89 : decode (mC 143) 89 = .ok (.ireturn, 1) := by decide +kernel
theorem fr_143_13 : mn_fr 143 8 13 8 2 = true := by decide +kernel
theorem fi_143_143 : mn_fi 143 8 143 8 17 = true := by decide +kernel
theorem fi_143_151 : mn_fi 143 8 151 8 18 = true := by decide +kernel
theorem fi_143_146 : mn_fi 143 8 146 8 19 = true := by decide +kernel
theorem cs_143_154 : mn_cs 143 8 154 142 = true := by decide +kernel
theorem b_X8_ringOf_0 {x1 : Int32} {h h' : mn_H} {r : Option Value} : mn_E 143 0 [.ref 63, .int x1, .null, .null, .null] [] h r h' ↔ mn_E 143 4 [.ref 63, .int x1, .int 0, .int 0, .null] [] h r h' :=
  (mX_iconst d_X8_ringOf_0 ci_0).trans <| (mX_istore_n (ls' := [.ref 63, .int x1, .int 0, .null, .null]) d_X8_ringOf_1 rfl rfl).trans <| (mX_iconst d_X8_ringOf_2 ci_0).trans <| mX_istore_n (ls' := [.ref 63, .int x1, .int 0, .int 0, .null]) d_X8_ringOf_3 rfl rfl
theorem b_X8_ringOf_4 {x1 x2 x3 : Int32} {w4 : Value} {h h' : mn_H} {r : Option Value} : mn_E 143 4 [.ref 63, .int x1, .int x2, .int x3, w4] [] h r h' ↔ if (h 65 (0 : Int32).toNatClampNeg) ≤ x3 then mn_E 143 88 [.ref 63, .int x1, .int x2, .int x3, w4] [] h r h' else mn_E 143 14 [.ref 63, .int x1, .int x2, .int x3, w4] [] h r h' :=
  (mX_iload_n d_X8_ringOf_4 rfl).trans <| (mX_aload_n d_X8_ringOf_5 rfl).trans <| (mG_r (b := 65) d_X8_ringOf_6 fr_143_13 rfl (by decide) rfl).trans <| (mX_iconst d_X8_ringOf_9 ci_0).trans <| (mX_iaload d_X8_ringOf_10 rfl (by decide) (mn_in_iff (by decide +kernel))).trans <| mX_icmp_ge d_X8_ringOf_11 rfl
theorem b_X8_ringOf_14 {x1 x2 x3 : Int32} {w4 : Value} {h h' : mn_H} {r : Option Value} : mn_E 143 14 [.ref 63, .int x1, .int x2, .int x3, w4] [] h r h' ↔ if ¬ x3 = (h 63 17) then mn_E 143 31 [.ref 63, .int x1, .int x2, .int x3, w4] [.int 3, .int 5] h r h' else mn_E 143 24 [.ref 63, .int x1, .int x2, .int x3, w4] [.int 3, .int 5] h r h' :=
  (mX_iconst d_X8_ringOf_14 ci_5).trans <| (mX_iconst d_X8_ringOf_15 ci_3).trans <| (mX_iload_n d_X8_ringOf_16 rfl).trans <| (mX_aload_n d_X8_ringOf_17 rfl).trans <| (mG_i d_X8_ringOf_18 fi_143_143 rfl (by decide)).trans <| mX_icmp_ne d_X8_ringOf_21 rfl
theorem b_X8_ringOf_24 {x1 x2 x3 s0 s1 : Int32} {w4 : Value} {h h' : mn_H} {r : Option Value} : mn_E 143 24 [.ref 63, .int x1, .int x2, .int x3, w4] [.int s0, .int s1] h r h' ↔ mn_E 143 32 [.ref 63, .int x1, .int x2, .int x3, w4] [.int (h 63 18), .int s0, .int s1] h r h' :=
  (mX_aload_n d_X8_ringOf_24 rfl).trans <| (mG_i d_X8_ringOf_25 fi_143_151 rfl (by decide)).trans <| mX_goto d_X8_ringOf_28 rfl
theorem b_X8_ringOf_31 {x1 x2 x3 s0 s1 : Int32} {w4 : Value} {h h' : mn_H} {r : Option Value} : mn_E 143 31 [.ref 63, .int x1, .int x2, .int x3, w4] [.int s0, .int s1] h r h' ↔ mn_E 143 32 [.ref 63, .int x1, .int x2, .int x3, w4] [.int x3, .int s0, .int s1] h r h' :=
  mX_iload_n d_X8_ringOf_31 rfl
theorem b_X8_ringOf_32 {x1 x2 x3 s0 s1 s2 : Int32} {w4 : Value} {h h' : mn_H} {r : Option Value} (hy0 : vp_in (s2 + (s1 * s0)) 96) (hy1 : vp_in ((s2 + (s1 * s0)) + 1) 96) (hy2 : vp_in ((s2 + (s1 * s0)) + 2) 96) : mn_E 143 32 [.ref 63, .int x1, .int x2, .int x3, w4] [.int s0, .int s1, .int s2] h r h' ↔ ∃ x h1, mn_X 142 [.int (h 65 (s2 + (s1 * s0)).toNatClampNeg), .int (h 65 ((s2 + (s1 * s0)) + 1).toNatClampNeg), .int (h 65 ((s2 + (s1 * s0)) + 2).toNatClampNeg), .int (h 63 19), .int x1] h (some (.int x)) h1 ∧ mn_E 143 70 [.ref 63, .int x1, .int x2, .int x3, .int (s2 + (s1 * s0))] [.int x, .int x2] h1 r h' :=
  (mX_imul d_X8_ringOf_32).trans <| (mX_iadd d_X8_ringOf_33).trans <| (mX_istore (ls' := [.ref 63, .int x1, .int x2, .int x3, .int (s2 + (s1 * s0))]) d_X8_ringOf_34 rfl rfl).trans <| (mX_iload_n d_X8_ringOf_36 rfl).trans <| (mX_aload_n d_X8_ringOf_37 rfl).trans <| (mG_r (b := 65) d_X8_ringOf_38 fr_143_13 rfl (by decide) rfl).trans <| (mX_iload d_X8_ringOf_41 rfl).trans <| (mX_iaload d_X8_ringOf_43 rfl (by decide) hy0).trans <| (mX_aload_n d_X8_ringOf_44 rfl).trans <| (mG_r (b := 65) d_X8_ringOf_45 fr_143_13 rfl (by decide) rfl).trans <| (mX_iload d_X8_ringOf_48 rfl).trans <| (mX_iconst d_X8_ringOf_50 ci_1).trans <| (mX_iadd d_X8_ringOf_51).trans <| (mX_iaload d_X8_ringOf_52 rfl (by decide) hy1).trans <| (mX_aload_n d_X8_ringOf_53 rfl).trans <| (mG_r (b := 65) d_X8_ringOf_54 fr_143_13 rfl (by decide) rfl).trans <| (mX_iload d_X8_ringOf_57 rfl).trans <| (mX_iconst d_X8_ringOf_59 ci_2).trans <| (mX_iadd d_X8_ringOf_60).trans <| (mX_iaload d_X8_ringOf_61 rfl (by decide) hy2).trans <| (mX_aload_n d_X8_ringOf_62 rfl).trans <| (mG_i d_X8_ringOf_63 fi_143_146 rfl (by decide)).trans <| (mX_iload_n d_X8_ringOf_66 rfl).trans <| mS_i (vs := [.int (h 65 (s2 + (s1 * s0)).toNatClampNeg), .int (h 65 ((s2 + (s1 * s0)) + 1).toNatClampNeg), .int (h 65 ((s2 + (s1 * s0)) + 2).toNatClampNeg), .int (h 63 19), .int x1]) (st' := [.int x2]) d_X8_ringOf_67 cs_143_154 (Or.inr (Or.inl rfl)) (Nat.le_of_ble_eq_true rfl) rfl rfl rfl
theorem b_X8_ringOf_70 {x1 x2 x3 x4 s0 s1 : Int32} {h h' : mn_H} {r : Option Value} : mn_E 143 70 [.ref 63, .int x1, .int x2, .int x3, .int x4] [.int s0, .int s1] h r h' ↔ if s0 = 0 then mn_E 143 79 [.ref 63, .int x1, .int x2, .int x3, .int x4] [.int s1] h r h' else mn_E 143 73 [.ref 63, .int x1, .int x2, .int x3, .int x4] [.int s1] h r h' :=
  mX_if_eq d_X8_ringOf_70 rfl
theorem b_X8_ringOf_73 {x1 x2 x3 x4 s0 : Int32} {h h' : mn_H} {r : Option Value} : mn_E 143 73 [.ref 63, .int x1, .int x2, .int x3, .int x4] [.int s0] h r h' ↔ mn_E 143 80 [.ref 63, .int x1, .int x2, .int x3, .int x4] [.int (1 <<< (x3 &&& 31)), .int s0] h r h' :=
  (mX_iconst d_X8_ringOf_73 ci_1).trans <| (mX_iload_n d_X8_ringOf_74 rfl).trans <| (mX_ishl d_X8_ringOf_75).trans <| mX_goto d_X8_ringOf_76 rfl
theorem b_X8_ringOf_79 {x1 x2 x3 x4 s0 : Int32} {h h' : mn_H} {r : Option Value} : mn_E 143 79 [.ref 63, .int x1, .int x2, .int x3, .int x4] [.int s0] h r h' ↔ mn_E 143 80 [.ref 63, .int x1, .int x2, .int x3, .int x4] [.int 0, .int s0] h r h' :=
  mX_iconst d_X8_ringOf_79 ci_0
theorem b_X8_ringOf_80 {x1 x2 x3 x4 s0 s1 : Int32} {h h' : mn_H} {r : Option Value} : mn_E 143 80 [.ref 63, .int x1, .int x2, .int x3, .int x4] [.int s0, .int s1] h r h' ↔ mn_E 143 4 [.ref 63, .int x1, .int (s1 ||| s0), .int (x3 + 1), .int x4] [] h r h' :=
  (mX_ior d_X8_ringOf_80).trans <| (mX_istore_n (ls' := [.ref 63, .int x1, .int (s1 ||| s0), .int x3, .int x4]) d_X8_ringOf_81 rfl rfl).trans <| (mX_iinc (ls' := [.ref 63, .int x1, .int (s1 ||| s0), .int (x3 + 1), .int x4]) d_X8_ringOf_82 rfl ci_1 rfl rfl).trans <| mX_goto d_X8_ringOf_85 rfl
theorem b_X8_ringOf_88 {x1 x2 x3 : Int32} {w4 : Value} {h h' : mn_H} {r : Option Value} : mn_E 143 88 [.ref 63, .int x1, .int x2, .int x3, w4] [] h r h' ↔ r = some (.int x2) ∧ h' = h :=
  (mX_iload_n d_X8_ringOf_88 rfl).trans <| mX_iret d_X8_ringOf_89 rfl
-- X8_doneBy
theorem mo_144 : mO 144 = 8 := rfl
theorem d_X8_doneBy_0 : decode (mC 144) 0 = .ok (.iconst 0, 1) := by decide +kernel
theorem d_X8_doneBy_1 : decode (mC 144) 1 = .ok (.istore_n 3, 1) := by decide +kernel
theorem d_X8_doneBy_2 : decode (mC 144) 2 = .ok (.iconst 0, 1) := by decide +kernel
theorem d_X8_doneBy_3 : decode (mC 144) 3 = .ok (.istore 4, 2) := by decide +kernel
theorem d_X8_doneBy_5 : decode (mC 144) 5 = .ok (.iload 4, 2) := by decide +kernel
theorem d_X8_doneBy_7 : decode (mC 144) 7 = .ok (.aload_n 0, 1) := by decide +kernel
theorem d_X8_doneBy_8 : decode (mC 144) 8 = .ok (.getfield 13, 3) := by decide +kernel
theorem d_X8_doneBy_11 : decode (mC 144) 11 = .ok (.iconst 1, 1) := by decide +kernel
theorem d_X8_doneBy_12 : decode (mC 144) 12 = .ok (.iaload, 1) := by decide +kernel
theorem d_X8_doneBy_13 : decode (mC 144) 13 = .ok (.if_icmp .ge 150, 3) := by decide +kernel
theorem d_X8_doneBy_16 : decode (mC 144) 16 = .ok (.bipush 20, 2) := by decide +kernel
theorem d_X8_doneBy_18 : decode (mC 144) 18 = .ok (.iconst 4, 1) := by decide +kernel
theorem d_X8_doneBy_19 : decode (mC 144) 19 = .ok (.iload 4, 2) := by decide +kernel
theorem d_X8_doneBy_21 : decode (mC 144) 21 = .ok (.imul, 1) := by decide +kernel
theorem d_X8_doneBy_22 : decode (mC 144) 22 = .ok (.iadd, 1) := by decide +kernel
theorem d_X8_doneBy_23 : decode (mC 144) 23 = .ok (.istore 5, 2) := by decide +kernel
theorem d_X8_doneBy_25 : decode (mC 144) 25 = .ok (.iload_n 1, 1) := by decide +kernel
theorem d_X8_doneBy_26 : decode (mC 144) 26 = .ok (.aload_n 0, 1) := by decide +kernel
theorem d_X8_doneBy_27 : decode (mC 144) 27 = .ok (.getfield 13, 3) := by decide +kernel
theorem d_X8_doneBy_30 : decode (mC 144) 30 = .ok (.iload 5, 2) := by decide +kernel
theorem d_X8_doneBy_32 : decode (mC 144) 32 = .ok (.iconst 1, 1) := by decide +kernel
theorem d_X8_doneBy_33 : decode (mC 144) 33 = .ok (.iadd, 1) := by decide +kernel
theorem d_X8_doneBy_34 : decode (mC 144) 34 = .ok (.iaload, 1) := by decide +kernel
theorem d_X8_doneBy_35 : decode (mC 144) 35 = .ok (.ishr, 1) := by decide +kernel
theorem d_X8_doneBy_36 : decode (mC 144) 36 = .ok (.iconst 1, 1) := by decide +kernel
theorem d_X8_doneBy_37 : decode (mC 144) 37 = .ok (.iand, 1) := by decide +kernel
theorem d_X8_doneBy_38 : decode (mC 144) 38 = .ok (.iconst 1, 1) := by decide +kernel
theorem d_X8_doneBy_39 : decode (mC 144) 39 = .ok (.if_icmp .ne 19, 3) := by decide +kernel
theorem d_X8_doneBy_42 : decode (mC 144) 42 = .ok (.aload_n 0, 1) := by decide +kernel
theorem d_X8_doneBy_43 : decode (mC 144) 43 = .ok (.getfield 131, 3) := by decide +kernel
theorem d_X8_doneBy_46 : decode (mC 144) 46 = .ok (.iload 4, 2) := by decide +kernel
theorem d_X8_doneBy_48 : decode (mC 144) 48 = .ok (.ishr, 1) := by decide +kernel
theorem d_X8_doneBy_49 : decode (mC 144) 49 = .ok (.iconst 1, 1) := by decide +kernel
theorem d_X8_doneBy_50 : decode (mC 144) 50 = .ok (.iand, 1) := by decide +kernel
theorem d_X8_doneBy_51 : decode (mC 144) 51 = .ok (.ifCond .ne 7, 3) := by decide +kernel
theorem d_X8_doneBy_54 : decode (mC 144) 54 = .ok (.iconst 1, 1) := by decide +kernel
theorem d_X8_doneBy_55 : decode (mC 144) 55 = .ok (.goto 4, 3) := by decide +kernel
theorem d_X8_doneBy_58 : decode (mC 144) 58 = .ok (.iconst 0, 1) := by decide +kernel
theorem d_X8_doneBy_59 : decode (mC 144) 59 = .ok (.istore 6, 2) := by decide +kernel
theorem d_X8_doneBy_61 : decode (mC 144) 61 = .ok (.iload 6, 2) := by decide +kernel
theorem d_X8_doneBy_63 : decode (mC 144) 63 = .ok (.ifCond .eq 37, 3) := by decide +kernel
theorem d_X8_doneBy_66 : decode (mC 144) 66 = .ok (.aload_n 0, 1) := by decide +kernel
theorem d_X8_doneBy_67 : decode (mC 144) 67 = .ok (.getfield 134, 3) := by decide +kernel
theorem d_X8_doneBy_70 : decode (mC 144) 70 = .ok (.iload 4, 2) := by decide +kernel
theorem d_X8_doneBy_72 : decode (mC 144) 72 = .ok (.ishr, 1) := by decide +kernel
theorem d_X8_doneBy_73 : decode (mC 144) 73 = .ok (.iconst 1, 1) := by decide +kernel
theorem d_X8_doneBy_74 : decode (mC 144) 74 = .ok (.iand, 1) := by decide +kernel
theorem d_X8_doneBy_75 : decode (mC 144) 75 = .ok (.iconst 1, 1) := by decide +kernel
theorem d_X8_doneBy_76 : decode (mC 144) 76 = .ok (.if_icmp .ne 20, 3) := by decide +kernel
theorem d_X8_doneBy_79 : decode (mC 144) 79 = .ok (.aload_n 0, 1) := by decide +kernel
theorem d_X8_doneBy_80 : decode (mC 144) 80 = .ok (.getfield 13, 3) := by decide +kernel
theorem d_X8_doneBy_83 : decode (mC 144) 83 = .ok (.iload 5, 2) := by decide +kernel
theorem d_X8_doneBy_85 : decode (mC 144) 85 = .ok (.iconst 2, 1) := by decide +kernel
theorem d_X8_doneBy_86 : decode (mC 144) 86 = .ok (.iadd, 1) := by decide +kernel
theorem d_X8_doneBy_87 : decode (mC 144) 87 = .ok (.iaload, 1) := by decide +kernel
theorem d_X8_doneBy_88 : decode (mC 144) 88 = .ok (.iload_n 2, 1) := by decide +kernel
theorem d_X8_doneBy_89 : decode (mC 144) 89 = .ok (.if_icmp .ne 7, 3) := by decide +kernel
theorem d_X8_doneBy_92 : decode (mC 144) 92 = .ok (.iconst 1, 1) := by decide +kernel
theorem d_X8_doneBy_93 : decode (mC 144) 93 = .ok (.goto 25, 3) := by decide +kernel
theorem d_X8_doneBy_96 : decode (mC 144) 96 = .ok (.iconst 0, 1) := by decide +kernel
theorem d_X8_doneBy_97 : decode (mC 144) 97 = .ok (.goto 21, 3) := by decide +kernel
theorem d_X8_doneBy_100 : decode (mC 144) 100 = .ok (.aload_n 0, 1) := by decide +kernel
theorem d_X8_doneBy_101 : decode (mC 144) 101 = .ok (.getfield 13, 3) := by decide +kernel
theorem d_X8_doneBy_104 : decode (mC 144) 104 = .ok (.iload 5, 2) := by decide +kernel
theorem d_X8_doneBy_106 : decode (mC 144) 106 = .ok (.iconst 3, 1) := by decide +kernel
theorem d_X8_doneBy_107 : decode (mC 144) 107 = .ok (.iadd, 1) := by decide +kernel
theorem d_X8_doneBy_108 : decode (mC 144) 108 = .ok (.iaload, 1) := by decide +kernel
theorem d_X8_doneBy_109 : decode (mC 144) 109 = .ok (.iload_n 2, 1) := by decide +kernel
theorem d_X8_doneBy_110 : decode (mC 144) 110 = .ok (.if_icmp .ne 7, 3) := by decide +kernel
theorem d_X8_doneBy_113 : decode (mC 144) 113 = .ok (.iconst 1, 1) := by decide +kernel
theorem d_X8_doneBy_114 : decode (mC 144) 114 = .ok (.goto 4, 3) := by decide +kernel
theorem d_X8_doneBy_117 : decode (mC 144) 117 = .ok (.iconst 0, 1) := by decide +kernel
theorem d_X8_doneBy_118 : decode (mC 144) 118 = .ok (.istore 7, 2) := by decide +kernel
theorem d_X8_doneBy_120 : decode (mC 144) 120 = .ok (.iload_n 3, 1) := by decide +kernel
theorem d_X8_doneBy_121 : decode (mC 144) 121 = .ok (.iload 7, 2) := by decide +kernel
theorem d_X8_doneBy_123 : decode (mC 144) 123 = .ok (.ifCond .eq 31, 3) := by decide +kernel
theorem d_X8_doneBy_126 : decode (mC 144) 126 = .ok (.aload_n 0, 1) := by decide +kernel
theorem d_X8_doneBy_127 : decode (mC 144) 127 = .ok (.getfield 13, 3) := by decide +kernel
theorem d_X8_doneBy_130 : decode (mC 144) 130 = .ok (.iload 5, 2) := by decide +kernel
theorem d_X8_doneBy_132 : decode (mC 144) 132 = .ok (.iaload, 1) := by decide +kernel
theorem d_X8_doneBy_133 : decode (mC 144) 133 = .ok (.iload 4, 2) := by decide +kernel
theorem d_X8_doneBy_135 : decode (mC 144) 135 = .ok (.aload_n 0, 1) := by decide +kernel
theorem d_X8_doneBy_136 : decode (mC 144) 136 = .ok (.getfield 137, 3) := by decide +kernel
theorem d_X8_doneBy_139 : decode (mC 144) 139 = .ok (.if_icmp .ne 10, 3) := by decide +kernel
theorem d_X8_doneBy_142 : decode (mC 144) 142 = .ok (.aload_n 0, 1) := by decide +kernel
theorem d_X8_doneBy_143 : decode (mC 144) 143 = .ok (.getfield 140, 3) := by decide +kernel
theorem d_X8_doneBy_146 : decode (mC 144) 146 = .ok (.goto 4, 3) := by decide +kernel
theorem d_X8_doneBy_149 : decode (mC 144) 149 = .ok (.iconst 0, 1) := by decide +kernel
theorem d_X8_doneBy_150 : decode (mC 144) 150 = .ok (.iadd, 1) := by decide +kernel
theorem d_X8_doneBy_151 : decode (mC 144) 151 = .ok (.goto 4, 3) := by decide +kernel
theorem d_X8_doneBy_154 : decode (mC 144) 154 = .ok (.iconst 0, 1) := by decide +kernel
theorem d_X8_doneBy_155 : decode (mC 144) 155 = .ok (.iadd, 1) := by decide +kernel
theorem d_X8_doneBy_156 : decode (mC 144) 156 = .ok (.istore_n 3, 1) := by decide +kernel
theorem d_X8_doneBy_157 : decode (mC 144) 157 = .ok (.iinc 4 1, 3) := by decide +kernel
theorem d_X8_doneBy_160 : decode (mC 144) 160 = .ok (.goto (-155), 3) := by decide +kernel
theorem d_X8_doneBy_163 : decode (mC 144) 163 = .ok (.iload_n 3, 1) := by decide +kernel
theorem d_X8_doneBy_164 : decode (mC 144) 164 = .ok (.ireturn, 1) := by decide +kernel
theorem fr_144_13 : mn_fr 144 8 13 8 2 = true := by decide +kernel
theorem fi_144_131 : mn_fi 144 8 131 8 13 = true := by decide +kernel
theorem fi_144_134 : mn_fi 144 8 134 8 14 = true := by decide +kernel
theorem fi_144_137 : mn_fi 144 8 137 8 15 = true := by decide +kernel
theorem fi_144_140 : mn_fi 144 8 140 8 16 = true := by decide +kernel
theorem b_X8_doneBy_0 {x1 x2 : Int32} {h h' : mn_H} {r : Option Value} : mn_E 144 0 [.ref 63, .int x1, .int x2, .null, .null, .null, .null, .null] [] h r h' ↔ mn_E 144 5 [.ref 63, .int x1, .int x2, .int 0, .int 0, .null, .null, .null] [] h r h' :=
  (mX_iconst d_X8_doneBy_0 ci_0).trans <| (mX_istore_n (ls' := [.ref 63, .int x1, .int x2, .int 0, .null, .null, .null, .null]) d_X8_doneBy_1 rfl rfl).trans <| (mX_iconst d_X8_doneBy_2 ci_0).trans <| mX_istore (ls' := [.ref 63, .int x1, .int x2, .int 0, .int 0, .null, .null, .null]) d_X8_doneBy_3 rfl rfl
theorem b_X8_doneBy_5 {x1 x2 x3 x4 : Int32} {w5 w6 w7 : Value} {h h' : mn_H} {r : Option Value} : mn_E 144 5 [.ref 63, .int x1, .int x2, .int x3, .int x4, w5, w6, w7] [] h r h' ↔ if (h 65 (1 : Int32).toNatClampNeg) ≤ x4 then mn_E 144 163 [.ref 63, .int x1, .int x2, .int x3, .int x4, w5, w6, w7] [] h r h' else mn_E 144 16 [.ref 63, .int x1, .int x2, .int x3, .int x4, w5, w6, w7] [] h r h' :=
  (mX_iload d_X8_doneBy_5 rfl).trans <| (mX_aload_n d_X8_doneBy_7 rfl).trans <| (mG_r (b := 65) d_X8_doneBy_8 fr_144_13 rfl (by decide) rfl).trans <| (mX_iconst d_X8_doneBy_11 ci_1).trans <| (mX_iaload d_X8_doneBy_12 rfl (by decide) (mn_in_iff (by decide +kernel))).trans <| mX_icmp_ge d_X8_doneBy_13 rfl
theorem b_X8_doneBy_16 {x1 x2 x3 x4 : Int32} {w5 w6 w7 : Value} {h h' : mn_H} {r : Option Value} (hy0 : vp_in ((20 + (4 * x4)) + 1) 96) : mn_E 144 16 [.ref 63, .int x1, .int x2, .int x3, .int x4, w5, w6, w7] [] h r h' ↔ if ¬ ((x1 >>> ((h 65 ((20 + (4 * x4)) + 1).toNatClampNeg) &&& 31)) &&& 1) = 1 then mn_E 144 58 [.ref 63, .int x1, .int x2, .int x3, .int x4, .int (20 + (4 * x4)), w6, w7] [] h r h' else mn_E 144 42 [.ref 63, .int x1, .int x2, .int x3, .int x4, .int (20 + (4 * x4)), w6, w7] [] h r h' :=
  (mX_bipush d_X8_doneBy_16 cb_20).trans <| (mX_iconst d_X8_doneBy_18 ci_4).trans <| (mX_iload d_X8_doneBy_19 rfl).trans <| (mX_imul d_X8_doneBy_21).trans <| (mX_iadd d_X8_doneBy_22).trans <| (mX_istore (ls' := [.ref 63, .int x1, .int x2, .int x3, .int x4, .int (20 + (4 * x4)), w6, w7]) d_X8_doneBy_23 rfl rfl).trans <| (mX_iload_n d_X8_doneBy_25 rfl).trans <| (mX_aload_n d_X8_doneBy_26 rfl).trans <| (mG_r (b := 65) d_X8_doneBy_27 fr_144_13 rfl (by decide) rfl).trans <| (mX_iload d_X8_doneBy_30 rfl).trans <| (mX_iconst d_X8_doneBy_32 ci_1).trans <| (mX_iadd d_X8_doneBy_33).trans <| (mX_iaload d_X8_doneBy_34 rfl (by decide) hy0).trans <| (mX_ishr d_X8_doneBy_35).trans <| (mX_iconst d_X8_doneBy_36 ci_1).trans <| (mX_iand d_X8_doneBy_37).trans <| (mX_iconst d_X8_doneBy_38 ci_1).trans <| mX_icmp_ne d_X8_doneBy_39 rfl
theorem b_X8_doneBy_42 {x1 x2 x3 x4 x5 : Int32} {w6 w7 : Value} {h h' : mn_H} {r : Option Value} : mn_E 144 42 [.ref 63, .int x1, .int x2, .int x3, .int x4, .int x5, w6, w7] [] h r h' ↔ if ¬ (((h 63 13) >>> (x4 &&& 31)) &&& 1) = 0 then mn_E 144 58 [.ref 63, .int x1, .int x2, .int x3, .int x4, .int x5, w6, w7] [] h r h' else mn_E 144 54 [.ref 63, .int x1, .int x2, .int x3, .int x4, .int x5, w6, w7] [] h r h' :=
  (mX_aload_n d_X8_doneBy_42 rfl).trans <| (mG_i d_X8_doneBy_43 fi_144_131 rfl (by decide)).trans <| (mX_iload d_X8_doneBy_46 rfl).trans <| (mX_ishr d_X8_doneBy_48).trans <| (mX_iconst d_X8_doneBy_49 ci_1).trans <| (mX_iand d_X8_doneBy_50).trans <| mX_if_ne d_X8_doneBy_51 rfl
theorem b_X8_doneBy_54 {x1 x2 x3 x4 x5 : Int32} {w6 w7 : Value} {h h' : mn_H} {r : Option Value} : mn_E 144 54 [.ref 63, .int x1, .int x2, .int x3, .int x4, .int x5, w6, w7] [] h r h' ↔ mn_E 144 59 [.ref 63, .int x1, .int x2, .int x3, .int x4, .int x5, w6, w7] [.int 1] h r h' :=
  (mX_iconst d_X8_doneBy_54 ci_1).trans <| mX_goto d_X8_doneBy_55 rfl
theorem b_X8_doneBy_58 {x1 x2 x3 x4 x5 : Int32} {w6 w7 : Value} {h h' : mn_H} {r : Option Value} : mn_E 144 58 [.ref 63, .int x1, .int x2, .int x3, .int x4, .int x5, w6, w7] [] h r h' ↔ mn_E 144 59 [.ref 63, .int x1, .int x2, .int x3, .int x4, .int x5, w6, w7] [.int 0] h r h' :=
  mX_iconst d_X8_doneBy_58 ci_0
theorem b_X8_doneBy_59 {x1 x2 x3 x4 x5 s0 : Int32} {w6 w7 : Value} {h h' : mn_H} {r : Option Value} : mn_E 144 59 [.ref 63, .int x1, .int x2, .int x3, .int x4, .int x5, w6, w7] [.int s0] h r h' ↔ if s0 = 0 then mn_E 144 100 [.ref 63, .int x1, .int x2, .int x3, .int x4, .int x5, .int s0, w7] [] h r h' else mn_E 144 66 [.ref 63, .int x1, .int x2, .int x3, .int x4, .int x5, .int s0, w7] [] h r h' :=
  (mX_istore (ls' := [.ref 63, .int x1, .int x2, .int x3, .int x4, .int x5, .int s0, w7]) d_X8_doneBy_59 rfl rfl).trans <| (mX_iload d_X8_doneBy_61 rfl).trans <| mX_if_eq d_X8_doneBy_63 rfl
theorem b_X8_doneBy_66 {x1 x2 x3 x4 x5 x6 : Int32} {w7 : Value} {h h' : mn_H} {r : Option Value} : mn_E 144 66 [.ref 63, .int x1, .int x2, .int x3, .int x4, .int x5, .int x6, w7] [] h r h' ↔ if ¬ (((h 63 14) >>> (x4 &&& 31)) &&& 1) = 1 then mn_E 144 96 [.ref 63, .int x1, .int x2, .int x3, .int x4, .int x5, .int x6, w7] [] h r h' else mn_E 144 79 [.ref 63, .int x1, .int x2, .int x3, .int x4, .int x5, .int x6, w7] [] h r h' :=
  (mX_aload_n d_X8_doneBy_66 rfl).trans <| (mG_i d_X8_doneBy_67 fi_144_134 rfl (by decide)).trans <| (mX_iload d_X8_doneBy_70 rfl).trans <| (mX_ishr d_X8_doneBy_72).trans <| (mX_iconst d_X8_doneBy_73 ci_1).trans <| (mX_iand d_X8_doneBy_74).trans <| (mX_iconst d_X8_doneBy_75 ci_1).trans <| mX_icmp_ne d_X8_doneBy_76 rfl
theorem b_X8_doneBy_79 {x1 x2 x3 x4 x5 x6 : Int32} {w7 : Value} {h h' : mn_H} {r : Option Value} (hy0 : vp_in (x5 + 2) 96) : mn_E 144 79 [.ref 63, .int x1, .int x2, .int x3, .int x4, .int x5, .int x6, w7] [] h r h' ↔ if ¬ (h 65 (x5 + 2).toNatClampNeg) = x2 then mn_E 144 96 [.ref 63, .int x1, .int x2, .int x3, .int x4, .int x5, .int x6, w7] [] h r h' else mn_E 144 92 [.ref 63, .int x1, .int x2, .int x3, .int x4, .int x5, .int x6, w7] [] h r h' :=
  (mX_aload_n d_X8_doneBy_79 rfl).trans <| (mG_r (b := 65) d_X8_doneBy_80 fr_144_13 rfl (by decide) rfl).trans <| (mX_iload d_X8_doneBy_83 rfl).trans <| (mX_iconst d_X8_doneBy_85 ci_2).trans <| (mX_iadd d_X8_doneBy_86).trans <| (mX_iaload d_X8_doneBy_87 rfl (by decide) hy0).trans <| (mX_iload_n d_X8_doneBy_88 rfl).trans <| mX_icmp_ne d_X8_doneBy_89 rfl
theorem b_X8_doneBy_92 {x1 x2 x3 x4 x5 x6 : Int32} {w7 : Value} {h h' : mn_H} {r : Option Value} : mn_E 144 92 [.ref 63, .int x1, .int x2, .int x3, .int x4, .int x5, .int x6, w7] [] h r h' ↔ mn_E 144 118 [.ref 63, .int x1, .int x2, .int x3, .int x4, .int x5, .int x6, w7] [.int 1] h r h' :=
  (mX_iconst d_X8_doneBy_92 ci_1).trans <| mX_goto d_X8_doneBy_93 rfl
theorem b_X8_doneBy_96 {x1 x2 x3 x4 x5 x6 : Int32} {w7 : Value} {h h' : mn_H} {r : Option Value} : mn_E 144 96 [.ref 63, .int x1, .int x2, .int x3, .int x4, .int x5, .int x6, w7] [] h r h' ↔ mn_E 144 118 [.ref 63, .int x1, .int x2, .int x3, .int x4, .int x5, .int x6, w7] [.int 0] h r h' :=
  (mX_iconst d_X8_doneBy_96 ci_0).trans <| mX_goto d_X8_doneBy_97 rfl
theorem b_X8_doneBy_100 {x1 x2 x3 x4 x5 x6 : Int32} {w7 : Value} {h h' : mn_H} {r : Option Value} (hy0 : vp_in (x5 + 3) 96) : mn_E 144 100 [.ref 63, .int x1, .int x2, .int x3, .int x4, .int x5, .int x6, w7] [] h r h' ↔ if ¬ (h 65 (x5 + 3).toNatClampNeg) = x2 then mn_E 144 117 [.ref 63, .int x1, .int x2, .int x3, .int x4, .int x5, .int x6, w7] [] h r h' else mn_E 144 113 [.ref 63, .int x1, .int x2, .int x3, .int x4, .int x5, .int x6, w7] [] h r h' :=
  (mX_aload_n d_X8_doneBy_100 rfl).trans <| (mG_r (b := 65) d_X8_doneBy_101 fr_144_13 rfl (by decide) rfl).trans <| (mX_iload d_X8_doneBy_104 rfl).trans <| (mX_iconst d_X8_doneBy_106 ci_3).trans <| (mX_iadd d_X8_doneBy_107).trans <| (mX_iaload d_X8_doneBy_108 rfl (by decide) hy0).trans <| (mX_iload_n d_X8_doneBy_109 rfl).trans <| mX_icmp_ne d_X8_doneBy_110 rfl
theorem b_X8_doneBy_113 {x1 x2 x3 x4 x5 x6 : Int32} {w7 : Value} {h h' : mn_H} {r : Option Value} : mn_E 144 113 [.ref 63, .int x1, .int x2, .int x3, .int x4, .int x5, .int x6, w7] [] h r h' ↔ mn_E 144 118 [.ref 63, .int x1, .int x2, .int x3, .int x4, .int x5, .int x6, w7] [.int 1] h r h' :=
  (mX_iconst d_X8_doneBy_113 ci_1).trans <| mX_goto d_X8_doneBy_114 rfl
theorem b_X8_doneBy_117 {x1 x2 x3 x4 x5 x6 : Int32} {w7 : Value} {h h' : mn_H} {r : Option Value} : mn_E 144 117 [.ref 63, .int x1, .int x2, .int x3, .int x4, .int x5, .int x6, w7] [] h r h' ↔ mn_E 144 118 [.ref 63, .int x1, .int x2, .int x3, .int x4, .int x5, .int x6, w7] [.int 0] h r h' :=
  mX_iconst d_X8_doneBy_117 ci_0
theorem b_X8_doneBy_118 {x1 x2 x3 x4 x5 x6 s0 : Int32} {w7 : Value} {h h' : mn_H} {r : Option Value} : mn_E 144 118 [.ref 63, .int x1, .int x2, .int x3, .int x4, .int x5, .int x6, w7] [.int s0] h r h' ↔ if s0 = 0 then mn_E 144 154 [.ref 63, .int x1, .int x2, .int x3, .int x4, .int x5, .int x6, .int s0] [.int x3] h r h' else mn_E 144 126 [.ref 63, .int x1, .int x2, .int x3, .int x4, .int x5, .int x6, .int s0] [.int x3] h r h' :=
  (mX_istore (ls' := [.ref 63, .int x1, .int x2, .int x3, .int x4, .int x5, .int x6, .int s0]) d_X8_doneBy_118 rfl rfl).trans <| (mX_iload_n d_X8_doneBy_120 rfl).trans <| (mX_iload d_X8_doneBy_121 rfl).trans <| mX_if_eq d_X8_doneBy_123 rfl
theorem b_X8_doneBy_126 {x1 x2 x3 x4 x5 x6 x7 s0 : Int32} {h h' : mn_H} {r : Option Value} (hy0 : vp_in x5 96) : mn_E 144 126 [.ref 63, .int x1, .int x2, .int x3, .int x4, .int x5, .int x6, .int x7] [.int s0] h r h' ↔ if ¬ x4 = (h 63 15) then mn_E 144 149 [.ref 63, .int x1, .int x2, .int x3, .int x4, .int x5, .int x6, .int x7] [.int (h 65 x5.toNatClampNeg), .int s0] h r h' else mn_E 144 142 [.ref 63, .int x1, .int x2, .int x3, .int x4, .int x5, .int x6, .int x7] [.int (h 65 x5.toNatClampNeg), .int s0] h r h' :=
  (mX_aload_n d_X8_doneBy_126 rfl).trans <| (mG_r (b := 65) d_X8_doneBy_127 fr_144_13 rfl (by decide) rfl).trans <| (mX_iload d_X8_doneBy_130 rfl).trans <| (mX_iaload d_X8_doneBy_132 rfl (by decide) hy0).trans <| (mX_iload d_X8_doneBy_133 rfl).trans <| (mX_aload_n d_X8_doneBy_135 rfl).trans <| (mG_i d_X8_doneBy_136 fi_144_137 rfl (by decide)).trans <| mX_icmp_ne d_X8_doneBy_139 rfl
theorem b_X8_doneBy_142 {x1 x2 x3 x4 x5 x6 x7 s0 s1 : Int32} {h h' : mn_H} {r : Option Value} : mn_E 144 142 [.ref 63, .int x1, .int x2, .int x3, .int x4, .int x5, .int x6, .int x7] [.int s0, .int s1] h r h' ↔ mn_E 144 150 [.ref 63, .int x1, .int x2, .int x3, .int x4, .int x5, .int x6, .int x7] [.int (h 63 16), .int s0, .int s1] h r h' :=
  (mX_aload_n d_X8_doneBy_142 rfl).trans <| (mG_i d_X8_doneBy_143 fi_144_140 rfl (by decide)).trans <| mX_goto d_X8_doneBy_146 rfl
theorem b_X8_doneBy_149 {x1 x2 x3 x4 x5 x6 x7 s0 s1 : Int32} {h h' : mn_H} {r : Option Value} : mn_E 144 149 [.ref 63, .int x1, .int x2, .int x3, .int x4, .int x5, .int x6, .int x7] [.int s0, .int s1] h r h' ↔ mn_E 144 150 [.ref 63, .int x1, .int x2, .int x3, .int x4, .int x5, .int x6, .int x7] [.int 0, .int s0, .int s1] h r h' :=
  mX_iconst d_X8_doneBy_149 ci_0
theorem b_X8_doneBy_150 {x1 x2 x3 x4 x5 x6 x7 s0 s1 s2 : Int32} {h h' : mn_H} {r : Option Value} : mn_E 144 150 [.ref 63, .int x1, .int x2, .int x3, .int x4, .int x5, .int x6, .int x7] [.int s0, .int s1, .int s2] h r h' ↔ mn_E 144 155 [.ref 63, .int x1, .int x2, .int x3, .int x4, .int x5, .int x6, .int x7] [.int (s1 + s0), .int s2] h r h' :=
  (mX_iadd d_X8_doneBy_150).trans <| mX_goto d_X8_doneBy_151 rfl
theorem b_X8_doneBy_154 {x1 x2 x3 x4 x5 x6 x7 s0 : Int32} {h h' : mn_H} {r : Option Value} : mn_E 144 154 [.ref 63, .int x1, .int x2, .int x3, .int x4, .int x5, .int x6, .int x7] [.int s0] h r h' ↔ mn_E 144 155 [.ref 63, .int x1, .int x2, .int x3, .int x4, .int x5, .int x6, .int x7] [.int 0, .int s0] h r h' :=
  mX_iconst d_X8_doneBy_154 ci_0
theorem b_X8_doneBy_155 {x1 x2 x3 x4 x5 x6 x7 s0 s1 : Int32} {h h' : mn_H} {r : Option Value} : mn_E 144 155 [.ref 63, .int x1, .int x2, .int x3, .int x4, .int x5, .int x6, .int x7] [.int s0, .int s1] h r h' ↔ mn_E 144 5 [.ref 63, .int x1, .int x2, .int (s1 + s0), .int (x4 + 1), .int x5, .int x6, .int x7] [] h r h' :=
  (mX_iadd d_X8_doneBy_155).trans <| (mX_istore_n (ls' := [.ref 63, .int x1, .int x2, .int (s1 + s0), .int x4, .int x5, .int x6, .int x7]) d_X8_doneBy_156 rfl rfl).trans <| (mX_iinc (ls' := [.ref 63, .int x1, .int x2, .int (s1 + s0), .int (x4 + 1), .int x5, .int x6, .int x7]) d_X8_doneBy_157 rfl ci_1 rfl rfl).trans <| mX_goto d_X8_doneBy_160 rfl
theorem b_X8_doneBy_163 {x1 x2 x3 x4 : Int32} {w5 w6 w7 : Value} {h h' : mn_H} {r : Option Value} : mn_E 144 163 [.ref 63, .int x1, .int x2, .int x3, .int x4, w5, w6, w7] [] h r h' ↔ r = some (.int x3) ∧ h' = h :=
  (mX_iload_n d_X8_doneBy_163 rfl).trans <| mX_iret d_X8_doneBy_164 rfl
-- X8_comesBy
theorem mo_145 : mO 145 = 8 := rfl
theorem d_X8_comesBy_0 : decode (mC 145) 0 = .ok (.iconst 0, 1) := by decide +kernel
theorem d_X8_comesBy_1 : decode (mC 145) 1 = .ok (.istore_n 2, 1) := by decide +kernel
theorem d_X8_comesBy_2 : decode (mC 145) 2 = .ok (.iconst 0, 1) := by decide +kernel
theorem d_X8_comesBy_3 : decode (mC 145) 3 = .ok (.istore_n 3, 1) := by decide +kernel
theorem d_X8_comesBy_4 : decode (mC 145) 4 = .ok (.iload_n 3, 1) := by decide +kernel
theorem d_X8_comesBy_5 : decode (mC 145) 5 = .ok (.aload_n 0, 1) := by decide +kernel
theorem d_X8_comesBy_6 : decode (mC 145) 6 = .ok (.getfield 13, 3) := by decide +kernel
theorem d_X8_comesBy_9 : decode (mC 145) 9 = .ok (.iconst 2, 1) := by decide +kernel
theorem d_X8_comesBy_10 : decode (mC 145) 10 = .ok (.iaload, 1) := by decide +kernel
theorem d_X8_comesBy_11 : decode (mC 145) 11 = .ok (.if_icmp .ge 59, 3) := by decide +kernel
theorem d_X8_comesBy_14 : decode (mC 145) 14 = .ok (.bipush 44, 2) := by decide +kernel
theorem d_X8_comesBy_16 : decode (mC 145) 16 = .ok (.iconst 3, 1) := by decide +kernel
theorem d_X8_comesBy_17 : decode (mC 145) 17 = .ok (.iload_n 3, 1) := by decide +kernel
theorem d_X8_comesBy_18 : decode (mC 145) 18 = .ok (.imul, 1) := by decide +kernel
theorem d_X8_comesBy_19 : decode (mC 145) 19 = .ok (.iadd, 1) := by decide +kernel
theorem d_X8_comesBy_20 : decode (mC 145) 20 = .ok (.istore 4, 2) := by decide +kernel
theorem d_X8_comesBy_22 : decode (mC 145) 22 = .ok (.iload_n 2, 1) := by decide +kernel
theorem d_X8_comesBy_23 : decode (mC 145) 23 = .ok (.aload_n 0, 1) := by decide +kernel
theorem d_X8_comesBy_24 : decode (mC 145) 24 = .ok (.iload_n 1, 1) := by decide +kernel
theorem d_X8_comesBy_25 : decode (mC 145) 25 = .ok (.aload_n 0, 1) := by decide +kernel
theorem d_X8_comesBy_26 : decode (mC 145) 26 = .ok (.getfield 13, 3) := by decide +kernel
theorem d_X8_comesBy_29 : decode (mC 145) 29 = .ok (.iload 4, 2) := by decide +kernel
theorem d_X8_comesBy_31 : decode (mC 145) 31 = .ok (.iconst 1, 1) := by decide +kernel
theorem d_X8_comesBy_32 : decode (mC 145) 32 = .ok (.iadd, 1) := by decide +kernel
theorem d_X8_comesBy_33 : decode (mC 145) 33 = .ok (.iaload, 1) := by decide +kernel
theorem d_X8_comesBy_34 : decode (mC 145) 34 = .ok (.invokevirtual 158, 3) := by decide +kernel
theorem d_X8_comesBy_37 : decode (mC 145) 37 = .ok (.aload_n 0, 1) := by decide +kernel
theorem d_X8_comesBy_38 : decode (mC 145) 38 = .ok (.getfield 13, 3) := by decide +kernel
theorem d_X8_comesBy_41 : decode (mC 145) 41 = .ok (.iload 4, 2) := by decide +kernel
theorem d_X8_comesBy_43 : decode (mC 145) 43 = .ok (.iconst 2, 1) := by decide +kernel
theorem d_X8_comesBy_44 : decode (mC 145) 44 = .ok (.iadd, 1) := by decide +kernel
theorem d_X8_comesBy_45 : decode (mC 145) 45 = .ok (.iaload, 1) := by decide +kernel
theorem d_X8_comesBy_46 : decode (mC 145) 46 = .ok (.if_icmp .lt 15, 3) := by decide +kernel
theorem d_X8_comesBy_49 : decode (mC 145) 49 = .ok (.iconst 1, 1) := by decide +kernel
theorem d_X8_comesBy_50 : decode (mC 145) 50 = .ok (.aload_n 0, 1) := by decide +kernel
theorem d_X8_comesBy_51 : decode (mC 145) 51 = .ok (.getfield 13, 3) := by decide +kernel
theorem d_X8_comesBy_54 : decode (mC 145) 54 = .ok (.iload 4, 2) := by decide +kernel
theorem d_X8_comesBy_56 : decode (mC 145) 56 = .ok (.iaload, 1) := by decide +kernel
theorem d_X8_comesBy_57 : decode (mC 145) 57 = .ok (.ishl, 1) := by decide +kernel
theorem d_X8_comesBy_58 : decode (mC 145) 58 = .ok (.goto 4, 3) := by decide +kernel
theorem d_X8_comesBy_61 : decode (mC 145) 61 = .ok (.iconst 0, 1) := by decide +kernel
theorem d_X8_comesBy_62 : decode (mC 145) 62 = .ok (.ior, 1) := by decide +kernel
theorem d_X8_comesBy_63 : decode (mC 145) 63 = .ok (.istore_n 2, 1) := by decide +kernel
theorem d_X8_comesBy_64 : decode (mC 145) 64 = .ok (.iinc 3 1, 3) := by decide +kernel
theorem d_X8_comesBy_67 : decode (mC 145) 67 = .ok (.goto (-63), 3) := by decide +kernel
theorem d_X8_comesBy_70 : decode (mC 145) 70 = .ok (.iconst 0, 1) := by decide +kernel
theorem d_X8_comesBy_71 : decode (mC 145) 71 = .ok (.istore_n 3, 1) := by decide +kernel
theorem d_X8_comesBy_72 : decode (mC 145) 72 = .ok (.iload_n 3, 1) := by decide +kernel
theorem d_X8_comesBy_73 : decode (mC 145) 73 = .ok (.aload_n 0, 1) := by decide +kernel
theorem d_X8_comesBy_74 : decode (mC 145) 74 = .ok (.getfield 13, 3) := by decide +kernel
theorem d_X8_comesBy_77 : decode (mC 145) 77 = .ok (.iconst 4, 1) := by decide +kernel
theorem d_X8_comesBy_78 : decode (mC 145) 78 = .ok (.iaload, 1) := by decide +kernel
theorem d_X8_comesBy_79 : decode (mC 145) 79 = .ok (.if_icmp .ge 59, 3) := by decide +kernel
theorem d_X8_comesBy_82 : decode (mC 145) 82 = .ok (.bipush 80, 2) := by decide +kernel
theorem d_X8_comesBy_84 : decode (mC 145) 84 = .ok (.iconst 3, 1) := by decide +kernel
theorem d_X8_comesBy_85 : decode (mC 145) 85 = .ok (.iload_n 3, 1) := by decide +kernel
theorem d_X8_comesBy_86 : decode (mC 145) 86 = .ok (.imul, 1) := by decide +kernel
theorem d_X8_comesBy_87 : decode (mC 145) 87 = .ok (.iadd, 1) := by decide +kernel
theorem d_X8_comesBy_88 : decode (mC 145) 88 = .ok (.istore 4, 2) := by decide +kernel
theorem d_X8_comesBy_90 : decode (mC 145) 90 = .ok (.iload_n 2, 1) := by decide +kernel
theorem d_X8_comesBy_91 : decode (mC 145) 91 = .ok (.aload_n 0, 1) := by decide +kernel
theorem d_X8_comesBy_92 : decode (mC 145) 92 = .ok (.getfield 149, 3) := by decide +kernel
theorem d_X8_comesBy_95 : decode (mC 145) 95 = .ok (.aload_n 0, 1) := by decide +kernel
theorem d_X8_comesBy_96 : decode (mC 145) 96 = .ok (.getfield 13, 3) := by decide +kernel
theorem d_X8_comesBy_99 : decode (mC 145) 99 = .ok (.iload 4, 2) := by decide +kernel
theorem d_X8_comesBy_101 : decode (mC 145) 101 = .ok (.iconst 1, 1) := by decide +kernel
theorem d_X8_comesBy_102 : decode (mC 145) 102 = .ok (.iadd, 1) := by decide +kernel
theorem d_X8_comesBy_103 : decode (mC 145) 103 = .ok (.iaload, 1) := by decide +kernel
theorem d_X8_comesBy_104 : decode (mC 145) 104 = .ok (.irem, 1) := by decide +kernel
theorem d_X8_comesBy_105 : decode (mC 145) 105 = .ok (.aload_n 0, 1) := by decide +kernel
theorem d_X8_comesBy_106 : decode (mC 145) 106 = .ok (.getfield 13, 3) := by decide +kernel
theorem d_X8_comesBy_109 : decode (mC 145) 109 = .ok (.iload 4, 2) := by decide +kernel
theorem d_X8_comesBy_111 : decode (mC 145) 111 = .ok (.iconst 2, 1) := by decide +kernel
theorem d_X8_comesBy_112 : decode (mC 145) 112 = .ok (.iadd, 1) := by decide +kernel
theorem d_X8_comesBy_113 : decode (mC 145) 113 = .ok (.iaload, 1) := by decide +kernel
theorem d_X8_comesBy_114 : decode (mC 145) 114 = .ok (.if_icmp .ne 15, 3) := by decide +kernel
theorem d_X8_comesBy_117 : decode (mC 145) 117 = .ok (.iconst 1, 1) := by decide +kernel
theorem d_X8_comesBy_118 : decode (mC 145) 118 = .ok (.aload_n 0, 1) := by decide +kernel
theorem d_X8_comesBy_119 : decode (mC 145) 119 = .ok (.getfield 13, 3) := by decide +kernel
theorem d_X8_comesBy_122 : decode (mC 145) 122 = .ok (.iload 4, 2) := by decide +kernel
theorem d_X8_comesBy_124 : decode (mC 145) 124 = .ok (.iaload, 1) := by decide +kernel
theorem d_X8_comesBy_125 : decode (mC 145) 125 = .ok (.ishl, 1) := by decide +kernel
theorem d_X8_comesBy_126 : decode (mC 145) 126 = .ok (.goto 4, 3) := by decide +kernel
theorem d_X8_comesBy_129 : decode (mC 145) 129 = .ok (.iconst 0, 1) := by decide +kernel
theorem d_X8_comesBy_130 : decode (mC 145) 130 = .ok (.ior, 1) := by decide +kernel
theorem d_X8_comesBy_131 : decode (mC 145) 131 = .ok (.istore_n 2, 1) := by decide +kernel
theorem d_X8_comesBy_132 : decode (mC 145) 132 = .ok (.iinc 3 1, 3) := by decide +kernel
theorem d_X8_comesBy_135 : decode (mC 145) 135 = .ok (.goto (-63), 3) := by decide +kernel
theorem d_X8_comesBy_138 : decode (mC 145) 138 = .ok (.iconst 0, 1) := by decide +kernel
theorem d_X8_comesBy_139 : decode (mC 145) 139 = .ok (.istore_n 3, 1) := by decide +kernel
theorem d_X8_comesBy_140 : decode (mC 145) 140 = .ok (.iload_n 3, 1) := by decide +kernel
theorem d_X8_comesBy_141 : decode (mC 145) 141 = .ok (.aload_n 0, 1) := by decide +kernel
theorem d_X8_comesBy_142 : decode (mC 145) 142 = .ok (.getfield 13, 3) := by decide +kernel
theorem d_X8_comesBy_145 : decode (mC 145) 145 = .ok (.iconst 3, 1) := by decide +kernel
theorem d_X8_comesBy_146 : decode (mC 145) 146 = .ok (.iaload, 1) := by decide +kernel
theorem d_X8_comesBy_147 : decode (mC 145) 147 = .ok (.if_icmp .ge 61, 3) := by decide +kernel
theorem d_X8_comesBy_150 : decode (mC 145) 150 = .ok (.bipush 68, 2) := by decide +kernel
theorem d_X8_comesBy_152 : decode (mC 145) 152 = .ok (.iconst 3, 1) := by decide +kernel
theorem d_X8_comesBy_153 : decode (mC 145) 153 = .ok (.iload_n 3, 1) := by decide +kernel
theorem d_X8_comesBy_154 : decode (mC 145) 154 = .ok (.imul, 1) := by decide +kernel
theorem d_X8_comesBy_155 : decode (mC 145) 155 = .ok (.iadd, 1) := by decide +kernel
theorem d_X8_comesBy_156 : decode (mC 145) 156 = .ok (.istore 4, 2) := by decide +kernel
theorem d_X8_comesBy_158 : decode (mC 145) 158 = .ok (.iload_n 2, 1) := by decide +kernel
theorem d_X8_comesBy_159 : decode (mC 145) 159 = .ok (.aload_n 0, 1) := by decide +kernel
theorem d_X8_comesBy_160 : decode (mC 145) 160 = .ok (.iload_n 1, 1) := by decide +kernel
theorem d_X8_comesBy_161 : decode (mC 145) 161 = .ok (.aload_n 0, 1) := by decide +kernel
theorem d_X8_comesBy_162 : decode (mC 145) 162 = .ok (.getfield 13, 3) := by decide +kernel
theorem d_X8_comesBy_165 : decode (mC 145) 165 = .ok (.iload 4, 2) := by decide +kernel
theorem d_X8_comesBy_167 : decode (mC 145) 167 = .ok (.iconst 1, 1) := by decide +kernel
theorem d_X8_comesBy_168 : decode (mC 145) 168 = .ok (.iadd, 1) := by decide +kernel
theorem d_X8_comesBy_169 : decode (mC 145) 169 = .ok (.iaload, 1) := by decide +kernel
theorem d_X8_comesBy_170 : decode (mC 145) 170 = .ok (.invokevirtual 158, 3) := by decide +kernel
theorem d_X8_comesBy_173 : decode (mC 145) 173 = .ok (.aload_n 0, 1) := by decide +kernel
theorem d_X8_comesBy_174 : decode (mC 145) 174 = .ok (.getfield 13, 3) := by decide +kernel
theorem d_X8_comesBy_177 : decode (mC 145) 177 = .ok (.iload 4, 2) := by decide +kernel
theorem d_X8_comesBy_179 : decode (mC 145) 179 = .ok (.iconst 2, 1) := by decide +kernel
theorem d_X8_comesBy_180 : decode (mC 145) 180 = .ok (.iadd, 1) := by decide +kernel
theorem d_X8_comesBy_181 : decode (mC 145) 181 = .ok (.iaload, 1) := by decide +kernel
theorem d_X8_comesBy_182 : decode (mC 145) 182 = .ok (.if_icmp .lt 17, 3) := by decide +kernel
theorem d_X8_comesBy_185 : decode (mC 145) 185 = .ok (.iconst 1, 1) := by decide +kernel
theorem d_X8_comesBy_186 : decode (mC 145) 186 = .ok (.aload_n 0, 1) := by decide +kernel
theorem d_X8_comesBy_187 : decode (mC 145) 187 = .ok (.getfield 13, 3) := by decide +kernel
theorem d_X8_comesBy_190 : decode (mC 145) 190 = .ok (.iload 4, 2) := by decide +kernel
theorem d_X8_comesBy_192 : decode (mC 145) 192 = .ok (.iaload, 1) := by decide +kernel
theorem d_X8_comesBy_193 : decode (mC 145) 193 = .ok (.ishl, 1) := by decide +kernel
theorem d_X8_comesBy_194 : decode (mC 145) 194 = .ok (.iconst (-1), 1) := by decide +kernel
theorem d_X8_comesBy_195 : decode (mC 145) 195 = .ok (.ixor, 1) := by decide +kernel
theorem d_X8_comesBy_196 : decode (mC 145) 196 = .ok (.goto 4, 3) := by decide +kernel
theorem d_X8_comesBy_199 : decode (mC 145) 199 = .ok (.iconst (-1), 1) := by decide +kernel
theorem d_X8_comesBy_200 : decode (mC 145) 200 = .ok (.iand, 1) := by decide +kernel
theorem d_X8_comesBy_201 : decode (mC 145) 201 = .ok (.istore_n 2, 1) := by decide +kernel
theorem d_X8_comesBy_202 : decode (mC 145) 202 = .ok (.iinc 3 1, 3) := by decide +kernel
theorem d_X8_comesBy_205 : decode (mC 145) 205 = .ok (.goto (-65), 3) := by decide +kernel
theorem d_X8_comesBy_208 : decode (mC 145) 208 = .ok (.iload_n 2, 1) := by decide +kernel
theorem d_X8_comesBy_209 : decode (mC 145) 209 = .ok (.ireturn, 1) := by decide +kernel
theorem fr_145_13 : mn_fr 145 8 13 8 2 = true := by decide +kernel
theorem cv_145_158 : mn_cvt 145 8 158 144 = true := by decide +kernel
theorem fi_145_149 : mn_fi 145 8 149 8 20 = true := by decide +kernel
theorem b_X8_comesBy_0 {x1 : Int32} {h h' : mn_H} {r : Option Value} : mn_E 145 0 [.ref 63, .int x1, .null, .null, .null] [] h r h' ↔ mn_E 145 4 [.ref 63, .int x1, .int 0, .int 0, .null] [] h r h' :=
  (mX_iconst d_X8_comesBy_0 ci_0).trans <| (mX_istore_n (ls' := [.ref 63, .int x1, .int 0, .null, .null]) d_X8_comesBy_1 rfl rfl).trans <| (mX_iconst d_X8_comesBy_2 ci_0).trans <| mX_istore_n (ls' := [.ref 63, .int x1, .int 0, .int 0, .null]) d_X8_comesBy_3 rfl rfl
theorem b_X8_comesBy_4 {x1 x2 x3 : Int32} {w4 : Value} {h h' : mn_H} {r : Option Value} : mn_E 145 4 [.ref 63, .int x1, .int x2, .int x3, w4] [] h r h' ↔ if (h 65 (2 : Int32).toNatClampNeg) ≤ x3 then mn_E 145 70 [.ref 63, .int x1, .int x2, .int x3, w4] [] h r h' else mn_E 145 14 [.ref 63, .int x1, .int x2, .int x3, w4] [] h r h' :=
  (mX_iload_n d_X8_comesBy_4 rfl).trans <| (mX_aload_n d_X8_comesBy_5 rfl).trans <| (mG_r (b := 65) d_X8_comesBy_6 fr_145_13 rfl (by decide) rfl).trans <| (mX_iconst d_X8_comesBy_9 ci_2).trans <| (mX_iaload d_X8_comesBy_10 rfl (by decide) (mn_in_iff (by decide +kernel))).trans <| mX_icmp_ge d_X8_comesBy_11 rfl
theorem b_X8_comesBy_14 {x1 x2 x3 : Int32} {w4 : Value} {h h' : mn_H} {r : Option Value} (hy0 : vp_in ((44 + (3 * x3)) + 1) 96) : mn_E 145 14 [.ref 63, .int x1, .int x2, .int x3, w4] [] h r h' ↔ ∃ x h1, mn_X 144 [.ref 63, .int x1, .int (h 65 ((44 + (3 * x3)) + 1).toNatClampNeg)] h (some (.int x)) h1 ∧ mn_E 145 37 [.ref 63, .int x1, .int x2, .int x3, .int (44 + (3 * x3))] [.int x, .int x2] h1 r h' :=
  (mX_bipush d_X8_comesBy_14 cb_44).trans <| (mX_iconst d_X8_comesBy_16 ci_3).trans <| (mX_iload_n d_X8_comesBy_17 rfl).trans <| (mX_imul d_X8_comesBy_18).trans <| (mX_iadd d_X8_comesBy_19).trans <| (mX_istore (ls' := [.ref 63, .int x1, .int x2, .int x3, .int (44 + (3 * x3))]) d_X8_comesBy_20 rfl rfl).trans <| (mX_iload_n d_X8_comesBy_22 rfl).trans <| (mX_aload_n d_X8_comesBy_23 rfl).trans <| (mX_iload_n d_X8_comesBy_24 rfl).trans <| (mX_aload_n d_X8_comesBy_25 rfl).trans <| (mG_r (b := 65) d_X8_comesBy_26 fr_145_13 rfl (by decide) rfl).trans <| (mX_iload d_X8_comesBy_29 rfl).trans <| (mX_iconst d_X8_comesBy_31 ci_1).trans <| (mX_iadd d_X8_comesBy_32).trans <| (mX_iaload d_X8_comesBy_33 rfl (by decide) hy0).trans <| mV_i (a := 63) (vs := [.int x1, .int (h 65 ((44 + (3 * x3)) + 1).toNatClampNeg)]) (st' := [.int x2]) d_X8_comesBy_34 cv_145_158 (Or.inl rfl) (Nat.le_of_ble_eq_true rfl) rfl rfl rfl rfl
theorem b_X8_comesBy_37 {x1 x2 x3 x4 s0 s1 : Int32} {h h' : mn_H} {r : Option Value} (hy0 : vp_in (x4 + 2) 96) : mn_E 145 37 [.ref 63, .int x1, .int x2, .int x3, .int x4] [.int s0, .int s1] h r h' ↔ if s0 < (h 65 (x4 + 2).toNatClampNeg) then mn_E 145 61 [.ref 63, .int x1, .int x2, .int x3, .int x4] [.int s1] h r h' else mn_E 145 49 [.ref 63, .int x1, .int x2, .int x3, .int x4] [.int s1] h r h' :=
  (mX_aload_n d_X8_comesBy_37 rfl).trans <| (mG_r (b := 65) d_X8_comesBy_38 fr_145_13 rfl (by decide) rfl).trans <| (mX_iload d_X8_comesBy_41 rfl).trans <| (mX_iconst d_X8_comesBy_43 ci_2).trans <| (mX_iadd d_X8_comesBy_44).trans <| (mX_iaload d_X8_comesBy_45 rfl (by decide) hy0).trans <| mX_icmp_lt d_X8_comesBy_46 rfl
theorem b_X8_comesBy_49 {x1 x2 x3 x4 s0 : Int32} {h h' : mn_H} {r : Option Value} (hy0 : vp_in x4 96) : mn_E 145 49 [.ref 63, .int x1, .int x2, .int x3, .int x4] [.int s0] h r h' ↔ mn_E 145 62 [.ref 63, .int x1, .int x2, .int x3, .int x4] [.int (1 <<< ((h 65 x4.toNatClampNeg) &&& 31)), .int s0] h r h' :=
  (mX_iconst d_X8_comesBy_49 ci_1).trans <| (mX_aload_n d_X8_comesBy_50 rfl).trans <| (mG_r (b := 65) d_X8_comesBy_51 fr_145_13 rfl (by decide) rfl).trans <| (mX_iload d_X8_comesBy_54 rfl).trans <| (mX_iaload d_X8_comesBy_56 rfl (by decide) hy0).trans <| (mX_ishl d_X8_comesBy_57).trans <| mX_goto d_X8_comesBy_58 rfl
theorem b_X8_comesBy_61 {x1 x2 x3 x4 s0 : Int32} {h h' : mn_H} {r : Option Value} : mn_E 145 61 [.ref 63, .int x1, .int x2, .int x3, .int x4] [.int s0] h r h' ↔ mn_E 145 62 [.ref 63, .int x1, .int x2, .int x3, .int x4] [.int 0, .int s0] h r h' :=
  mX_iconst d_X8_comesBy_61 ci_0
theorem b_X8_comesBy_62 {x1 x2 x3 x4 s0 s1 : Int32} {h h' : mn_H} {r : Option Value} : mn_E 145 62 [.ref 63, .int x1, .int x2, .int x3, .int x4] [.int s0, .int s1] h r h' ↔ mn_E 145 4 [.ref 63, .int x1, .int (s1 ||| s0), .int (x3 + 1), .int x4] [] h r h' :=
  (mX_ior d_X8_comesBy_62).trans <| (mX_istore_n (ls' := [.ref 63, .int x1, .int (s1 ||| s0), .int x3, .int x4]) d_X8_comesBy_63 rfl rfl).trans <| (mX_iinc (ls' := [.ref 63, .int x1, .int (s1 ||| s0), .int (x3 + 1), .int x4]) d_X8_comesBy_64 rfl ci_1 rfl rfl).trans <| mX_goto d_X8_comesBy_67 rfl
theorem b_X8_comesBy_70 {x1 x2 x3 : Int32} {w4 : Value} {h h' : mn_H} {r : Option Value} : mn_E 145 70 [.ref 63, .int x1, .int x2, .int x3, w4] [] h r h' ↔ mn_E 145 72 [.ref 63, .int x1, .int x2, .int 0, w4] [] h r h' :=
  (mX_iconst d_X8_comesBy_70 ci_0).trans <| mX_istore_n (ls' := [.ref 63, .int x1, .int x2, .int 0, w4]) d_X8_comesBy_71 rfl rfl
theorem b_X8_comesBy_72 {x1 x2 x3 : Int32} {w4 : Value} {h h' : mn_H} {r : Option Value} : mn_E 145 72 [.ref 63, .int x1, .int x2, .int x3, w4] [] h r h' ↔ if (h 65 (4 : Int32).toNatClampNeg) ≤ x3 then mn_E 145 138 [.ref 63, .int x1, .int x2, .int x3, w4] [] h r h' else mn_E 145 82 [.ref 63, .int x1, .int x2, .int x3, w4] [] h r h' :=
  (mX_iload_n d_X8_comesBy_72 rfl).trans <| (mX_aload_n d_X8_comesBy_73 rfl).trans <| (mG_r (b := 65) d_X8_comesBy_74 fr_145_13 rfl (by decide) rfl).trans <| (mX_iconst d_X8_comesBy_77 ci_4).trans <| (mX_iaload d_X8_comesBy_78 rfl (by decide) (mn_in_iff (by decide +kernel))).trans <| mX_icmp_ge d_X8_comesBy_79 rfl
theorem b_X8_comesBy_82 {x1 x2 x3 : Int32} {w4 : Value} {h h' : mn_H} {r : Option Value} (hy0 : vp_in ((80 + (3 * x3)) + 1) 96) (hy1 : ¬ (h 65 ((80 + (3 * x3)) + 1).toNatClampNeg) = 0) (hy2 : vp_in ((80 + (3 * x3)) + 2) 96) : mn_E 145 82 [.ref 63, .int x1, .int x2, .int x3, w4] [] h r h' ↔ if ¬ ((h 63 20) - (h 63 20) / (h 65 ((80 + (3 * x3)) + 1).toNatClampNeg) * (h 65 ((80 + (3 * x3)) + 1).toNatClampNeg)) = (h 65 ((80 + (3 * x3)) + 2).toNatClampNeg) then mn_E 145 129 [.ref 63, .int x1, .int x2, .int x3, .int (80 + (3 * x3))] [.int x2] h r h' else mn_E 145 117 [.ref 63, .int x1, .int x2, .int x3, .int (80 + (3 * x3))] [.int x2] h r h' :=
  (mX_bipush d_X8_comesBy_82 cb_80).trans <| (mX_iconst d_X8_comesBy_84 ci_3).trans <| (mX_iload_n d_X8_comesBy_85 rfl).trans <| (mX_imul d_X8_comesBy_86).trans <| (mX_iadd d_X8_comesBy_87).trans <| (mX_istore (ls' := [.ref 63, .int x1, .int x2, .int x3, .int (80 + (3 * x3))]) d_X8_comesBy_88 rfl rfl).trans <| (mX_iload_n d_X8_comesBy_90 rfl).trans <| (mX_aload_n d_X8_comesBy_91 rfl).trans <| (mG_i d_X8_comesBy_92 fi_145_149 rfl (by decide)).trans <| (mX_aload_n d_X8_comesBy_95 rfl).trans <| (mG_r (b := 65) d_X8_comesBy_96 fr_145_13 rfl (by decide) rfl).trans <| (mX_iload d_X8_comesBy_99 rfl).trans <| (mX_iconst d_X8_comesBy_101 ci_1).trans <| (mX_iadd d_X8_comesBy_102).trans <| (mX_iaload d_X8_comesBy_103 rfl (by decide) hy0).trans <| (mX_irem d_X8_comesBy_104 hy1).trans <| (mX_aload_n d_X8_comesBy_105 rfl).trans <| (mG_r (b := 65) d_X8_comesBy_106 fr_145_13 rfl (by decide) rfl).trans <| (mX_iload d_X8_comesBy_109 rfl).trans <| (mX_iconst d_X8_comesBy_111 ci_2).trans <| (mX_iadd d_X8_comesBy_112).trans <| (mX_iaload d_X8_comesBy_113 rfl (by decide) hy2).trans <| mX_icmp_ne d_X8_comesBy_114 rfl
theorem b_X8_comesBy_117 {x1 x2 x3 x4 s0 : Int32} {h h' : mn_H} {r : Option Value} (hy0 : vp_in x4 96) : mn_E 145 117 [.ref 63, .int x1, .int x2, .int x3, .int x4] [.int s0] h r h' ↔ mn_E 145 130 [.ref 63, .int x1, .int x2, .int x3, .int x4] [.int (1 <<< ((h 65 x4.toNatClampNeg) &&& 31)), .int s0] h r h' :=
  (mX_iconst d_X8_comesBy_117 ci_1).trans <| (mX_aload_n d_X8_comesBy_118 rfl).trans <| (mG_r (b := 65) d_X8_comesBy_119 fr_145_13 rfl (by decide) rfl).trans <| (mX_iload d_X8_comesBy_122 rfl).trans <| (mX_iaload d_X8_comesBy_124 rfl (by decide) hy0).trans <| (mX_ishl d_X8_comesBy_125).trans <| mX_goto d_X8_comesBy_126 rfl
theorem b_X8_comesBy_129 {x1 x2 x3 x4 s0 : Int32} {h h' : mn_H} {r : Option Value} : mn_E 145 129 [.ref 63, .int x1, .int x2, .int x3, .int x4] [.int s0] h r h' ↔ mn_E 145 130 [.ref 63, .int x1, .int x2, .int x3, .int x4] [.int 0, .int s0] h r h' :=
  mX_iconst d_X8_comesBy_129 ci_0
theorem b_X8_comesBy_130 {x1 x2 x3 x4 s0 s1 : Int32} {h h' : mn_H} {r : Option Value} : mn_E 145 130 [.ref 63, .int x1, .int x2, .int x3, .int x4] [.int s0, .int s1] h r h' ↔ mn_E 145 72 [.ref 63, .int x1, .int (s1 ||| s0), .int (x3 + 1), .int x4] [] h r h' :=
  (mX_ior d_X8_comesBy_130).trans <| (mX_istore_n (ls' := [.ref 63, .int x1, .int (s1 ||| s0), .int x3, .int x4]) d_X8_comesBy_131 rfl rfl).trans <| (mX_iinc (ls' := [.ref 63, .int x1, .int (s1 ||| s0), .int (x3 + 1), .int x4]) d_X8_comesBy_132 rfl ci_1 rfl rfl).trans <| mX_goto d_X8_comesBy_135 rfl
theorem b_X8_comesBy_138 {x1 x2 x3 : Int32} {w4 : Value} {h h' : mn_H} {r : Option Value} : mn_E 145 138 [.ref 63, .int x1, .int x2, .int x3, w4] [] h r h' ↔ mn_E 145 140 [.ref 63, .int x1, .int x2, .int 0, w4] [] h r h' :=
  (mX_iconst d_X8_comesBy_138 ci_0).trans <| mX_istore_n (ls' := [.ref 63, .int x1, .int x2, .int 0, w4]) d_X8_comesBy_139 rfl rfl
theorem b_X8_comesBy_140 {x1 x2 x3 : Int32} {w4 : Value} {h h' : mn_H} {r : Option Value} : mn_E 145 140 [.ref 63, .int x1, .int x2, .int x3, w4] [] h r h' ↔ if (h 65 (3 : Int32).toNatClampNeg) ≤ x3 then mn_E 145 208 [.ref 63, .int x1, .int x2, .int x3, w4] [] h r h' else mn_E 145 150 [.ref 63, .int x1, .int x2, .int x3, w4] [] h r h' :=
  (mX_iload_n d_X8_comesBy_140 rfl).trans <| (mX_aload_n d_X8_comesBy_141 rfl).trans <| (mG_r (b := 65) d_X8_comesBy_142 fr_145_13 rfl (by decide) rfl).trans <| (mX_iconst d_X8_comesBy_145 ci_3).trans <| (mX_iaload d_X8_comesBy_146 rfl (by decide) (mn_in_iff (by decide +kernel))).trans <| mX_icmp_ge d_X8_comesBy_147 rfl
theorem b_X8_comesBy_150 {x1 x2 x3 : Int32} {w4 : Value} {h h' : mn_H} {r : Option Value} (hy0 : vp_in ((68 + (3 * x3)) + 1) 96) : mn_E 145 150 [.ref 63, .int x1, .int x2, .int x3, w4] [] h r h' ↔ ∃ x h1, mn_X 144 [.ref 63, .int x1, .int (h 65 ((68 + (3 * x3)) + 1).toNatClampNeg)] h (some (.int x)) h1 ∧ mn_E 145 173 [.ref 63, .int x1, .int x2, .int x3, .int (68 + (3 * x3))] [.int x, .int x2] h1 r h' :=
  (mX_bipush d_X8_comesBy_150 cb_68).trans <| (mX_iconst d_X8_comesBy_152 ci_3).trans <| (mX_iload_n d_X8_comesBy_153 rfl).trans <| (mX_imul d_X8_comesBy_154).trans <| (mX_iadd d_X8_comesBy_155).trans <| (mX_istore (ls' := [.ref 63, .int x1, .int x2, .int x3, .int (68 + (3 * x3))]) d_X8_comesBy_156 rfl rfl).trans <| (mX_iload_n d_X8_comesBy_158 rfl).trans <| (mX_aload_n d_X8_comesBy_159 rfl).trans <| (mX_iload_n d_X8_comesBy_160 rfl).trans <| (mX_aload_n d_X8_comesBy_161 rfl).trans <| (mG_r (b := 65) d_X8_comesBy_162 fr_145_13 rfl (by decide) rfl).trans <| (mX_iload d_X8_comesBy_165 rfl).trans <| (mX_iconst d_X8_comesBy_167 ci_1).trans <| (mX_iadd d_X8_comesBy_168).trans <| (mX_iaload d_X8_comesBy_169 rfl (by decide) hy0).trans <| mV_i (a := 63) (vs := [.int x1, .int (h 65 ((68 + (3 * x3)) + 1).toNatClampNeg)]) (st' := [.int x2]) d_X8_comesBy_170 cv_145_158 (Or.inl rfl) (Nat.le_of_ble_eq_true rfl) rfl rfl rfl rfl
theorem b_X8_comesBy_173 {x1 x2 x3 x4 s0 s1 : Int32} {h h' : mn_H} {r : Option Value} (hy0 : vp_in (x4 + 2) 96) : mn_E 145 173 [.ref 63, .int x1, .int x2, .int x3, .int x4] [.int s0, .int s1] h r h' ↔ if s0 < (h 65 (x4 + 2).toNatClampNeg) then mn_E 145 199 [.ref 63, .int x1, .int x2, .int x3, .int x4] [.int s1] h r h' else mn_E 145 185 [.ref 63, .int x1, .int x2, .int x3, .int x4] [.int s1] h r h' :=
  (mX_aload_n d_X8_comesBy_173 rfl).trans <| (mG_r (b := 65) d_X8_comesBy_174 fr_145_13 rfl (by decide) rfl).trans <| (mX_iload d_X8_comesBy_177 rfl).trans <| (mX_iconst d_X8_comesBy_179 ci_2).trans <| (mX_iadd d_X8_comesBy_180).trans <| (mX_iaload d_X8_comesBy_181 rfl (by decide) hy0).trans <| mX_icmp_lt d_X8_comesBy_182 rfl
theorem b_X8_comesBy_185 {x1 x2 x3 x4 s0 : Int32} {h h' : mn_H} {r : Option Value} (hy0 : vp_in x4 96) : mn_E 145 185 [.ref 63, .int x1, .int x2, .int x3, .int x4] [.int s0] h r h' ↔ mn_E 145 200 [.ref 63, .int x1, .int x2, .int x3, .int x4] [.int ((1 <<< ((h 65 x4.toNatClampNeg) &&& 31)) ^^^ (-1)), .int s0] h r h' :=
  (mX_iconst d_X8_comesBy_185 ci_1).trans <| (mX_aload_n d_X8_comesBy_186 rfl).trans <| (mG_r (b := 65) d_X8_comesBy_187 fr_145_13 rfl (by decide) rfl).trans <| (mX_iload d_X8_comesBy_190 rfl).trans <| (mX_iaload d_X8_comesBy_192 rfl (by decide) hy0).trans <| (mX_ishl d_X8_comesBy_193).trans <| (mX_iconst d_X8_comesBy_194 ci_m1).trans <| (mX_ixor d_X8_comesBy_195).trans <| mX_goto d_X8_comesBy_196 rfl
theorem b_X8_comesBy_199 {x1 x2 x3 x4 s0 : Int32} {h h' : mn_H} {r : Option Value} : mn_E 145 199 [.ref 63, .int x1, .int x2, .int x3, .int x4] [.int s0] h r h' ↔ mn_E 145 200 [.ref 63, .int x1, .int x2, .int x3, .int x4] [.int (-1), .int s0] h r h' :=
  mX_iconst d_X8_comesBy_199 ci_m1
theorem b_X8_comesBy_200 {x1 x2 x3 x4 s0 s1 : Int32} {h h' : mn_H} {r : Option Value} : mn_E 145 200 [.ref 63, .int x1, .int x2, .int x3, .int x4] [.int s0, .int s1] h r h' ↔ mn_E 145 140 [.ref 63, .int x1, .int (s1 &&& s0), .int (x3 + 1), .int x4] [] h r h' :=
  (mX_iand d_X8_comesBy_200).trans <| (mX_istore_n (ls' := [.ref 63, .int x1, .int (s1 &&& s0), .int x3, .int x4]) d_X8_comesBy_201 rfl rfl).trans <| (mX_iinc (ls' := [.ref 63, .int x1, .int (s1 &&& s0), .int (x3 + 1), .int x4]) d_X8_comesBy_202 rfl ci_1 rfl rfl).trans <| mX_goto d_X8_comesBy_205 rfl
theorem b_X8_comesBy_208 {x1 x2 x3 : Int32} {w4 : Value} {h h' : mn_H} {r : Option Value} : mn_E 145 208 [.ref 63, .int x1, .int x2, .int x3, w4] [] h r h' ↔ r = some (.int x2) ∧ h' = h :=
  (mX_iload_n d_X8_comesBy_208 rfl).trans <| mX_iret d_X8_comesBy_209 rfl
-- X8_fits
theorem mo_146 : mO 146 = 8 := rfl
theorem d_X8_fits_0 : decode (mC 146) 0 = .ok (.iconst 0, 1) := by decide +kernel
theorem d_X8_fits_1 : decode (mC 146) 1 = .ok (.istore_n 1, 1) := by decide +kernel
theorem d_X8_fits_2 : decode (mC 146) 2 = .ok (.iconst 0, 1) := by decide +kernel
theorem d_X8_fits_3 : decode (mC 146) 3 = .ok (.istore_n 2, 1) := by decide +kernel
theorem d_X8_fits_4 : decode (mC 146) 4 = .ok (.iload_n 2, 1) := by decide +kernel
theorem d_X8_fits_5 : decode (mC 146) 5 = .ok (.bipush 64, 2) := by decide +kernel
theorem d_X8_fits_7 : decode (mC 146) 7 = .ok (.if_icmp .ge 30, 3) := by decide +kernel
theorem d_X8_fits_10 : decode (mC 146) 10 = .ok (.iload_n 1, 1) := by decide +kernel
theorem d_X8_fits_11 : decode (mC 146) 11 = .ok (.aload_n 0, 1) := by decide +kernel
theorem d_X8_fits_12 : decode (mC 146) 12 = .ok (.aload_n 0, 1) := by decide +kernel
theorem d_X8_fits_13 : decode (mC 146) 13 = .ok (.iload_n 2, 1) := by decide +kernel
theorem d_X8_fits_14 : decode (mC 146) 14 = .ok (.invokevirtual 162, 3) := by decide +kernel
theorem d_X8_fits_17 : decode (mC 146) 17 = .ok (.invokevirtual 165, 3) := by decide +kernel
theorem d_X8_fits_20 : decode (mC 146) 20 = .ok (.iload_n 2, 1) := by decide +kernel
theorem d_X8_fits_21 : decode (mC 146) 21 = .ok (.if_icmp .ne 7, 3) := by decide +kernel
theorem d_X8_fits_24 : decode (mC 146) 24 = .ok (.iconst 1, 1) := by decide +kernel
theorem d_X8_fits_25 : decode (mC 146) 25 = .ok (.goto 4, 3) := by decide +kernel
theorem d_X8_fits_28 : decode (mC 146) 28 = .ok (.iconst 0, 1) := by decide +kernel
theorem d_X8_fits_29 : decode (mC 146) 29 = .ok (.iadd, 1) := by decide +kernel
theorem d_X8_fits_30 : decode (mC 146) 30 = .ok (.istore_n 1, 1) := by decide +kernel
theorem d_X8_fits_31 : decode (mC 146) 31 = .ok (.iinc 2 1, 3) := by decide +kernel
theorem d_X8_fits_34 : decode (mC 146) 34 = .ok (.goto (-30), 3) := by decide +kernel
theorem d_X8_fits_37 : decode (mC 146) 37 = .ok (.iload_n 1, 1) := by decide +kernel
theorem d_X8_fits_38 : decode (mC 146) 38 = .ok (.ireturn, 1) := by decide +kernel
theorem cv_146_162 : mn_cvt 146 8 162 143 = true := by decide +kernel
theorem cv_146_165 : mn_cvt 146 8 165 145 = true := by decide +kernel
theorem b_X8_fits_0 {h h' : mn_H} {r : Option Value} : mn_E 146 0 [.ref 63, .null, .null] [] h r h' ↔ mn_E 146 4 [.ref 63, .int 0, .int 0] [] h r h' :=
  (mX_iconst d_X8_fits_0 ci_0).trans <| (mX_istore_n (ls' := [.ref 63, .int 0, .null]) d_X8_fits_1 rfl rfl).trans <| (mX_iconst d_X8_fits_2 ci_0).trans <| mX_istore_n (ls' := [.ref 63, .int 0, .int 0]) d_X8_fits_3 rfl rfl
theorem b_X8_fits_4 {x1 x2 : Int32} {h h' : mn_H} {r : Option Value} : mn_E 146 4 [.ref 63, .int x1, .int x2] [] h r h' ↔ if (64 : Int32) ≤ x2 then mn_E 146 37 [.ref 63, .int x1, .int x2] [] h r h' else mn_E 146 10 [.ref 63, .int x1, .int x2] [] h r h' :=
  (mX_iload_n d_X8_fits_4 rfl).trans <| (mX_bipush d_X8_fits_5 cb_64).trans <| mX_icmp_ge d_X8_fits_7 rfl
theorem b_X8_fits_10 {x1 x2 : Int32} {h h' : mn_H} {r : Option Value} : mn_E 146 10 [.ref 63, .int x1, .int x2] [] h r h' ↔ ∃ x h1, mn_X 143 [.ref 63, .int x2] h (some (.int x)) h1 ∧ mn_E 146 17 [.ref 63, .int x1, .int x2] [.int x, .ref 63, .int x1] h1 r h' :=
  (mX_iload_n d_X8_fits_10 rfl).trans <| (mX_aload_n d_X8_fits_11 rfl).trans <| (mX_aload_n d_X8_fits_12 rfl).trans <| (mX_iload_n d_X8_fits_13 rfl).trans <| mV_i (a := 63) (vs := [.int x2]) (st' := [.ref 63, .int x1]) d_X8_fits_14 cv_146_162 (Or.inl rfl) (Nat.le_of_ble_eq_true rfl) rfl rfl rfl rfl
theorem b_X8_fits_17 {x1 x2 s0 s2 : Int32} {h h' : mn_H} {r : Option Value} : mn_E 146 17 [.ref 63, .int x1, .int x2] [.int s0, .ref 63, .int s2] h r h' ↔ ∃ x h1, mn_X 145 [.ref 63, .int s0] h (some (.int x)) h1 ∧ mn_E 146 20 [.ref 63, .int x1, .int x2] [.int x, .int s2] h1 r h' :=
  mV_i (a := 63) (vs := [.int s0]) (st' := [.int s2]) d_X8_fits_17 cv_146_165 (Or.inl rfl) (Nat.le_of_ble_eq_true rfl) rfl rfl rfl rfl
theorem b_X8_fits_20 {x1 x2 s0 s1 : Int32} {h h' : mn_H} {r : Option Value} : mn_E 146 20 [.ref 63, .int x1, .int x2] [.int s0, .int s1] h r h' ↔ if ¬ s0 = x2 then mn_E 146 28 [.ref 63, .int x1, .int x2] [.int s1] h r h' else mn_E 146 24 [.ref 63, .int x1, .int x2] [.int s1] h r h' :=
  (mX_iload_n d_X8_fits_20 rfl).trans <| mX_icmp_ne d_X8_fits_21 rfl
theorem b_X8_fits_24 {x1 x2 s0 : Int32} {h h' : mn_H} {r : Option Value} : mn_E 146 24 [.ref 63, .int x1, .int x2] [.int s0] h r h' ↔ mn_E 146 29 [.ref 63, .int x1, .int x2] [.int 1, .int s0] h r h' :=
  (mX_iconst d_X8_fits_24 ci_1).trans <| mX_goto d_X8_fits_25 rfl
theorem b_X8_fits_28 {x1 x2 s0 : Int32} {h h' : mn_H} {r : Option Value} : mn_E 146 28 [.ref 63, .int x1, .int x2] [.int s0] h r h' ↔ mn_E 146 29 [.ref 63, .int x1, .int x2] [.int 0, .int s0] h r h' :=
  mX_iconst d_X8_fits_28 ci_0
theorem b_X8_fits_29 {x1 x2 s0 s1 : Int32} {h h' : mn_H} {r : Option Value} : mn_E 146 29 [.ref 63, .int x1, .int x2] [.int s0, .int s1] h r h' ↔ mn_E 146 4 [.ref 63, .int (s1 + s0), .int (x2 + 1)] [] h r h' :=
  (mX_iadd d_X8_fits_29).trans <| (mX_istore_n (ls' := [.ref 63, .int (s1 + s0), .int x2]) d_X8_fits_30 rfl rfl).trans <| (mX_iinc (ls' := [.ref 63, .int (s1 + s0), .int (x2 + 1)]) d_X8_fits_31 rfl ci_1 rfl rfl).trans <| mX_goto d_X8_fits_34 rfl
theorem b_X8_fits_37 {x1 x2 : Int32} {h h' : mn_H} {r : Option Value} : mn_E 146 37 [.ref 63, .int x1, .int x2] [] h r h' ↔ r = some (.int x1) ∧ h' = h :=
  (mX_iload_n d_X8_fits_37 rfl).trans <| mX_iret d_X8_fits_38 rfl
-- X8_gathers
theorem mo_147 : mO 147 = 8 := rfl
theorem d_X8_gathers_0 : decode (mC 147) 0 = .ok (.aload_n 0, 1) := by decide +kernel
theorem d_X8_gathers_1 : decode (mC 147) 1 = .ok (.iconst 0, 1) := by decide +kernel
theorem d_X8_gathers_2 : decode (mC 147) 2 = .ok (.putfield 168, 3) := by decide +kernel
theorem d_X8_gathers_5 : decode (mC 147) 5 = .ok (.iconst 0, 1) := by decide +kernel
theorem d_X8_gathers_6 : decode (mC 147) 6 = .ok (.istore_n 1, 1) := by decide +kernel
theorem d_X8_gathers_7 : decode (mC 147) 7 = .ok (.iload_n 1, 1) := by decide +kernel
theorem d_X8_gathers_8 : decode (mC 147) 8 = .ok (.bipush 64, 2) := by decide +kernel
theorem d_X8_gathers_10 : decode (mC 147) 10 = .ok (.if_icmp .ge 42, 3) := by decide +kernel
theorem d_X8_gathers_13 : decode (mC 147) 13 = .ok (.aload_n 0, 1) := by decide +kernel
theorem d_X8_gathers_14 : decode (mC 147) 14 = .ok (.aload_n 0, 1) := by decide +kernel
theorem d_X8_gathers_15 : decode (mC 147) 15 = .ok (.iload_n 1, 1) := by decide +kernel
theorem d_X8_gathers_16 : decode (mC 147) 16 = .ok (.invokevirtual 162, 3) := by decide +kernel
theorem d_X8_gathers_19 : decode (mC 147) 19 = .ok (.invokevirtual 165, 3) := by decide +kernel
theorem d_X8_gathers_22 : decode (mC 147) 22 = .ok (.iload_n 1, 1) := by decide +kernel
theorem d_X8_gathers_23 : decode (mC 147) 23 = .ok (.if_icmp .ne 23, 3) := by decide +kernel
theorem d_X8_gathers_26 : decode (mC 147) 26 = .ok (.aload_n 0, 1) := by decide +kernel
theorem d_X8_gathers_27 : decode (mC 147) 27 = .ok (.getfield 39, 3) := by decide +kernel
theorem d_X8_gathers_30 : decode (mC 147) 30 = .ok (.aload_n 0, 1) := by decide +kernel
theorem d_X8_gathers_31 : decode (mC 147) 31 = .ok (.getfield 168, 3) := by decide +kernel
theorem d_X8_gathers_34 : decode (mC 147) 34 = .ok (.iload_n 1, 1) := by decide +kernel
theorem d_X8_gathers_35 : decode (mC 147) 35 = .ok (.iastore, 1) := by decide +kernel
theorem d_X8_gathers_36 : decode (mC 147) 36 = .ok (.aload_n 0, 1) := by decide +kernel
theorem d_X8_gathers_37 : decode (mC 147) 37 = .ok (.dup, 1) := by decide +kernel
theorem d_X8_gathers_38 : decode (mC 147) 38 = .ok (.getfield 168, 3) := by decide +kernel
theorem d_X8_gathers_41 : decode (mC 147) 41 = .ok (.iconst 1, 1) := by decide +kernel
theorem d_X8_gathers_42 : decode (mC 147) 42 = .ok (.iadd, 1) := by decide +kernel
theorem d_X8_gathers_43 : decode (mC 147) 43 = .ok (.putfield 168, 3) := by decide +kernel
theorem d_X8_gathers_46 : decode (mC 147) 46 = .ok (.iinc 1 1, 3) := by decide +kernel
theorem d_X8_gathers_49 : decode (mC 147) 49 = .ok (.goto (-42), 3) := by decide +kernel
theorem d_X8_gathers_52 : decode (mC 147) 52 = .ok (.aload_n 0, 1) := by decide +kernel
theorem d_X8_gathers_53 : decode (mC 147) 53 = .ok (.getfield 168, 3) := by decide +kernel
theorem d_X8_gathers_56 : decode (mC 147) 56 = .ok (.ifCond .ne 19, 3) := by decide +kernel
theorem d_X8_gathers_59 : decode (mC 147) 59 = .ok (.aload_n 0, 1) := by decide +kernel
theorem d_X8_gathers_60 : decode (mC 147) 60 = .ok (.getfield 39, 3) := by decide +kernel
theorem d_X8_gathers_63 : decode (mC 147) 63 = .ok (.iconst 0, 1) := by decide +kernel
theorem d_X8_gathers_64 : decode (mC 147) 64 = .ok (.aload_n 0, 1) := by decide +kernel
theorem d_X8_gathers_65 : decode (mC 147) 65 = .ok (.iconst 0, 1) := by decide +kernel
theorem d_X8_gathers_66 : decode (mC 147) 66 = .ok (.invokevirtual 165, 3) := by decide +kernel
theorem d_X8_gathers_69 : decode (mC 147) 69 = .ok (.iastore, 1) := by decide +kernel
theorem d_X8_gathers_70 : decode (mC 147) 70 = .ok (.aload_n 0, 1) := by decide +kernel
theorem d_X8_gathers_71 : decode (mC 147) 71 = .ok (.iconst 1, 1) := by decide +kernel
theorem d_X8_gathers_72 : decode (mC 147) 72 = .ok (.putfield 168, 3) := by decide +kernel
theorem d_X8_gathers_75 : decode (mC 147) 75 = .ok (.return_, 1) := by decide +kernel
theorem fi_147_168 : mn_fi 147 8 168 8 22 = true := by decide +kernel
theorem cv_147_162 : mn_cvt 147 8 162 143 = true := by decide +kernel
theorem cv_147_165 : mn_cvt 147 8 165 145 = true := by decide +kernel
theorem fr_147_39 : mn_fr 147 8 39 8 21 = true := by decide +kernel
theorem b_X8_gathers_0 {h h' : mn_H} {r : Option Value} : mn_E 147 0 [.ref 63, .null] [] h r h' ↔ mn_E 147 7 [.ref 63, .int 0] [] (mn_up h 63 22 0) r h' :=
  (mX_aload_n d_X8_gathers_0 rfl).trans <| (mX_iconst d_X8_gathers_1 ci_0).trans <| (mP_i d_X8_gathers_2 fi_147_168 rfl (by decide) rfl (Or.inl (by decide))).trans <| (mX_iconst d_X8_gathers_5 ci_0).trans <| mX_istore_n (ls' := [.ref 63, .int 0]) d_X8_gathers_6 rfl rfl
theorem b_X8_gathers_7 {x1 : Int32} {h h' : mn_H} {r : Option Value} : mn_E 147 7 [.ref 63, .int x1] [] h r h' ↔ if (64 : Int32) ≤ x1 then mn_E 147 52 [.ref 63, .int x1] [] h r h' else mn_E 147 13 [.ref 63, .int x1] [] h r h' :=
  (mX_iload_n d_X8_gathers_7 rfl).trans <| (mX_bipush d_X8_gathers_8 cb_64).trans <| mX_icmp_ge d_X8_gathers_10 rfl
theorem b_X8_gathers_13 {x1 : Int32} {h h' : mn_H} {r : Option Value} : mn_E 147 13 [.ref 63, .int x1] [] h r h' ↔ ∃ x h1, mn_X 143 [.ref 63, .int x1] h (some (.int x)) h1 ∧ mn_E 147 19 [.ref 63, .int x1] [.int x, .ref 63] h1 r h' :=
  (mX_aload_n d_X8_gathers_13 rfl).trans <| (mX_aload_n d_X8_gathers_14 rfl).trans <| (mX_iload_n d_X8_gathers_15 rfl).trans <| mV_i (a := 63) (vs := [.int x1]) (st' := [.ref 63]) d_X8_gathers_16 cv_147_162 (Or.inl rfl) (Nat.le_of_ble_eq_true rfl) rfl rfl rfl rfl
theorem b_X8_gathers_19 {x1 s0 : Int32} {h h' : mn_H} {r : Option Value} : mn_E 147 19 [.ref 63, .int x1] [.int s0, .ref 63] h r h' ↔ ∃ x h1, mn_X 145 [.ref 63, .int s0] h (some (.int x)) h1 ∧ mn_E 147 22 [.ref 63, .int x1] [.int x] h1 r h' :=
  mV_i (a := 63) (vs := [.int s0]) (st' := []) d_X8_gathers_19 cv_147_165 (Or.inl rfl) (Nat.le_of_ble_eq_true rfl) rfl rfl rfl rfl
theorem b_X8_gathers_22 {x1 s0 : Int32} {h h' : mn_H} {r : Option Value} : mn_E 147 22 [.ref 63, .int x1] [.int s0] h r h' ↔ if ¬ s0 = x1 then mn_E 147 46 [.ref 63, .int x1] [] h r h' else mn_E 147 26 [.ref 63, .int x1] [] h r h' :=
  (mX_iload_n d_X8_gathers_22 rfl).trans <| mX_icmp_ne d_X8_gathers_23 rfl
theorem b_X8_gathers_26 {x1 : Int32} {h h' : mn_H} {r : Option Value} (hy0 : vp_in (h 63 22) 64) : mn_E 147 26 [.ref 63, .int x1] [] h r h' ↔ mn_E 147 46 [.ref 63, .int x1] [] (mn_up (mn_up h 72 ((h 63 22).toNatClampNeg) x1) 63 22 (((mn_up h 72 ((h 63 22).toNatClampNeg) x1) 63 22) + 1)) r h' :=
  (mX_aload_n d_X8_gathers_26 rfl).trans <| (mG_r (b := 72) d_X8_gathers_27 fr_147_39 rfl (by decide) rfl).trans <| (mX_aload_n d_X8_gathers_30 rfl).trans <| (mG_i d_X8_gathers_31 fi_147_168 rfl (by decide)).trans <| (mX_iload_n d_X8_gathers_34 rfl).trans <| (mX_iastore d_X8_gathers_35 rfl (by decide) hy0).trans <| (mX_aload_n d_X8_gathers_36 rfl).trans <| (mX_dup d_X8_gathers_37 rfl).trans <| (mG_i d_X8_gathers_38 fi_147_168 rfl (by decide)).trans <| (mX_iconst d_X8_gathers_41 ci_1).trans <| (mX_iadd d_X8_gathers_42).trans <| mP_i d_X8_gathers_43 fi_147_168 rfl (by decide) rfl (Or.inl (by decide))
theorem b_X8_gathers_46 {x1 : Int32} {h h' : mn_H} {r : Option Value} : mn_E 147 46 [.ref 63, .int x1] [] h r h' ↔ mn_E 147 7 [.ref 63, .int (x1 + 1)] [] h r h' :=
  (mX_iinc (ls' := [.ref 63, .int (x1 + 1)]) d_X8_gathers_46 rfl ci_1 rfl rfl).trans <| mX_goto d_X8_gathers_49 rfl
theorem b_X8_gathers_52 {x1 : Int32} {h h' : mn_H} {r : Option Value} : mn_E 147 52 [.ref 63, .int x1] [] h r h' ↔ if ¬ (h 63 22) = 0 then mn_E 147 75 [.ref 63, .int x1] [] h r h' else mn_E 147 59 [.ref 63, .int x1] [] h r h' :=
  (mX_aload_n d_X8_gathers_52 rfl).trans <| (mG_i d_X8_gathers_53 fi_147_168 rfl (by decide)).trans <| mX_if_ne d_X8_gathers_56 rfl
theorem b_X8_gathers_59 {x1 : Int32} {h h' : mn_H} {r : Option Value} : mn_E 147 59 [.ref 63, .int x1] [] h r h' ↔ ∃ x h1, mn_X 145 [.ref 63, .int 0] h (some (.int x)) h1 ∧ mn_E 147 69 [.ref 63, .int x1] [.int x, .int 0, .ref 72] h1 r h' :=
  (mX_aload_n d_X8_gathers_59 rfl).trans <| (mG_r (b := 72) d_X8_gathers_60 fr_147_39 rfl (by decide) rfl).trans <| (mX_iconst d_X8_gathers_63 ci_0).trans <| (mX_aload_n d_X8_gathers_64 rfl).trans <| (mX_iconst d_X8_gathers_65 ci_0).trans <| mV_i (a := 63) (vs := [.int 0]) (st' := [.int 0, .ref 72]) d_X8_gathers_66 cv_147_165 (Or.inl rfl) (Nat.le_of_ble_eq_true rfl) rfl rfl rfl rfl
theorem b_X8_gathers_69 {x1 s0 s1 : Int32} {h h' : mn_H} {r : Option Value} (hy0 : vp_in s1 64) : mn_E 147 69 [.ref 63, .int x1] [.int s0, .int s1, .ref 72] h r h' ↔ mn_E 147 75 [.ref 63, .int x1] [] (mn_up (mn_up h 72 (s1.toNatClampNeg) s0) 63 22 1) r h' :=
  (mX_iastore d_X8_gathers_69 rfl (by decide) hy0).trans <| (mX_aload_n d_X8_gathers_70 rfl).trans <| (mX_iconst d_X8_gathers_71 ci_1).trans <| mP_i d_X8_gathers_72 fi_147_168 rfl (by decide) rfl (Or.inl (by decide))
theorem b_X8_gathers_75 {x1 : Int32} {h h' : mn_H} {r : Option Value} : mn_E 147 75 [.ref 63, .int x1] [] h r h' ↔ r = none ∧ h' = h :=
  mX_vret d_X8_gathers_75 rfl
-- X8_ring
theorem mo_148 : mO 148 = 8 := rfl
theorem d_X8_ring_0 : decode (mC 148) 0 = .ok (.aload_n 0, 1) := by decide +kernel
theorem d_X8_ring_1 : decode (mC 148) 1 = .ok (.invokevirtual 107, 3) := by decide +kernel
theorem d_X8_ring_4 : decode (mC 148) 4 = .ok (.iload_n 1, 1) := by decide +kernel
theorem d_X8_ring_5 : decode (mC 148) 5 = .ok (.invokestatic 128, 3) := by decide +kernel
theorem d_X8_ring_8 : decode (mC 148) 8 = .ok (.ifCond .eq 11, 3) := by decide +kernel
theorem d_X8_ring_11 : decode (mC 148) 11 = .ok (.aload_n 0, 1) := by decide +kernel
theorem d_X8_ring_12 : decode (mC 148) 12 = .ok (.iload_n 1, 1) := by decide +kernel
theorem d_X8_ring_13 : decode (mC 148) 13 = .ok (.invokevirtual 162, 3) := by decide +kernel
theorem d_X8_ring_16 : decode (mC 148) 16 = .ok (.goto 5, 3) := by decide +kernel
theorem d_X8_ring_19 : decode (mC 148) 19 = .ok (.ldc 50, 2) := by decide +kernel
theorem d_X8_ring_21 : decode (mC 148) 21 = .ok (.ireturn, 1) := by decide +kernel
theorem cv_148_107 : mn_cvt 148 8 107 141 = true := by decide +kernel
theorem cs_148_128 : mn_cs 148 8 128 117 = true := by decide +kernel
theorem cv_148_162 : mn_cvt 148 8 162 143 = true := by decide +kernel
theorem b_X8_ring_0 {x1 : Int32} {h h' : mn_H} {r : Option Value} : mn_E 148 0 [.ref 63, .int x1] [] h r h' ↔ ∃ h1, mn_X 141 [.ref 63] h none h1 ∧ mn_E 148 4 [.ref 63, .int x1] [] h1 r h' :=
  (mX_aload_n d_X8_ring_0 rfl).trans <| mV_v (a := 63) (vs := []) (st' := []) d_X8_ring_1 cv_148_107 rfl (Nat.le_of_ble_eq_true rfl) rfl rfl rfl rfl
theorem b_X8_ring_4 {x1 : Int32} {h h' : mn_H} {r : Option Value} : mn_E 148 4 [.ref 63, .int x1] [] h r h' ↔ ∃ x h1, mn_X 117 [.int x1] h (some (.int x)) h1 ∧ mn_E 148 8 [.ref 63, .int x1] [.int x] h1 r h' :=
  (mX_iload_n d_X8_ring_4 rfl).trans <| mS_i (vs := [.int x1]) (st' := []) d_X8_ring_5 cs_148_128 (Or.inr (Or.inl rfl)) (Nat.le_of_ble_eq_true rfl) rfl rfl rfl
theorem b_X8_ring_8 {x1 s0 : Int32} {h h' : mn_H} {r : Option Value} : mn_E 148 8 [.ref 63, .int x1] [.int s0] h r h' ↔ if s0 = 0 then mn_E 148 19 [.ref 63, .int x1] [] h r h' else mn_E 148 11 [.ref 63, .int x1] [] h r h' :=
  mX_if_eq d_X8_ring_8 rfl
theorem b_X8_ring_11 {x1 : Int32} {h h' : mn_H} {r : Option Value} : mn_E 148 11 [.ref 63, .int x1] [] h r h' ↔ ∃ x h1, mn_X 143 [.ref 63, .int x1] h (some (.int x)) h1 ∧ mn_E 148 16 [.ref 63, .int x1] [.int x] h1 r h' :=
  (mX_aload_n d_X8_ring_11 rfl).trans <| (mX_iload_n d_X8_ring_12 rfl).trans <| mV_i (a := 63) (vs := [.int x1]) (st' := []) d_X8_ring_13 cv_148_162 (Or.inl rfl) (Nat.le_of_ble_eq_true rfl) rfl rfl rfl rfl
theorem b_X8_ring_16 {x1 s0 : Int32} {h h' : mn_H} {r : Option Value} : mn_E 148 16 [.ref 63, .int x1] [.int s0] h r h' ↔ mn_E 148 21 [.ref 63, .int x1] [.int s0] h r h' :=
  mX_goto d_X8_ring_16 rfl
theorem b_X8_ring_19 {x1 : Int32} {h h' : mn_H} {r : Option Value} : mn_E 148 19 [.ref 63, .int x1] [] h r h' ↔ mn_E 148 21 [.ref 63, .int x1] [.int (-1000000002)] h r h' :=
  mX_ldc d_X8_ring_19 mo_148 kc_8_50 (by decide)
theorem b_X8_ring_21 {x1 s0 : Int32} {h h' : mn_H} {r : Option Value} : mn_E 148 21 [.ref 63, .int x1] [.int s0] h r h' ↔ r = some (.int s0) ∧ h' = h :=
  mX_iret d_X8_ring_21 rfl
-- X8_isRing
theorem mo_149 : mO 149 = 8 := rfl
theorem d_X8_isRing_0 : decode (mC 149) 0 = .ok (.iload_n 1, 1) := by decide +kernel
theorem d_X8_isRing_1 : decode (mC 149) 1 = .ok (.iconst 0, 1) := by decide +kernel
theorem d_X8_isRing_2 : decode (mC 149) 2 = .ok (.iconst 1, 1) := by decide +kernel
theorem d_X8_isRing_3 : decode (mC 149) 3 = .ok (.aload_n 0, 1) := by decide +kernel
theorem d_X8_isRing_4 : decode (mC 149) 4 = .ok (.getfield 13, 3) := by decide +kernel
theorem d_X8_isRing_7 : decode (mC 149) 7 = .ok (.iconst 0, 1) := by decide +kernel
theorem d_X8_isRing_8 : decode (mC 149) 8 = .ok (.iaload, 1) := by decide +kernel
theorem d_X8_isRing_9 : decode (mC 149) 9 = .ok (.ishl, 1) := by decide +kernel
theorem d_X8_isRing_10 : decode (mC 149) 10 = .ok (.iconst 1, 1) := by decide +kernel
theorem d_X8_isRing_11 : decode (mC 149) 11 = .ok (.isub, 1) := by decide +kernel
theorem d_X8_isRing_12 : decode (mC 149) 12 = .ok (.invokestatic 46, 3) := by decide +kernel
theorem d_X8_isRing_15 : decode (mC 149) 15 = .ok (.ireturn, 1) := by decide +kernel
theorem fr_149_13 : mn_fr 149 8 13 8 2 = true := by decide +kernel
theorem cs_149_46 : mn_cs 149 8 46 114 = true := by decide +kernel
theorem b_X8_isRing_0 {x1 : Int32} {h h' : mn_H} {r : Option Value} : mn_E 149 0 [.ref 63, .int x1] [] h r h' ↔ ∃ x h1, mn_X 114 [.int x1, .int 0, .int ((1 <<< ((h 65 (0 : Int32).toNatClampNeg) &&& 31)) - 1)] h (some (.int x)) h1 ∧ mn_E 149 15 [.ref 63, .int x1] [.int x] h1 r h' :=
  (mX_iload_n d_X8_isRing_0 rfl).trans <| (mX_iconst d_X8_isRing_1 ci_0).trans <| (mX_iconst d_X8_isRing_2 ci_1).trans <| (mX_aload_n d_X8_isRing_3 rfl).trans <| (mG_r (b := 65) d_X8_isRing_4 fr_149_13 rfl (by decide) rfl).trans <| (mX_iconst d_X8_isRing_7 ci_0).trans <| (mX_iaload d_X8_isRing_8 rfl (by decide) (mn_in_iff (by decide +kernel))).trans <| (mX_ishl d_X8_isRing_9).trans <| (mX_iconst d_X8_isRing_10 ci_1).trans <| (mX_isub d_X8_isRing_11).trans <| mS_i (vs := [.int x1, .int 0, .int ((1 <<< ((h 65 (0 : Int32).toNatClampNeg) &&& 31)) - 1)]) (st' := []) d_X8_isRing_12 cs_149_46 (Or.inr (Or.inl rfl)) (Nat.le_of_ble_eq_true rfl) rfl rfl rfl
theorem b_X8_isRing_15 {x1 s0 : Int32} {h h' : mn_H} {r : Option Value} (hy0 : s0 = 0 ∨ s0 = 1) : mn_E 149 15 [.ref 63, .int x1] [.int s0] h r h' ↔ r = some (.int s0) ∧ h' = h :=
  mX_zret d_X8_isRing_15 rfl hy0
-- X8_done
theorem mo_150 : mO 150 = 8 := rfl
theorem d_X8_done_0 : decode (mC 150) 0 = .ok (.aload_n 0, 1) := by decide +kernel
theorem d_X8_done_1 : decode (mC 150) 1 = .ok (.invokevirtual 107, 3) := by decide +kernel
theorem d_X8_done_4 : decode (mC 150) 4 = .ok (.aload_n 0, 1) := by decide +kernel
theorem d_X8_done_5 : decode (mC 150) 5 = .ok (.iload_n 1, 1) := by decide +kernel
theorem d_X8_done_6 : decode (mC 150) 6 = .ok (.invokevirtual 171, 3) := by decide +kernel
theorem d_X8_done_9 : decode (mC 150) 9 = .ok (.ifCond .ne 8, 3) := by decide +kernel
theorem d_X8_done_12 : decode (mC 150) 12 = .ok (.ldc 124, 2) := by decide +kernel
theorem d_X8_done_14 : decode (mC 150) 14 = .ok (.goto 23, 3) := by decide +kernel
theorem d_X8_done_17 : decode (mC 150) 17 = .ok (.iload_n 2, 1) := by decide +kernel
theorem d_X8_done_18 : decode (mC 150) 18 = .ok (.iconst 0, 1) := by decide +kernel
theorem d_X8_done_19 : decode (mC 150) 19 = .ok (.iconst 5, 1) := by decide +kernel
theorem d_X8_done_20 : decode (mC 150) 20 = .ok (.invokestatic 46, 3) := by decide +kernel
theorem d_X8_done_23 : decode (mC 150) 23 = .ok (.ifCond .eq 12, 3) := by decide +kernel
theorem d_X8_done_26 : decode (mC 150) 26 = .ok (.aload_n 0, 1) := by decide +kernel
theorem d_X8_done_27 : decode (mC 150) 27 = .ok (.iload_n 1, 1) := by decide +kernel
theorem d_X8_done_28 : decode (mC 150) 28 = .ok (.iload_n 2, 1) := by decide +kernel
theorem d_X8_done_29 : decode (mC 150) 29 = .ok (.invokevirtual 158, 3) := by decide +kernel
theorem d_X8_done_32 : decode (mC 150) 32 = .ok (.goto 5, 3) := by decide +kernel
theorem d_X8_done_35 : decode (mC 150) 35 = .ok (.ldc 50, 2) := by decide +kernel
theorem d_X8_done_37 : decode (mC 150) 37 = .ok (.ireturn, 1) := by decide +kernel
theorem cv_150_107 : mn_cvt 150 8 107 141 = true := by decide +kernel
theorem cv_150_171 : mn_cvt 150 8 171 149 = true := by decide +kernel
theorem cs_150_46 : mn_cs 150 8 46 114 = true := by decide +kernel
theorem cv_150_158 : mn_cvt 150 8 158 144 = true := by decide +kernel
theorem b_X8_done_0 {x1 x2 : Int32} {h h' : mn_H} {r : Option Value} : mn_E 150 0 [.ref 63, .int x1, .int x2] [] h r h' ↔ ∃ h1, mn_X 141 [.ref 63] h none h1 ∧ mn_E 150 4 [.ref 63, .int x1, .int x2] [] h1 r h' :=
  (mX_aload_n d_X8_done_0 rfl).trans <| mV_v (a := 63) (vs := []) (st' := []) d_X8_done_1 cv_150_107 rfl (Nat.le_of_ble_eq_true rfl) rfl rfl rfl rfl
theorem b_X8_done_4 {x1 x2 : Int32} {h h' : mn_H} {r : Option Value} : mn_E 150 4 [.ref 63, .int x1, .int x2] [] h r h' ↔ ∃ x h1, mn_X 149 [.ref 63, .int x1] h (some (.int x)) h1 ∧ mn_E 150 9 [.ref 63, .int x1, .int x2] [.int x] h1 r h' :=
  (mX_aload_n d_X8_done_4 rfl).trans <| (mX_iload_n d_X8_done_5 rfl).trans <| mV_i (a := 63) (vs := [.int x1]) (st' := []) d_X8_done_6 cv_150_171 (Or.inr (Or.inl rfl)) (Nat.le_of_ble_eq_true rfl) rfl rfl rfl rfl
theorem b_X8_done_9 {x1 x2 s0 : Int32} {h h' : mn_H} {r : Option Value} : mn_E 150 9 [.ref 63, .int x1, .int x2] [.int s0] h r h' ↔ if ¬ s0 = 0 then mn_E 150 17 [.ref 63, .int x1, .int x2] [] h r h' else mn_E 150 12 [.ref 63, .int x1, .int x2] [] h r h' :=
  mX_if_ne d_X8_done_9 rfl
theorem b_X8_done_12 {x1 x2 : Int32} {h h' : mn_H} {r : Option Value} : mn_E 150 12 [.ref 63, .int x1, .int x2] [] h r h' ↔ mn_E 150 37 [.ref 63, .int x1, .int x2] [.int (-1000000001)] h r h' :=
  (mX_ldc d_X8_done_12 mo_150 kc_8_124 (by decide)).trans <| mX_goto d_X8_done_14 rfl
theorem b_X8_done_17 {x1 x2 : Int32} {h h' : mn_H} {r : Option Value} : mn_E 150 17 [.ref 63, .int x1, .int x2] [] h r h' ↔ ∃ x h1, mn_X 114 [.int x2, .int 0, .int 5] h (some (.int x)) h1 ∧ mn_E 150 23 [.ref 63, .int x1, .int x2] [.int x] h1 r h' :=
  (mX_iload_n d_X8_done_17 rfl).trans <| (mX_iconst d_X8_done_18 ci_0).trans <| (mX_iconst d_X8_done_19 ci_5).trans <| mS_i (vs := [.int x2, .int 0, .int 5]) (st' := []) d_X8_done_20 cs_150_46 (Or.inr (Or.inl rfl)) (Nat.le_of_ble_eq_true rfl) rfl rfl rfl
theorem b_X8_done_23 {x1 x2 s0 : Int32} {h h' : mn_H} {r : Option Value} : mn_E 150 23 [.ref 63, .int x1, .int x2] [.int s0] h r h' ↔ if s0 = 0 then mn_E 150 35 [.ref 63, .int x1, .int x2] [] h r h' else mn_E 150 26 [.ref 63, .int x1, .int x2] [] h r h' :=
  mX_if_eq d_X8_done_23 rfl
theorem b_X8_done_26 {x1 x2 : Int32} {h h' : mn_H} {r : Option Value} : mn_E 150 26 [.ref 63, .int x1, .int x2] [] h r h' ↔ ∃ x h1, mn_X 144 [.ref 63, .int x1, .int x2] h (some (.int x)) h1 ∧ mn_E 150 32 [.ref 63, .int x1, .int x2] [.int x] h1 r h' :=
  (mX_aload_n d_X8_done_26 rfl).trans <| (mX_iload_n d_X8_done_27 rfl).trans <| (mX_iload_n d_X8_done_28 rfl).trans <| mV_i (a := 63) (vs := [.int x1, .int x2]) (st' := []) d_X8_done_29 cv_150_158 (Or.inl rfl) (Nat.le_of_ble_eq_true rfl) rfl rfl rfl rfl
theorem b_X8_done_32 {x1 x2 s0 : Int32} {h h' : mn_H} {r : Option Value} : mn_E 150 32 [.ref 63, .int x1, .int x2] [.int s0] h r h' ↔ mn_E 150 37 [.ref 63, .int x1, .int x2] [.int s0] h r h' :=
  mX_goto d_X8_done_32 rfl
theorem b_X8_done_35 {x1 x2 : Int32} {h h' : mn_H} {r : Option Value} : mn_E 150 35 [.ref 63, .int x1, .int x2] [] h r h' ↔ mn_E 150 37 [.ref 63, .int x1, .int x2] [.int (-1000000002)] h r h' :=
  mX_ldc d_X8_done_35 mo_150 kc_8_50 (by decide)
theorem b_X8_done_37 {x1 x2 s0 : Int32} {h h' : mn_H} {r : Option Value} : mn_E 150 37 [.ref 63, .int x1, .int x2] [.int s0] h r h' ↔ r = some (.int s0) ∧ h' = h :=
  mX_iret d_X8_done_37 rfl
-- X8_comes
theorem mo_151 : mO 151 = 8 := rfl
theorem d_X8_comes_0 : decode (mC 151) 0 = .ok (.aload_n 0, 1) := by decide +kernel
theorem d_X8_comes_1 : decode (mC 151) 1 = .ok (.invokevirtual 107, 3) := by decide +kernel
theorem d_X8_comes_4 : decode (mC 151) 4 = .ok (.aload_n 0, 1) := by decide +kernel
theorem d_X8_comes_5 : decode (mC 151) 5 = .ok (.iload_n 1, 1) := by decide +kernel
theorem d_X8_comes_6 : decode (mC 151) 6 = .ok (.invokevirtual 171, 3) := by decide +kernel
theorem d_X8_comes_9 : decode (mC 151) 9 = .ok (.ifCond .eq 11, 3) := by decide +kernel
theorem d_X8_comes_12 : decode (mC 151) 12 = .ok (.aload_n 0, 1) := by decide +kernel
theorem d_X8_comes_13 : decode (mC 151) 13 = .ok (.iload_n 1, 1) := by decide +kernel
theorem d_X8_comes_14 : decode (mC 151) 14 = .ok (.invokevirtual 165, 3) := by decide +kernel
theorem d_X8_comes_17 : decode (mC 151) 17 = .ok (.goto 5, 3) := by decide +kernel
theorem d_X8_comes_20 : decode (mC 151) 20 = .ok (.ldc 124, 2) := by decide +kernel
theorem d_X8_comes_22 : decode (mC 151) 22 = .ok (.ireturn, 1) := by decide +kernel
theorem cv_151_107 : mn_cvt 151 8 107 141 = true := by decide +kernel
theorem cv_151_171 : mn_cvt 151 8 171 149 = true := by decide +kernel
theorem cv_151_165 : mn_cvt 151 8 165 145 = true := by decide +kernel
theorem b_X8_comes_0 {x1 : Int32} {h h' : mn_H} {r : Option Value} : mn_E 151 0 [.ref 63, .int x1] [] h r h' ↔ ∃ h1, mn_X 141 [.ref 63] h none h1 ∧ mn_E 151 4 [.ref 63, .int x1] [] h1 r h' :=
  (mX_aload_n d_X8_comes_0 rfl).trans <| mV_v (a := 63) (vs := []) (st' := []) d_X8_comes_1 cv_151_107 rfl (Nat.le_of_ble_eq_true rfl) rfl rfl rfl rfl
theorem b_X8_comes_4 {x1 : Int32} {h h' : mn_H} {r : Option Value} : mn_E 151 4 [.ref 63, .int x1] [] h r h' ↔ ∃ x h1, mn_X 149 [.ref 63, .int x1] h (some (.int x)) h1 ∧ mn_E 151 9 [.ref 63, .int x1] [.int x] h1 r h' :=
  (mX_aload_n d_X8_comes_4 rfl).trans <| (mX_iload_n d_X8_comes_5 rfl).trans <| mV_i (a := 63) (vs := [.int x1]) (st' := []) d_X8_comes_6 cv_151_171 (Or.inr (Or.inl rfl)) (Nat.le_of_ble_eq_true rfl) rfl rfl rfl rfl
theorem b_X8_comes_9 {x1 s0 : Int32} {h h' : mn_H} {r : Option Value} : mn_E 151 9 [.ref 63, .int x1] [.int s0] h r h' ↔ if s0 = 0 then mn_E 151 20 [.ref 63, .int x1] [] h r h' else mn_E 151 12 [.ref 63, .int x1] [] h r h' :=
  mX_if_eq d_X8_comes_9 rfl
theorem b_X8_comes_12 {x1 : Int32} {h h' : mn_H} {r : Option Value} : mn_E 151 12 [.ref 63, .int x1] [] h r h' ↔ ∃ x h1, mn_X 145 [.ref 63, .int x1] h (some (.int x)) h1 ∧ mn_E 151 17 [.ref 63, .int x1] [.int x] h1 r h' :=
  (mX_aload_n d_X8_comes_12 rfl).trans <| (mX_iload_n d_X8_comes_13 rfl).trans <| mV_i (a := 63) (vs := [.int x1]) (st' := []) d_X8_comes_14 cv_151_165 (Or.inl rfl) (Nat.le_of_ble_eq_true rfl) rfl rfl rfl rfl
theorem b_X8_comes_17 {x1 s0 : Int32} {h h' : mn_H} {r : Option Value} : mn_E 151 17 [.ref 63, .int x1] [.int s0] h r h' ↔ mn_E 151 22 [.ref 63, .int x1] [.int s0] h r h' :=
  mX_goto d_X8_comes_17 rfl
theorem b_X8_comes_20 {x1 : Int32} {h h' : mn_H} {r : Option Value} : mn_E 151 20 [.ref 63, .int x1] [] h r h' ↔ mn_E 151 22 [.ref 63, .int x1] [.int (-1000000001)] h r h' :=
  mX_ldc d_X8_comes_20 mo_151 kc_8_124 (by decide)
theorem b_X8_comes_22 {x1 s0 : Int32} {h h' : mn_H} {r : Option Value} : mn_E 151 22 [.ref 63, .int x1] [.int s0] h r h' ↔ r = some (.int s0) ∧ h' = h :=
  mX_iret d_X8_comes_22 rfl
-- X8_could
theorem mo_152 : mO 152 = 8 := rfl
theorem d_X8_could_0 : decode (mC 152) 0 = .ok (.aload_n 0, 1) := by decide +kernel
theorem d_X8_could_1 : decode (mC 152) 1 = .ok (.invokevirtual 107, 3) := by decide +kernel
theorem d_X8_could_4 : decode (mC 152) 4 = .ok (.aload_n 0, 1) := by decide +kernel
theorem d_X8_could_5 : decode (mC 152) 5 = .ok (.invokevirtual 174, 3) := by decide +kernel
theorem d_X8_could_8 : decode (mC 152) 8 = .ok (.iload_n 1, 1) := by decide +kernel
theorem d_X8_could_9 : decode (mC 152) 9 = .ok (.iconst (-1), 1) := by decide +kernel
theorem d_X8_could_10 : decode (mC 152) 10 = .ok (.if_icmp .ne 10, 3) := by decide +kernel
theorem d_X8_could_13 : decode (mC 152) 13 = .ok (.aload_n 0, 1) := by decide +kernel
theorem d_X8_could_14 : decode (mC 152) 14 = .ok (.getfield 168, 3) := by decide +kernel
theorem d_X8_could_17 : decode (mC 152) 17 = .ok (.goto 27, 3) := by decide +kernel
theorem d_X8_could_20 : decode (mC 152) 20 = .ok (.iload_n 1, 1) := by decide +kernel
theorem d_X8_could_21 : decode (mC 152) 21 = .ok (.iconst 0, 1) := by decide +kernel
theorem d_X8_could_22 : decode (mC 152) 22 = .ok (.aload_n 0, 1) := by decide +kernel
theorem d_X8_could_23 : decode (mC 152) 23 = .ok (.getfield 168, 3) := by decide +kernel
theorem d_X8_could_26 : decode (mC 152) 26 = .ok (.iconst 1, 1) := by decide +kernel
theorem d_X8_could_27 : decode (mC 152) 27 = .ok (.isub, 1) := by decide +kernel
theorem d_X8_could_28 : decode (mC 152) 28 = .ok (.invokestatic 46, 3) := by decide +kernel
theorem d_X8_could_31 : decode (mC 152) 31 = .ok (.ifCond .eq 12, 3) := by decide +kernel
theorem d_X8_could_34 : decode (mC 152) 34 = .ok (.aload_n 0, 1) := by decide +kernel
theorem d_X8_could_35 : decode (mC 152) 35 = .ok (.getfield 39, 3) := by decide +kernel
theorem d_X8_could_38 : decode (mC 152) 38 = .ok (.iload_n 1, 1) := by decide +kernel
theorem d_X8_could_39 : decode (mC 152) 39 = .ok (.iaload, 1) := by decide +kernel
theorem d_X8_could_40 : decode (mC 152) 40 = .ok (.goto 4, 3) := by decide +kernel
theorem d_X8_could_43 : decode (mC 152) 43 = .ok (.iconst (-1), 1) := by decide +kernel
theorem d_X8_could_44 : decode (mC 152) 44 = .ok (.ireturn, 1) := by decide +kernel
theorem cv_152_107 : mn_cvt 152 8 107 141 = true := by decide +kernel
theorem cv_152_174 : mn_cvt 152 8 174 147 = true := by decide +kernel
theorem fi_152_168 : mn_fi 152 8 168 8 22 = true := by decide +kernel
theorem cs_152_46 : mn_cs 152 8 46 114 = true := by decide +kernel
theorem fr_152_39 : mn_fr 152 8 39 8 21 = true := by decide +kernel
theorem b_X8_could_0 {x1 : Int32} {h h' : mn_H} {r : Option Value} : mn_E 152 0 [.ref 63, .int x1] [] h r h' ↔ ∃ h1, mn_X 141 [.ref 63] h none h1 ∧ mn_E 152 4 [.ref 63, .int x1] [] h1 r h' :=
  (mX_aload_n d_X8_could_0 rfl).trans <| mV_v (a := 63) (vs := []) (st' := []) d_X8_could_1 cv_152_107 rfl (Nat.le_of_ble_eq_true rfl) rfl rfl rfl rfl
theorem b_X8_could_4 {x1 : Int32} {h h' : mn_H} {r : Option Value} : mn_E 152 4 [.ref 63, .int x1] [] h r h' ↔ ∃ h1, mn_X 147 [.ref 63] h none h1 ∧ mn_E 152 8 [.ref 63, .int x1] [] h1 r h' :=
  (mX_aload_n d_X8_could_4 rfl).trans <| mV_v (a := 63) (vs := []) (st' := []) d_X8_could_5 cv_152_174 rfl (Nat.le_of_ble_eq_true rfl) rfl rfl rfl rfl
theorem b_X8_could_8 {x1 : Int32} {h h' : mn_H} {r : Option Value} : mn_E 152 8 [.ref 63, .int x1] [] h r h' ↔ if ¬ x1 = (-1) then mn_E 152 20 [.ref 63, .int x1] [] h r h' else mn_E 152 13 [.ref 63, .int x1] [] h r h' :=
  (mX_iload_n d_X8_could_8 rfl).trans <| (mX_iconst d_X8_could_9 ci_m1).trans <| mX_icmp_ne d_X8_could_10 rfl
theorem b_X8_could_13 {x1 : Int32} {h h' : mn_H} {r : Option Value} : mn_E 152 13 [.ref 63, .int x1] [] h r h' ↔ mn_E 152 44 [.ref 63, .int x1] [.int (h 63 22)] h r h' :=
  (mX_aload_n d_X8_could_13 rfl).trans <| (mG_i d_X8_could_14 fi_152_168 rfl (by decide)).trans <| mX_goto d_X8_could_17 rfl
theorem b_X8_could_20 {x1 : Int32} {h h' : mn_H} {r : Option Value} : mn_E 152 20 [.ref 63, .int x1] [] h r h' ↔ ∃ x h1, mn_X 114 [.int x1, .int 0, .int ((h 63 22) - 1)] h (some (.int x)) h1 ∧ mn_E 152 31 [.ref 63, .int x1] [.int x] h1 r h' :=
  (mX_iload_n d_X8_could_20 rfl).trans <| (mX_iconst d_X8_could_21 ci_0).trans <| (mX_aload_n d_X8_could_22 rfl).trans <| (mG_i d_X8_could_23 fi_152_168 rfl (by decide)).trans <| (mX_iconst d_X8_could_26 ci_1).trans <| (mX_isub d_X8_could_27).trans <| mS_i (vs := [.int x1, .int 0, .int ((h 63 22) - 1)]) (st' := []) d_X8_could_28 cs_152_46 (Or.inr (Or.inl rfl)) (Nat.le_of_ble_eq_true rfl) rfl rfl rfl
theorem b_X8_could_31 {x1 s0 : Int32} {h h' : mn_H} {r : Option Value} : mn_E 152 31 [.ref 63, .int x1] [.int s0] h r h' ↔ if s0 = 0 then mn_E 152 43 [.ref 63, .int x1] [] h r h' else mn_E 152 34 [.ref 63, .int x1] [] h r h' :=
  mX_if_eq d_X8_could_31 rfl
theorem b_X8_could_34 {x1 : Int32} {h h' : mn_H} {r : Option Value} (hy0 : vp_in x1 64) : mn_E 152 34 [.ref 63, .int x1] [] h r h' ↔ mn_E 152 44 [.ref 63, .int x1] [.int (h 72 x1.toNatClampNeg)] h r h' :=
  (mX_aload_n d_X8_could_34 rfl).trans <| (mG_r (b := 72) d_X8_could_35 fr_152_39 rfl (by decide) rfl).trans <| (mX_iload_n d_X8_could_38 rfl).trans <| (mX_iaload d_X8_could_39 rfl (by decide) hy0).trans <| mX_goto d_X8_could_40 rfl
theorem b_X8_could_43 {x1 : Int32} {h h' : mn_H} {r : Option Value} : mn_E 152 43 [.ref 63, .int x1] [] h r h' ↔ mn_E 152 44 [.ref 63, .int x1] [.int (-1)] h r h' :=
  mX_iconst d_X8_could_43 ci_m1
theorem b_X8_could_44 {x1 s0 : Int32} {h h' : mn_H} {r : Option Value} : mn_E 152 44 [.ref 63, .int x1] [.int s0] h r h' ↔ r = some (.int s0) ∧ h' = h :=
  mX_iret d_X8_could_44 rfl
-- X8_met
theorem mo_153 : mO 153 = 8 := rfl
theorem d_X8_met_0 : decode (mC 153) 0 = .ok (.iload_n 1, 1) := by decide +kernel
theorem d_X8_met_1 : decode (mC 153) 1 = .ok (.ifCond .eq 8, 3) := by decide +kernel
theorem d_X8_met_4 : decode (mC 153) 4 = .ok (.bipush 63, 2) := by decide +kernel
theorem d_X8_met_6 : decode (mC 153) 6 = .ok (.goto 4, 3) := by decide +kernel
theorem d_X8_met_9 : decode (mC 153) 9 = .ok (.iconst 0, 1) := by decide +kernel
theorem d_X8_met_10 : decode (mC 153) 10 = .ok (.istore_n 2, 1) := by decide +kernel
theorem d_X8_met_11 : decode (mC 153) 11 = .ok (.iconst 0, 1) := by decide +kernel
theorem d_X8_met_12 : decode (mC 153) 12 = .ok (.istore_n 3, 1) := by decide +kernel
theorem d_X8_met_13 : decode (mC 153) 13 = .ok (.iload_n 3, 1) := by decide +kernel
theorem d_X8_met_14 : decode (mC 153) 14 = .ok (.aload_n 0, 1) := by decide +kernel
theorem d_X8_met_15 : decode (mC 153) 15 = .ok (.getfield 168, 3) := by decide +kernel
theorem d_X8_met_18 : decode (mC 153) 18 = .ok (.if_icmp .ge 33, 3) := by decide +kernel
theorem d_X8_met_21 : decode (mC 153) 21 = .ok (.iload_n 1, 1) := by decide +kernel
theorem d_X8_met_22 : decode (mC 153) 22 = .ok (.ifCond .eq 14, 3) := by decide +kernel
theorem d_X8_met_25 : decode (mC 153) 25 = .ok (.iload_n 2, 1) := by decide +kernel
theorem d_X8_met_26 : decode (mC 153) 26 = .ok (.aload_n 0, 1) := by decide +kernel
theorem d_X8_met_27 : decode (mC 153) 27 = .ok (.getfield 39, 3) := by decide +kernel
theorem d_X8_met_30 : decode (mC 153) 30 = .ok (.iload_n 3, 1) := by decide +kernel
theorem d_X8_met_31 : decode (mC 153) 31 = .ok (.iaload, 1) := by decide +kernel
theorem d_X8_met_32 : decode (mC 153) 32 = .ok (.iand, 1) := by decide +kernel
theorem d_X8_met_33 : decode (mC 153) 33 = .ok (.goto 11, 3) := by decide +kernel
theorem d_X8_met_36 : decode (mC 153) 36 = .ok (.iload_n 2, 1) := by decide +kernel
theorem d_X8_met_37 : decode (mC 153) 37 = .ok (.aload_n 0, 1) := by decide +kernel
theorem d_X8_met_38 : decode (mC 153) 38 = .ok (.getfield 39, 3) := by decide +kernel
theorem d_X8_met_41 : decode (mC 153) 41 = .ok (.iload_n 3, 1) := by decide +kernel
theorem d_X8_met_42 : decode (mC 153) 42 = .ok (.iaload, 1) := by decide +kernel
theorem d_X8_met_43 : decode (mC 153) 43 = .ok (.ior, 1) := by decide +kernel
theorem d_X8_met_44 : decode (mC 153) 44 = .ok (.istore_n 2, 1) := by decide +kernel
theorem d_X8_met_45 : decode (mC 153) 45 = .ok (.iinc 3 1, 3) := by decide +kernel
theorem d_X8_met_48 : decode (mC 153) 48 = .ok (.goto (-35), 3) := by decide +kernel
theorem d_X8_met_51 : decode (mC 153) 51 = .ok (.iload_n 2, 1) := by decide +kernel
theorem d_X8_met_52 : decode (mC 153) 52 = .ok (.ireturn, 1) := by decide +kernel
theorem fi_153_168 : mn_fi 153 8 168 8 22 = true := by decide +kernel
theorem fr_153_39 : mn_fr 153 8 39 8 21 = true := by decide +kernel
theorem b_X8_met_0 {x1 : Int32} {h h' : mn_H} {r : Option Value} : mn_E 153 0 [.ref 63, .int x1, .null, .null] [] h r h' ↔ if x1 = 0 then mn_E 153 9 [.ref 63, .int x1, .null, .null] [] h r h' else mn_E 153 4 [.ref 63, .int x1, .null, .null] [] h r h' :=
  (mX_iload_n d_X8_met_0 rfl).trans <| mX_if_eq d_X8_met_1 rfl
theorem b_X8_met_4 {x1 : Int32} {h h' : mn_H} {r : Option Value} : mn_E 153 4 [.ref 63, .int x1, .null, .null] [] h r h' ↔ mn_E 153 10 [.ref 63, .int x1, .null, .null] [.int 63] h r h' :=
  (mX_bipush d_X8_met_4 cb_63).trans <| mX_goto d_X8_met_6 rfl
theorem b_X8_met_9 {x1 : Int32} {h h' : mn_H} {r : Option Value} : mn_E 153 9 [.ref 63, .int x1, .null, .null] [] h r h' ↔ mn_E 153 10 [.ref 63, .int x1, .null, .null] [.int 0] h r h' :=
  mX_iconst d_X8_met_9 ci_0
theorem b_X8_met_10 {x1 s0 : Int32} {h h' : mn_H} {r : Option Value} : mn_E 153 10 [.ref 63, .int x1, .null, .null] [.int s0] h r h' ↔ mn_E 153 13 [.ref 63, .int x1, .int s0, .int 0] [] h r h' :=
  (mX_istore_n (ls' := [.ref 63, .int x1, .int s0, .null]) d_X8_met_10 rfl rfl).trans <| (mX_iconst d_X8_met_11 ci_0).trans <| mX_istore_n (ls' := [.ref 63, .int x1, .int s0, .int 0]) d_X8_met_12 rfl rfl
theorem b_X8_met_13 {x1 x2 x3 : Int32} {h h' : mn_H} {r : Option Value} : mn_E 153 13 [.ref 63, .int x1, .int x2, .int x3] [] h r h' ↔ if (h 63 22) ≤ x3 then mn_E 153 51 [.ref 63, .int x1, .int x2, .int x3] [] h r h' else mn_E 153 21 [.ref 63, .int x1, .int x2, .int x3] [] h r h' :=
  (mX_iload_n d_X8_met_13 rfl).trans <| (mX_aload_n d_X8_met_14 rfl).trans <| (mG_i d_X8_met_15 fi_153_168 rfl (by decide)).trans <| mX_icmp_ge d_X8_met_18 rfl
theorem b_X8_met_21 {x1 x2 x3 : Int32} {h h' : mn_H} {r : Option Value} : mn_E 153 21 [.ref 63, .int x1, .int x2, .int x3] [] h r h' ↔ if x1 = 0 then mn_E 153 36 [.ref 63, .int x1, .int x2, .int x3] [] h r h' else mn_E 153 25 [.ref 63, .int x1, .int x2, .int x3] [] h r h' :=
  (mX_iload_n d_X8_met_21 rfl).trans <| mX_if_eq d_X8_met_22 rfl
theorem b_X8_met_25 {x1 x2 x3 : Int32} {h h' : mn_H} {r : Option Value} (hy0 : vp_in x3 64) : mn_E 153 25 [.ref 63, .int x1, .int x2, .int x3] [] h r h' ↔ mn_E 153 44 [.ref 63, .int x1, .int x2, .int x3] [.int (x2 &&& (h 72 x3.toNatClampNeg))] h r h' :=
  (mX_iload_n d_X8_met_25 rfl).trans <| (mX_aload_n d_X8_met_26 rfl).trans <| (mG_r (b := 72) d_X8_met_27 fr_153_39 rfl (by decide) rfl).trans <| (mX_iload_n d_X8_met_30 rfl).trans <| (mX_iaload d_X8_met_31 rfl (by decide) hy0).trans <| (mX_iand d_X8_met_32).trans <| mX_goto d_X8_met_33 rfl
theorem b_X8_met_36 {x1 x2 x3 : Int32} {h h' : mn_H} {r : Option Value} (hy0 : vp_in x3 64) : mn_E 153 36 [.ref 63, .int x1, .int x2, .int x3] [] h r h' ↔ mn_E 153 44 [.ref 63, .int x1, .int x2, .int x3] [.int (x2 ||| (h 72 x3.toNatClampNeg))] h r h' :=
  (mX_iload_n d_X8_met_36 rfl).trans <| (mX_aload_n d_X8_met_37 rfl).trans <| (mG_r (b := 72) d_X8_met_38 fr_153_39 rfl (by decide) rfl).trans <| (mX_iload_n d_X8_met_41 rfl).trans <| (mX_iaload d_X8_met_42 rfl (by decide) hy0).trans <| mX_ior d_X8_met_43
theorem b_X8_met_44 {x1 x2 x3 s0 : Int32} {h h' : mn_H} {r : Option Value} : mn_E 153 44 [.ref 63, .int x1, .int x2, .int x3] [.int s0] h r h' ↔ mn_E 153 13 [.ref 63, .int x1, .int s0, .int (x3 + 1)] [] h r h' :=
  (mX_istore_n (ls' := [.ref 63, .int x1, .int s0, .int x3]) d_X8_met_44 rfl rfl).trans <| (mX_iinc (ls' := [.ref 63, .int x1, .int s0, .int (x3 + 1)]) d_X8_met_45 rfl ci_1 rfl rfl).trans <| mX_goto d_X8_met_48 rfl
theorem b_X8_met_51 {x1 x2 x3 : Int32} {h h' : mn_H} {r : Option Value} : mn_E 153 51 [.ref 63, .int x1, .int x2, .int x3] [] h r h' ↔ r = some (.int x2) ∧ h' = h :=
  (mX_iload_n d_X8_met_51 rfl).trans <| mX_iret d_X8_met_52 rfl
-- X8_sure
theorem mo_154 : mO 154 = 8 := rfl
theorem d_X8_sure_0 : decode (mC 154) 0 = .ok (.iload_n 1, 1) := by decide +kernel
theorem d_X8_sure_1 : decode (mC 154) 1 = .ok (.iconst 0, 1) := by decide +kernel
theorem d_X8_sure_2 : decode (mC 154) 2 = .ok (.iconst 1, 1) := by decide +kernel
theorem d_X8_sure_3 : decode (mC 154) 3 = .ok (.invokestatic 46, 3) := by decide +kernel
theorem d_X8_sure_6 : decode (mC 154) 6 = .ok (.ifCond .ne 6, 3) := by decide +kernel
theorem d_X8_sure_9 : decode (mC 154) 9 = .ok (.ldc 50, 2) := by decide +kernel
theorem d_X8_sure_11 : decode (mC 154) 11 = .ok (.ireturn, 1) := by decide +kernel
theorem d_X8_sure_12 : decode (mC 154) 12 = .ok (.aload_n 0, 1) := by decide +kernel
theorem d_X8_sure_13 : decode (mC 154) 13 = .ok (.invokevirtual 107, 3) := by decide +kernel
theorem d_X8_sure_16 : decode (mC 154) 16 = .ok (.aload_n 0, 1) := by decide +kernel
theorem d_X8_sure_17 : decode (mC 154) 17 = .ok (.invokevirtual 174, 3) := by decide +kernel
theorem d_X8_sure_20 : decode (mC 154) 20 = .ok (.iload_n 1, 1) := by decide +kernel
theorem d_X8_sure_21 : decode (mC 154) 21 = .ok (.ifCond .ne 11, 3) := by decide +kernel
theorem d_X8_sure_24 : decode (mC 154) 24 = .ok (.aload_n 0, 1) := by decide +kernel
theorem d_X8_sure_25 : decode (mC 154) 25 = .ok (.iconst 1, 1) := by decide +kernel
theorem d_X8_sure_26 : decode (mC 154) 26 = .ok (.invokevirtual 177, 3) := by decide +kernel
theorem d_X8_sure_29 : decode (mC 154) 29 = .ok (.goto 11, 3) := by decide +kernel
theorem d_X8_sure_32 : decode (mC 154) 32 = .ok (.bipush 63, 2) := by decide +kernel
theorem d_X8_sure_34 : decode (mC 154) 34 = .ok (.aload_n 0, 1) := by decide +kernel
theorem d_X8_sure_35 : decode (mC 154) 35 = .ok (.iconst 0, 1) := by decide +kernel
theorem d_X8_sure_36 : decode (mC 154) 36 = .ok (.invokevirtual 177, 3) := by decide +kernel
theorem d_X8_sure_39 : decode (mC 154) 39 = .ok (.isub, 1) := by decide +kernel
theorem d_X8_sure_40 : decode (mC 154) 40 = .ok (.ireturn, 1) := by decide +kernel
theorem cs_154_46 : mn_cs 154 8 46 114 = true := by decide +kernel
theorem cv_154_107 : mn_cvt 154 8 107 141 = true := by decide +kernel
theorem cv_154_174 : mn_cvt 154 8 174 147 = true := by decide +kernel
theorem cv_154_177 : mn_cvt 154 8 177 153 = true := by decide +kernel
theorem b_X8_sure_0 {x1 : Int32} {h h' : mn_H} {r : Option Value} : mn_E 154 0 [.ref 63, .int x1] [] h r h' ↔ ∃ x h1, mn_X 114 [.int x1, .int 0, .int 1] h (some (.int x)) h1 ∧ mn_E 154 6 [.ref 63, .int x1] [.int x] h1 r h' :=
  (mX_iload_n d_X8_sure_0 rfl).trans <| (mX_iconst d_X8_sure_1 ci_0).trans <| (mX_iconst d_X8_sure_2 ci_1).trans <| mS_i (vs := [.int x1, .int 0, .int 1]) (st' := []) d_X8_sure_3 cs_154_46 (Or.inr (Or.inl rfl)) (Nat.le_of_ble_eq_true rfl) rfl rfl rfl
theorem b_X8_sure_6 {x1 s0 : Int32} {h h' : mn_H} {r : Option Value} : mn_E 154 6 [.ref 63, .int x1] [.int s0] h r h' ↔ if ¬ s0 = 0 then mn_E 154 12 [.ref 63, .int x1] [] h r h' else mn_E 154 9 [.ref 63, .int x1] [] h r h' :=
  mX_if_ne d_X8_sure_6 rfl
theorem b_X8_sure_9 {x1 : Int32} {h h' : mn_H} {r : Option Value} : mn_E 154 9 [.ref 63, .int x1] [] h r h' ↔ r = some (.int (-1000000002)) ∧ h' = h :=
  (mX_ldc d_X8_sure_9 mo_154 kc_8_50 (by decide)).trans <| mX_iret d_X8_sure_11 rfl
theorem b_X8_sure_12 {x1 : Int32} {h h' : mn_H} {r : Option Value} : mn_E 154 12 [.ref 63, .int x1] [] h r h' ↔ ∃ h1, mn_X 141 [.ref 63] h none h1 ∧ mn_E 154 16 [.ref 63, .int x1] [] h1 r h' :=
  (mX_aload_n d_X8_sure_12 rfl).trans <| mV_v (a := 63) (vs := []) (st' := []) d_X8_sure_13 cv_154_107 rfl (Nat.le_of_ble_eq_true rfl) rfl rfl rfl rfl
theorem b_X8_sure_16 {x1 : Int32} {h h' : mn_H} {r : Option Value} : mn_E 154 16 [.ref 63, .int x1] [] h r h' ↔ ∃ h1, mn_X 147 [.ref 63] h none h1 ∧ mn_E 154 20 [.ref 63, .int x1] [] h1 r h' :=
  (mX_aload_n d_X8_sure_16 rfl).trans <| mV_v (a := 63) (vs := []) (st' := []) d_X8_sure_17 cv_154_174 rfl (Nat.le_of_ble_eq_true rfl) rfl rfl rfl rfl
theorem b_X8_sure_20 {x1 : Int32} {h h' : mn_H} {r : Option Value} : mn_E 154 20 [.ref 63, .int x1] [] h r h' ↔ if ¬ x1 = 0 then mn_E 154 32 [.ref 63, .int x1] [] h r h' else mn_E 154 24 [.ref 63, .int x1] [] h r h' :=
  (mX_iload_n d_X8_sure_20 rfl).trans <| mX_if_ne d_X8_sure_21 rfl
theorem b_X8_sure_24 {x1 : Int32} {h h' : mn_H} {r : Option Value} : mn_E 154 24 [.ref 63, .int x1] [] h r h' ↔ ∃ x h1, mn_X 153 [.ref 63, .int 1] h (some (.int x)) h1 ∧ mn_E 154 29 [.ref 63, .int x1] [.int x] h1 r h' :=
  (mX_aload_n d_X8_sure_24 rfl).trans <| (mX_iconst d_X8_sure_25 ci_1).trans <| mV_i (a := 63) (vs := [.int 1]) (st' := []) d_X8_sure_26 cv_154_177 (Or.inl rfl) (Nat.le_of_ble_eq_true rfl) rfl rfl rfl rfl
theorem b_X8_sure_29 {x1 s0 : Int32} {h h' : mn_H} {r : Option Value} : mn_E 154 29 [.ref 63, .int x1] [.int s0] h r h' ↔ mn_E 154 40 [.ref 63, .int x1] [.int s0] h r h' :=
  mX_goto d_X8_sure_29 rfl
theorem b_X8_sure_32 {x1 : Int32} {h h' : mn_H} {r : Option Value} : mn_E 154 32 [.ref 63, .int x1] [] h r h' ↔ ∃ x h1, mn_X 153 [.ref 63, .int 0] h (some (.int x)) h1 ∧ mn_E 154 39 [.ref 63, .int x1] [.int x, .int 63] h1 r h' :=
  (mX_bipush d_X8_sure_32 cb_63).trans <| (mX_aload_n d_X8_sure_34 rfl).trans <| (mX_iconst d_X8_sure_35 ci_0).trans <| mV_i (a := 63) (vs := [.int 0]) (st' := [.int 63]) d_X8_sure_36 cv_154_177 (Or.inl rfl) (Nat.le_of_ble_eq_true rfl) rfl rfl rfl rfl
theorem b_X8_sure_39 {x1 s0 s1 : Int32} {h h' : mn_H} {r : Option Value} : mn_E 154 39 [.ref 63, .int x1] [.int s0, .int s1] h r h' ↔ mn_E 154 40 [.ref 63, .int x1] [.int (s1 - s0)] h r h' :=
  mX_isub d_X8_sure_39
theorem b_X8_sure_40 {x1 s0 : Int32} {h h' : mn_H} {r : Option Value} : mn_E 154 40 [.ref 63, .int x1] [.int s0] h r h' ↔ r = some (.int s0) ∧ h' = h :=
  mX_iret d_X8_sure_40 rfl
-- X8_live
theorem mo_155 : mO 155 = 8 := rfl
theorem d_X8_live_0 : decode (mC 155) 0 = .ok (.aload_n 0, 1) := by decide +kernel
theorem d_X8_live_1 : decode (mC 155) 1 = .ok (.invokevirtual 107, 3) := by decide +kernel
theorem d_X8_live_4 : decode (mC 155) 4 = .ok (.aload_n 0, 1) := by decide +kernel
theorem d_X8_live_5 : decode (mC 155) 5 = .ok (.invokevirtual 174, 3) := by decide +kernel
theorem d_X8_live_8 : decode (mC 155) 8 = .ok (.iload_n 1, 1) := by decide +kernel
theorem d_X8_live_9 : decode (mC 155) 9 = .ok (.iconst 0, 1) := by decide +kernel
theorem d_X8_live_10 : decode (mC 155) 10 = .ok (.aload_n 0, 1) := by decide +kernel
theorem d_X8_live_11 : decode (mC 155) 11 = .ok (.getfield 168, 3) := by decide +kernel
theorem d_X8_live_14 : decode (mC 155) 14 = .ok (.iconst 1, 1) := by decide +kernel
theorem d_X8_live_15 : decode (mC 155) 15 = .ok (.isub, 1) := by decide +kernel
theorem d_X8_live_16 : decode (mC 155) 16 = .ok (.invokestatic 46, 3) := by decide +kernel
theorem d_X8_live_19 : decode (mC 155) 19 = .ok (.ifCond .ne 6, 3) := by decide +kernel
theorem d_X8_live_22 : decode (mC 155) 22 = .ok (.ldc 50, 2) := by decide +kernel
theorem d_X8_live_24 : decode (mC 155) 24 = .ok (.ireturn, 1) := by decide +kernel
theorem d_X8_live_25 : decode (mC 155) 25 = .ok (.aload_n 0, 1) := by decide +kernel
theorem d_X8_live_26 : decode (mC 155) 26 = .ok (.getfield 19, 3) := by decide +kernel
theorem d_X8_live_29 : decode (mC 155) 29 = .ok (.iconst 0, 1) := by decide +kernel
theorem d_X8_live_30 : decode (mC 155) 30 = .ok (.iaload, 1) := by decide +kernel
theorem d_X8_live_31 : decode (mC 155) 31 = .ok (.bipush 60, 2) := by decide +kernel
theorem d_X8_live_33 : decode (mC 155) 33 = .ok (.if_icmp .ne 6, 3) := by decide +kernel
theorem d_X8_live_36 : decode (mC 155) 36 = .ok (.ldc 54, 2) := by decide +kernel
theorem d_X8_live_38 : decode (mC 155) 38 = .ok (.ireturn, 1) := by decide +kernel
theorem d_X8_live_39 : decode (mC 155) 39 = .ok (.aload_n 0, 1) := by decide +kernel
theorem d_X8_live_40 : decode (mC 155) 40 = .ok (.getfield 19, 3) := by decide +kernel
theorem d_X8_live_43 : decode (mC 155) 43 = .ok (.iconst 0, 1) := by decide +kernel
theorem d_X8_live_44 : decode (mC 155) 44 = .ok (.dup2, 1) := by decide +kernel
theorem d_X8_live_45 : decode (mC 155) 45 = .ok (.iaload, 1) := by decide +kernel
theorem d_X8_live_46 : decode (mC 155) 46 = .ok (.iconst 1, 1) := by decide +kernel
theorem d_X8_live_47 : decode (mC 155) 47 = .ok (.iadd, 1) := by decide +kernel
theorem d_X8_live_48 : decode (mC 155) 48 = .ok (.iastore, 1) := by decide +kernel
theorem d_X8_live_49 : decode (mC 155) 49 = .ok (.aload_n 0, 1) := by decide +kernel
theorem d_X8_live_50 : decode (mC 155) 50 = .ok (.getfield 19, 3) := by decide +kernel
theorem d_X8_live_53 : decode (mC 155) 53 = .ok (.iconst 4, 1) := by decide +kernel
theorem d_X8_live_54 : decode (mC 155) 54 = .ok (.aload_n 0, 1) := by decide +kernel
theorem d_X8_live_55 : decode (mC 155) 55 = .ok (.getfield 19, 3) := by decide +kernel
theorem d_X8_live_58 : decode (mC 155) 58 = .ok (.iconst 0, 1) := by decide +kernel
theorem d_X8_live_59 : decode (mC 155) 59 = .ok (.iaload, 1) := by decide +kernel
theorem d_X8_live_60 : decode (mC 155) 60 = .ok (.iadd, 1) := by decide +kernel
theorem d_X8_live_61 : decode (mC 155) 61 = .ok (.aload_n 0, 1) := by decide +kernel
theorem d_X8_live_62 : decode (mC 155) 62 = .ok (.getfield 39, 3) := by decide +kernel
theorem d_X8_live_65 : decode (mC 155) 65 = .ok (.iload_n 1, 1) := by decide +kernel
theorem d_X8_live_66 : decode (mC 155) 66 = .ok (.iaload, 1) := by decide +kernel
theorem d_X8_live_67 : decode (mC 155) 67 = .ok (.iastore, 1) := by decide +kernel
theorem d_X8_live_68 : decode (mC 155) 68 = .ok (.aload_n 0, 1) := by decide +kernel
theorem d_X8_live_69 : decode (mC 155) 69 = .ok (.getfield 39, 3) := by decide +kernel
theorem d_X8_live_72 : decode (mC 155) 72 = .ok (.iload_n 1, 1) := by decide +kernel
theorem d_X8_live_73 : decode (mC 155) 73 = .ok (.iaload, 1) := by decide +kernel
theorem d_X8_live_74 : decode (mC 155) 74 = .ok (.ireturn, 1) := by decide +kernel
theorem cv_155_107 : mn_cvt 155 8 107 141 = true := by decide +kernel
theorem cv_155_174 : mn_cvt 155 8 174 147 = true := by decide +kernel
theorem fi_155_168 : mn_fi 155 8 168 8 22 = true := by decide +kernel
theorem cs_155_46 : mn_cs 155 8 46 114 = true := by decide +kernel
theorem fr_155_19 : mn_fr 155 8 19 8 4 = true := by decide +kernel
theorem fr_155_39 : mn_fr 155 8 39 8 21 = true := by decide +kernel
theorem b_X8_live_0 {x1 : Int32} {h h' : mn_H} {r : Option Value} : mn_E 155 0 [.ref 63, .int x1] [] h r h' ↔ ∃ h1, mn_X 141 [.ref 63] h none h1 ∧ mn_E 155 4 [.ref 63, .int x1] [] h1 r h' :=
  (mX_aload_n d_X8_live_0 rfl).trans <| mV_v (a := 63) (vs := []) (st' := []) d_X8_live_1 cv_155_107 rfl (Nat.le_of_ble_eq_true rfl) rfl rfl rfl rfl
theorem b_X8_live_4 {x1 : Int32} {h h' : mn_H} {r : Option Value} : mn_E 155 4 [.ref 63, .int x1] [] h r h' ↔ ∃ h1, mn_X 147 [.ref 63] h none h1 ∧ mn_E 155 8 [.ref 63, .int x1] [] h1 r h' :=
  (mX_aload_n d_X8_live_4 rfl).trans <| mV_v (a := 63) (vs := []) (st' := []) d_X8_live_5 cv_155_174 rfl (Nat.le_of_ble_eq_true rfl) rfl rfl rfl rfl
theorem b_X8_live_8 {x1 : Int32} {h h' : mn_H} {r : Option Value} : mn_E 155 8 [.ref 63, .int x1] [] h r h' ↔ ∃ x h1, mn_X 114 [.int x1, .int 0, .int ((h 63 22) - 1)] h (some (.int x)) h1 ∧ mn_E 155 19 [.ref 63, .int x1] [.int x] h1 r h' :=
  (mX_iload_n d_X8_live_8 rfl).trans <| (mX_iconst d_X8_live_9 ci_0).trans <| (mX_aload_n d_X8_live_10 rfl).trans <| (mG_i d_X8_live_11 fi_155_168 rfl (by decide)).trans <| (mX_iconst d_X8_live_14 ci_1).trans <| (mX_isub d_X8_live_15).trans <| mS_i (vs := [.int x1, .int 0, .int ((h 63 22) - 1)]) (st' := []) d_X8_live_16 cs_155_46 (Or.inr (Or.inl rfl)) (Nat.le_of_ble_eq_true rfl) rfl rfl rfl
theorem b_X8_live_19 {x1 s0 : Int32} {h h' : mn_H} {r : Option Value} : mn_E 155 19 [.ref 63, .int x1] [.int s0] h r h' ↔ if ¬ s0 = 0 then mn_E 155 25 [.ref 63, .int x1] [] h r h' else mn_E 155 22 [.ref 63, .int x1] [] h r h' :=
  mX_if_ne d_X8_live_19 rfl
theorem b_X8_live_22 {x1 : Int32} {h h' : mn_H} {r : Option Value} : mn_E 155 22 [.ref 63, .int x1] [] h r h' ↔ r = some (.int (-1000000002)) ∧ h' = h :=
  (mX_ldc d_X8_live_22 mo_155 kc_8_50 (by decide)).trans <| mX_iret d_X8_live_24 rfl
theorem b_X8_live_25 {x1 : Int32} {h h' : mn_H} {r : Option Value} : mn_E 155 25 [.ref 63, .int x1] [] h r h' ↔ if ¬ (h 67 (0 : Int32).toNatClampNeg) = 60 then mn_E 155 39 [.ref 63, .int x1] [] h r h' else mn_E 155 36 [.ref 63, .int x1] [] h r h' :=
  (mX_aload_n d_X8_live_25 rfl).trans <| (mG_r (b := 67) d_X8_live_26 fr_155_19 rfl (by decide) rfl).trans <| (mX_iconst d_X8_live_29 ci_0).trans <| (mX_iaload d_X8_live_30 rfl (by decide) (mn_in_iff (by decide +kernel))).trans <| (mX_bipush d_X8_live_31 cb_60).trans <| mX_icmp_ne d_X8_live_33 rfl
theorem b_X8_live_36 {x1 : Int32} {h h' : mn_H} {r : Option Value} : mn_E 155 36 [.ref 63, .int x1] [] h r h' ↔ r = some (.int (-1000000004)) ∧ h' = h :=
  (mX_ldc d_X8_live_36 mo_155 kc_8_54 (by decide)).trans <| mX_iret d_X8_live_38 rfl
theorem b_X8_live_39 {x1 : Int32} {h h' : mn_H} {r : Option Value} (hy0 : vp_in x1 64) (hy1 : vp_in (4 + ((mn_up h 67 ((0 : Int32).toNatClampNeg) ((h 67 (0 : Int32).toNatClampNeg) + 1)) 67 (0 : Int32).toNatClampNeg)) 65) : mn_E 155 39 [.ref 63, .int x1] [] h r h' ↔ r = some (.int ((mn_up (mn_up h 67 ((0 : Int32).toNatClampNeg) ((h 67 (0 : Int32).toNatClampNeg) + 1)) 67 ((4 + ((mn_up h 67 ((0 : Int32).toNatClampNeg) ((h 67 (0 : Int32).toNatClampNeg) + 1)) 67 (0 : Int32).toNatClampNeg)).toNatClampNeg) ((mn_up h 67 ((0 : Int32).toNatClampNeg) ((h 67 (0 : Int32).toNatClampNeg) + 1)) 72 x1.toNatClampNeg)) 72 x1.toNatClampNeg)) ∧ h' = mn_up (mn_up h 67 ((0 : Int32).toNatClampNeg) ((h 67 (0 : Int32).toNatClampNeg) + 1)) 67 ((4 + ((mn_up h 67 ((0 : Int32).toNatClampNeg) ((h 67 (0 : Int32).toNatClampNeg) + 1)) 67 (0 : Int32).toNatClampNeg)).toNatClampNeg) ((mn_up h 67 ((0 : Int32).toNatClampNeg) ((h 67 (0 : Int32).toNatClampNeg) + 1)) 72 x1.toNatClampNeg) :=
  (mX_aload_n d_X8_live_39 rfl).trans <| (mG_r (b := 67) d_X8_live_40 fr_155_19 rfl (by decide) rfl).trans <| (mX_iconst d_X8_live_43 ci_0).trans <| (mX_dup2 d_X8_live_44 ⟨rfl, rfl⟩).trans <| (mX_iaload d_X8_live_45 rfl (by decide) (mn_in_iff (by decide +kernel))).trans <| (mX_iconst d_X8_live_46 ci_1).trans <| (mX_iadd d_X8_live_47).trans <| (mX_iastore d_X8_live_48 rfl (by decide) (mn_in_iff (by decide +kernel))).trans <| (mX_aload_n d_X8_live_49 rfl).trans <| (mG_r (b := 67) d_X8_live_50 fr_155_19 rfl (by decide) rfl).trans <| (mX_iconst d_X8_live_53 ci_4).trans <| (mX_aload_n d_X8_live_54 rfl).trans <| (mG_r (b := 67) d_X8_live_55 fr_155_19 rfl (by decide) rfl).trans <| (mX_iconst d_X8_live_58 ci_0).trans <| (mX_iaload d_X8_live_59 rfl (by decide) (mn_in_iff (by decide +kernel))).trans <| (mX_iadd d_X8_live_60).trans <| (mX_aload_n d_X8_live_61 rfl).trans <| (mG_r (b := 72) d_X8_live_62 fr_155_39 rfl (by decide) rfl).trans <| (mX_iload_n d_X8_live_65 rfl).trans <| (mX_iaload d_X8_live_66 rfl (by decide) hy0).trans <| (mX_iastore d_X8_live_67 rfl (by decide) hy1).trans <| (mX_aload_n d_X8_live_68 rfl).trans <| (mG_r (b := 72) d_X8_live_69 fr_155_39 rfl (by decide) rfl).trans <| (mX_iload_n d_X8_live_72 rfl).trans <| (mX_iaload d_X8_live_73 rfl (by decide) hy0).trans <| mX_iret d_X8_live_74 rfl
-- X8_undo
theorem mo_156 : mO 156 = 8 := rfl
theorem d_X8_undo_0 : decode (mC 156) 0 = .ok (.iload_n 1, 1) := by decide +kernel
theorem d_X8_undo_1 : decode (mC 156) 1 = .ok (.iconst 0, 1) := by decide +kernel
theorem d_X8_undo_2 : decode (mC 156) 2 = .ok (.bipush 60, 2) := by decide +kernel
theorem d_X8_undo_4 : decode (mC 156) 4 = .ok (.invokestatic 46, 3) := by decide +kernel
theorem d_X8_undo_7 : decode (mC 156) 7 = .ok (.ifCond .eq 13, 3) := by decide +kernel
theorem d_X8_undo_10 : decode (mC 156) 10 = .ok (.iload_n 1, 1) := by decide +kernel
theorem d_X8_undo_11 : decode (mC 156) 11 = .ok (.aload_n 0, 1) := by decide +kernel
theorem d_X8_undo_12 : decode (mC 156) 12 = .ok (.getfield 19, 3) := by decide +kernel
theorem d_X8_undo_15 : decode (mC 156) 15 = .ok (.iconst 0, 1) := by decide +kernel
theorem d_X8_undo_16 : decode (mC 156) 16 = .ok (.iaload, 1) := by decide +kernel
theorem d_X8_undo_17 : decode (mC 156) 17 = .ok (.if_icmp .le 6, 3) := by decide +kernel
theorem d_X8_undo_20 : decode (mC 156) 20 = .ok (.ldc 50, 2) := by decide +kernel
theorem d_X8_undo_22 : decode (mC 156) 22 = .ok (.ireturn, 1) := by decide +kernel
theorem d_X8_undo_23 : decode (mC 156) 23 = .ok (.aload_n 0, 1) := by decide +kernel
theorem d_X8_undo_24 : decode (mC 156) 24 = .ok (.getfield 19, 3) := by decide +kernel
theorem d_X8_undo_27 : decode (mC 156) 27 = .ok (.iconst 0, 1) := by decide +kernel
theorem d_X8_undo_28 : decode (mC 156) 28 = .ok (.dup2, 1) := by decide +kernel
theorem d_X8_undo_29 : decode (mC 156) 29 = .ok (.iaload, 1) := by decide +kernel
theorem d_X8_undo_30 : decode (mC 156) 30 = .ok (.iload_n 1, 1) := by decide +kernel
theorem d_X8_undo_31 : decode (mC 156) 31 = .ok (.isub, 1) := by decide +kernel
theorem d_X8_undo_32 : decode (mC 156) 32 = .ok (.iastore, 1) := by decide +kernel
theorem d_X8_undo_33 : decode (mC 156) 33 = .ok (.aload_n 0, 1) := by decide +kernel
theorem d_X8_undo_34 : decode (mC 156) 34 = .ok (.getfield 19, 3) := by decide +kernel
theorem d_X8_undo_37 : decode (mC 156) 37 = .ok (.iconst 0, 1) := by decide +kernel
theorem d_X8_undo_38 : decode (mC 156) 38 = .ok (.iaload, 1) := by decide +kernel
theorem d_X8_undo_39 : decode (mC 156) 39 = .ok (.ireturn, 1) := by decide +kernel
theorem cs_156_46 : mn_cs 156 8 46 114 = true := by decide +kernel
theorem fr_156_19 : mn_fr 156 8 19 8 4 = true := by decide +kernel
theorem b_X8_undo_0 {x1 : Int32} {h h' : mn_H} {r : Option Value} : mn_E 156 0 [.ref 63, .int x1] [] h r h' ↔ ∃ x h1, mn_X 114 [.int x1, .int 0, .int 60] h (some (.int x)) h1 ∧ mn_E 156 7 [.ref 63, .int x1] [.int x] h1 r h' :=
  (mX_iload_n d_X8_undo_0 rfl).trans <| (mX_iconst d_X8_undo_1 ci_0).trans <| (mX_bipush d_X8_undo_2 cb_60).trans <| mS_i (vs := [.int x1, .int 0, .int 60]) (st' := []) d_X8_undo_4 cs_156_46 (Or.inr (Or.inl rfl)) (Nat.le_of_ble_eq_true rfl) rfl rfl rfl
theorem b_X8_undo_7 {x1 s0 : Int32} {h h' : mn_H} {r : Option Value} : mn_E 156 7 [.ref 63, .int x1] [.int s0] h r h' ↔ if s0 = 0 then mn_E 156 20 [.ref 63, .int x1] [] h r h' else mn_E 156 10 [.ref 63, .int x1] [] h r h' :=
  mX_if_eq d_X8_undo_7 rfl
theorem b_X8_undo_10 {x1 : Int32} {h h' : mn_H} {r : Option Value} : mn_E 156 10 [.ref 63, .int x1] [] h r h' ↔ if x1 ≤ (h 67 (0 : Int32).toNatClampNeg) then mn_E 156 23 [.ref 63, .int x1] [] h r h' else mn_E 156 20 [.ref 63, .int x1] [] h r h' :=
  (mX_iload_n d_X8_undo_10 rfl).trans <| (mX_aload_n d_X8_undo_11 rfl).trans <| (mG_r (b := 67) d_X8_undo_12 fr_156_19 rfl (by decide) rfl).trans <| (mX_iconst d_X8_undo_15 ci_0).trans <| (mX_iaload d_X8_undo_16 rfl (by decide) (mn_in_iff (by decide +kernel))).trans <| mX_icmp_le d_X8_undo_17 rfl
theorem b_X8_undo_20 {x1 : Int32} {h h' : mn_H} {r : Option Value} : mn_E 156 20 [.ref 63, .int x1] [] h r h' ↔ r = some (.int (-1000000002)) ∧ h' = h :=
  (mX_ldc d_X8_undo_20 mo_156 kc_8_50 (by decide)).trans <| mX_iret d_X8_undo_22 rfl
theorem b_X8_undo_23 {x1 : Int32} {h h' : mn_H} {r : Option Value} : mn_E 156 23 [.ref 63, .int x1] [] h r h' ↔ r = some (.int ((mn_up h 67 ((0 : Int32).toNatClampNeg) ((h 67 (0 : Int32).toNatClampNeg) - x1)) 67 (0 : Int32).toNatClampNeg)) ∧ h' = mn_up h 67 ((0 : Int32).toNatClampNeg) ((h 67 (0 : Int32).toNatClampNeg) - x1) :=
  (mX_aload_n d_X8_undo_23 rfl).trans <| (mG_r (b := 67) d_X8_undo_24 fr_156_19 rfl (by decide) rfl).trans <| (mX_iconst d_X8_undo_27 ci_0).trans <| (mX_dup2 d_X8_undo_28 ⟨rfl, rfl⟩).trans <| (mX_iaload d_X8_undo_29 rfl (by decide) (mn_in_iff (by decide +kernel))).trans <| (mX_iload_n d_X8_undo_30 rfl).trans <| (mX_isub d_X8_undo_31).trans <| (mX_iastore d_X8_undo_32 rfl (by decide) (mn_in_iff (by decide +kernel))).trans <| (mX_aload_n d_X8_undo_33 rfl).trans <| (mG_r (b := 67) d_X8_undo_34 fr_156_19 rfl (by decide) rfl).trans <| (mX_iconst d_X8_undo_37 ci_0).trans <| (mX_iaload d_X8_undo_38 rfl (by decide) (mn_in_iff (by decide +kernel))).trans <| mX_iret d_X8_undo_39 rfl
-- X8_yesterday
theorem mo_157 : mO 157 = 8 := rfl
theorem d_X8_yesterday_0 : decode (mC 157) 0 = .ok (.iload_n 1, 1) := by decide +kernel
theorem d_X8_yesterday_1 : decode (mC 157) 1 = .ok (.invokestatic 128, 3) := by decide +kernel
theorem d_X8_yesterday_4 : decode (mC 157) 4 = .ok (.ifCond .ne 6, 3) := by decide +kernel
theorem d_X8_yesterday_7 : decode (mC 157) 7 = .ok (.ldc 50, 2) := by decide +kernel
theorem d_X8_yesterday_9 : decode (mC 157) 9 = .ok (.ireturn, 1) := by decide +kernel
theorem d_X8_yesterday_10 : decode (mC 157) 10 = .ok (.aload_n 0, 1) := by decide +kernel
theorem d_X8_yesterday_11 : decode (mC 157) 11 = .ok (.getfield 19, 3) := by decide +kernel
theorem d_X8_yesterday_14 : decode (mC 157) 14 = .ok (.iconst 0, 1) := by decide +kernel
theorem d_X8_yesterday_15 : decode (mC 157) 15 = .ok (.iaload, 1) := by decide +kernel
theorem d_X8_yesterday_16 : decode (mC 157) 16 = .ok (.ifCond .le 6, 3) := by decide +kernel
theorem d_X8_yesterday_19 : decode (mC 157) 19 = .ok (.ldc 181, 2) := by decide +kernel
theorem d_X8_yesterday_21 : decode (mC 157) 21 = .ok (.ireturn, 1) := by decide +kernel
theorem d_X8_yesterday_22 : decode (mC 157) 22 = .ok (.aload_n 0, 1) := by decide +kernel
theorem d_X8_yesterday_23 : decode (mC 157) 23 = .ok (.getfield 19, 3) := by decide +kernel
theorem d_X8_yesterday_26 : decode (mC 157) 26 = .ok (.iconst 4, 1) := by decide +kernel
theorem d_X8_yesterday_27 : decode (mC 157) 27 = .ok (.iaload, 1) := by decide +kernel
theorem d_X8_yesterday_28 : decode (mC 157) 28 = .ok (.istore_n 2, 1) := by decide +kernel
theorem d_X8_yesterday_29 : decode (mC 157) 29 = .ok (.aload_n 0, 1) := by decide +kernel
theorem d_X8_yesterday_30 : decode (mC 157) 30 = .ok (.getfield 19, 3) := by decide +kernel
theorem d_X8_yesterday_33 : decode (mC 157) 33 = .ok (.iconst 4, 1) := by decide +kernel
theorem d_X8_yesterday_34 : decode (mC 157) 34 = .ok (.iload_n 1, 1) := by decide +kernel
theorem d_X8_yesterday_35 : decode (mC 157) 35 = .ok (.iastore, 1) := by decide +kernel
theorem d_X8_yesterday_36 : decode (mC 157) 36 = .ok (.iload_n 2, 1) := by decide +kernel
theorem d_X8_yesterday_37 : decode (mC 157) 37 = .ok (.ireturn, 1) := by decide +kernel
theorem cs_157_128 : mn_cs 157 8 128 117 = true := by decide +kernel
theorem fr_157_19 : mn_fr 157 8 19 8 4 = true := by decide +kernel
theorem b_X8_yesterday_0 {x1 : Int32} {h h' : mn_H} {r : Option Value} : mn_E 157 0 [.ref 63, .int x1, .null] [] h r h' ↔ ∃ x h1, mn_X 117 [.int x1] h (some (.int x)) h1 ∧ mn_E 157 4 [.ref 63, .int x1, .null] [.int x] h1 r h' :=
  (mX_iload_n d_X8_yesterday_0 rfl).trans <| mS_i (vs := [.int x1]) (st' := []) d_X8_yesterday_1 cs_157_128 (Or.inr (Or.inl rfl)) (Nat.le_of_ble_eq_true rfl) rfl rfl rfl
theorem b_X8_yesterday_4 {x1 s0 : Int32} {h h' : mn_H} {r : Option Value} : mn_E 157 4 [.ref 63, .int x1, .null] [.int s0] h r h' ↔ if ¬ s0 = 0 then mn_E 157 10 [.ref 63, .int x1, .null] [] h r h' else mn_E 157 7 [.ref 63, .int x1, .null] [] h r h' :=
  mX_if_ne d_X8_yesterday_4 rfl
theorem b_X8_yesterday_7 {x1 : Int32} {h h' : mn_H} {r : Option Value} : mn_E 157 7 [.ref 63, .int x1, .null] [] h r h' ↔ r = some (.int (-1000000002)) ∧ h' = h :=
  (mX_ldc d_X8_yesterday_7 mo_157 kc_8_50 (by decide)).trans <| mX_iret d_X8_yesterday_9 rfl
theorem b_X8_yesterday_10 {x1 : Int32} {h h' : mn_H} {r : Option Value} : mn_E 157 10 [.ref 63, .int x1, .null] [] h r h' ↔ if (h 67 (0 : Int32).toNatClampNeg) ≤ 0 then mn_E 157 22 [.ref 63, .int x1, .null] [] h r h' else mn_E 157 19 [.ref 63, .int x1, .null] [] h r h' :=
  (mX_aload_n d_X8_yesterday_10 rfl).trans <| (mG_r (b := 67) d_X8_yesterday_11 fr_157_19 rfl (by decide) rfl).trans <| (mX_iconst d_X8_yesterday_14 ci_0).trans <| (mX_iaload d_X8_yesterday_15 rfl (by decide) (mn_in_iff (by decide +kernel))).trans <| mX_if_le d_X8_yesterday_16 rfl
theorem b_X8_yesterday_19 {x1 : Int32} {h h' : mn_H} {r : Option Value} : mn_E 157 19 [.ref 63, .int x1, .null] [] h r h' ↔ r = some (.int (-1000000003)) ∧ h' = h :=
  (mX_ldc d_X8_yesterday_19 mo_157 kc_8_181 (by decide)).trans <| mX_iret d_X8_yesterday_21 rfl
theorem b_X8_yesterday_22 {x1 : Int32} {h h' : mn_H} {r : Option Value} : mn_E 157 22 [.ref 63, .int x1, .null] [] h r h' ↔ r = some (.int (h 67 (4 : Int32).toNatClampNeg)) ∧ h' = mn_up h 67 ((4 : Int32).toNatClampNeg) x1 :=
  (mX_aload_n d_X8_yesterday_22 rfl).trans <| (mG_r (b := 67) d_X8_yesterday_23 fr_157_19 rfl (by decide) rfl).trans <| (mX_iconst d_X8_yesterday_26 ci_4).trans <| (mX_iaload d_X8_yesterday_27 rfl (by decide) (mn_in_iff (by decide +kernel))).trans <| (mX_istore_n (ls' := [.ref 63, .int x1, .int (h 67 (4 : Int32).toNatClampNeg)]) d_X8_yesterday_28 rfl rfl).trans <| (mX_aload_n d_X8_yesterday_29 rfl).trans <| (mG_r (b := 67) d_X8_yesterday_30 fr_157_19 rfl (by decide) rfl).trans <| (mX_iconst d_X8_yesterday_33 ci_4).trans <| (mX_iload_n d_X8_yesterday_34 rfl).trans <| (mX_iastore d_X8_yesterday_35 rfl (by decide) (mn_in_iff (by decide +kernel))).trans <| (mX_iload_n d_X8_yesterday_36 rfl).trans <| mX_iret d_X8_yesterday_37 rfl
-- X8_deaf
theorem mo_158 : mO 158 = 8 := rfl
theorem d_X8_deaf_0 : decode (mC 158) 0 = .ok (.aload_n 0, 1) := by decide +kernel
theorem d_X8_deaf_1 : decode (mC 158) 1 = .ok (.iload_n 1, 1) := by decide +kernel
theorem d_X8_deaf_2 : decode (mC 158) 2 = .ok (.invokevirtual 125, 3) := by decide +kernel
theorem d_X8_deaf_5 : decode (mC 158) 5 = .ok (.ifCond .ne 6, 3) := by decide +kernel
theorem d_X8_deaf_8 : decode (mC 158) 8 = .ok (.ldc 124, 2) := by decide +kernel
theorem d_X8_deaf_10 : decode (mC 158) 10 = .ok (.ireturn, 1) := by decide +kernel
theorem d_X8_deaf_11 : decode (mC 158) 11 = .ok (.aload_n 0, 1) := by decide +kernel
theorem d_X8_deaf_12 : decode (mC 158) 12 = .ok (.getfield 19, 3) := by decide +kernel
theorem d_X8_deaf_15 : decode (mC 158) 15 = .ok (.iconst 1, 1) := by decide +kernel
theorem d_X8_deaf_16 : decode (mC 158) 16 = .ok (.iaload, 1) := by decide +kernel
theorem d_X8_deaf_17 : decode (mC 158) 17 = .ok (.iload_n 1, 1) := by decide +kernel
theorem d_X8_deaf_18 : decode (mC 158) 18 = .ok (.ishr, 1) := by decide +kernel
theorem d_X8_deaf_19 : decode (mC 158) 19 = .ok (.iconst 1, 1) := by decide +kernel
theorem d_X8_deaf_20 : decode (mC 158) 20 = .ok (.iand, 1) := by decide +kernel
theorem d_X8_deaf_21 : decode (mC 158) 21 = .ok (.istore_n 3, 1) := by decide +kernel
theorem d_X8_deaf_22 : decode (mC 158) 22 = .ok (.aload_n 0, 1) := by decide +kernel
theorem d_X8_deaf_23 : decode (mC 158) 23 = .ok (.getfield 19, 3) := by decide +kernel
theorem d_X8_deaf_26 : decode (mC 158) 26 = .ok (.iconst 1, 1) := by decide +kernel
theorem d_X8_deaf_27 : decode (mC 158) 27 = .ok (.iload_n 2, 1) := by decide +kernel
theorem d_X8_deaf_28 : decode (mC 158) 28 = .ok (.ifCond .eq 16, 3) := by decide +kernel
theorem d_X8_deaf_31 : decode (mC 158) 31 = .ok (.aload_n 0, 1) := by decide +kernel
theorem d_X8_deaf_32 : decode (mC 158) 32 = .ok (.getfield 19, 3) := by decide +kernel
theorem d_X8_deaf_35 : decode (mC 158) 35 = .ok (.iconst 1, 1) := by decide +kernel
theorem d_X8_deaf_36 : decode (mC 158) 36 = .ok (.iaload, 1) := by decide +kernel
theorem d_X8_deaf_37 : decode (mC 158) 37 = .ok (.iconst 1, 1) := by decide +kernel
theorem d_X8_deaf_38 : decode (mC 158) 38 = .ok (.iload_n 1, 1) := by decide +kernel
theorem d_X8_deaf_39 : decode (mC 158) 39 = .ok (.ishl, 1) := by decide +kernel
theorem d_X8_deaf_40 : decode (mC 158) 40 = .ok (.ior, 1) := by decide +kernel
theorem d_X8_deaf_41 : decode (mC 158) 41 = .ok (.goto 15, 3) := by decide +kernel
theorem d_X8_deaf_44 : decode (mC 158) 44 = .ok (.aload_n 0, 1) := by decide +kernel
theorem d_X8_deaf_45 : decode (mC 158) 45 = .ok (.getfield 19, 3) := by decide +kernel
theorem d_X8_deaf_48 : decode (mC 158) 48 = .ok (.iconst 1, 1) := by decide +kernel
theorem d_X8_deaf_49 : decode (mC 158) 49 = .ok (.iaload, 1) := by decide +kernel
theorem d_X8_deaf_50 : decode (mC 158) 50 = .ok (.iconst 1, 1) := by decide +kernel
theorem d_X8_deaf_51 : decode (mC 158) 51 = .ok (.iload_n 1, 1) := by decide +kernel
theorem d_X8_deaf_52 : decode (mC 158) 52 = .ok (.ishl, 1) := by decide +kernel
theorem d_X8_deaf_53 : decode (mC 158) 53 = .ok (.iconst (-1), 1) := by decide +kernel
theorem d_X8_deaf_54 : decode (mC 158) 54 = .ok (.ixor, 1) := by decide +kernel
theorem d_X8_deaf_55 : decode (mC 158) 55 = .ok (.iand, 1) := by decide +kernel
theorem d_X8_deaf_56 : decode (mC 158) 56 = .ok (.iastore, 1) := by decide +kernel
theorem d_X8_deaf_57 : decode (mC 158) 57 = .ok (.iload_n 3, 1) := by decide +kernel
theorem d_X8_deaf_58 : decode (mC 158) 58 = .ok (.ireturn, 1) := by decide +kernel
theorem cv_158_125 : mn_cvt 158 8 125 116 = true := by decide +kernel
theorem fr_158_19 : mn_fr 158 8 19 8 4 = true := by decide +kernel
theorem b_X8_deaf_0 {x1 x2 : Int32} {h h' : mn_H} {r : Option Value} : mn_E 158 0 [.ref 63, .int x1, .int x2, .null] [] h r h' ↔ ∃ x h1, mn_X 116 [.ref 63, .int x1] h (some (.int x)) h1 ∧ mn_E 158 5 [.ref 63, .int x1, .int x2, .null] [.int x] h1 r h' :=
  (mX_aload_n d_X8_deaf_0 rfl).trans <| (mX_iload_n d_X8_deaf_1 rfl).trans <| mV_i (a := 63) (vs := [.int x1]) (st' := []) d_X8_deaf_2 cv_158_125 (Or.inr (Or.inl rfl)) (Nat.le_of_ble_eq_true rfl) rfl rfl rfl rfl
theorem b_X8_deaf_5 {x1 x2 s0 : Int32} {h h' : mn_H} {r : Option Value} : mn_E 158 5 [.ref 63, .int x1, .int x2, .null] [.int s0] h r h' ↔ if ¬ s0 = 0 then mn_E 158 11 [.ref 63, .int x1, .int x2, .null] [] h r h' else mn_E 158 8 [.ref 63, .int x1, .int x2, .null] [] h r h' :=
  mX_if_ne d_X8_deaf_5 rfl
theorem b_X8_deaf_8 {x1 x2 : Int32} {h h' : mn_H} {r : Option Value} : mn_E 158 8 [.ref 63, .int x1, .int x2, .null] [] h r h' ↔ r = some (.int (-1000000001)) ∧ h' = h :=
  (mX_ldc d_X8_deaf_8 mo_158 kc_8_124 (by decide)).trans <| mX_iret d_X8_deaf_10 rfl
theorem b_X8_deaf_11 {x1 x2 : Int32} {h h' : mn_H} {r : Option Value} : mn_E 158 11 [.ref 63, .int x1, .int x2, .null] [] h r h' ↔ if x2 = 0 then mn_E 158 44 [.ref 63, .int x1, .int x2, .int (((h 67 (1 : Int32).toNatClampNeg) >>> (x1 &&& 31)) &&& 1)] [.int 1, .ref 67] h r h' else mn_E 158 31 [.ref 63, .int x1, .int x2, .int (((h 67 (1 : Int32).toNatClampNeg) >>> (x1 &&& 31)) &&& 1)] [.int 1, .ref 67] h r h' :=
  (mX_aload_n d_X8_deaf_11 rfl).trans <| (mG_r (b := 67) d_X8_deaf_12 fr_158_19 rfl (by decide) rfl).trans <| (mX_iconst d_X8_deaf_15 ci_1).trans <| (mX_iaload d_X8_deaf_16 rfl (by decide) (mn_in_iff (by decide +kernel))).trans <| (mX_iload_n d_X8_deaf_17 rfl).trans <| (mX_ishr d_X8_deaf_18).trans <| (mX_iconst d_X8_deaf_19 ci_1).trans <| (mX_iand d_X8_deaf_20).trans <| (mX_istore_n (ls' := [.ref 63, .int x1, .int x2, .int (((h 67 (1 : Int32).toNatClampNeg) >>> (x1 &&& 31)) &&& 1)]) d_X8_deaf_21 rfl rfl).trans <| (mX_aload_n d_X8_deaf_22 rfl).trans <| (mG_r (b := 67) d_X8_deaf_23 fr_158_19 rfl (by decide) rfl).trans <| (mX_iconst d_X8_deaf_26 ci_1).trans <| (mX_iload_n d_X8_deaf_27 rfl).trans <| mX_if_eq d_X8_deaf_28 rfl
theorem b_X8_deaf_31 {x1 x2 x3 s0 : Int32} {h h' : mn_H} {r : Option Value} : mn_E 158 31 [.ref 63, .int x1, .int x2, .int x3] [.int s0, .ref 67] h r h' ↔ mn_E 158 56 [.ref 63, .int x1, .int x2, .int x3] [.int ((h 67 (1 : Int32).toNatClampNeg) ||| (1 <<< (x1 &&& 31))), .int s0, .ref 67] h r h' :=
  (mX_aload_n d_X8_deaf_31 rfl).trans <| (mG_r (b := 67) d_X8_deaf_32 fr_158_19 rfl (by decide) rfl).trans <| (mX_iconst d_X8_deaf_35 ci_1).trans <| (mX_iaload d_X8_deaf_36 rfl (by decide) (mn_in_iff (by decide +kernel))).trans <| (mX_iconst d_X8_deaf_37 ci_1).trans <| (mX_iload_n d_X8_deaf_38 rfl).trans <| (mX_ishl d_X8_deaf_39).trans <| (mX_ior d_X8_deaf_40).trans <| mX_goto d_X8_deaf_41 rfl
theorem b_X8_deaf_44 {x1 x2 x3 s0 : Int32} {h h' : mn_H} {r : Option Value} : mn_E 158 44 [.ref 63, .int x1, .int x2, .int x3] [.int s0, .ref 67] h r h' ↔ mn_E 158 56 [.ref 63, .int x1, .int x2, .int x3] [.int ((h 67 (1 : Int32).toNatClampNeg) &&& ((1 <<< (x1 &&& 31)) ^^^ (-1))), .int s0, .ref 67] h r h' :=
  (mX_aload_n d_X8_deaf_44 rfl).trans <| (mG_r (b := 67) d_X8_deaf_45 fr_158_19 rfl (by decide) rfl).trans <| (mX_iconst d_X8_deaf_48 ci_1).trans <| (mX_iaload d_X8_deaf_49 rfl (by decide) (mn_in_iff (by decide +kernel))).trans <| (mX_iconst d_X8_deaf_50 ci_1).trans <| (mX_iload_n d_X8_deaf_51 rfl).trans <| (mX_ishl d_X8_deaf_52).trans <| (mX_iconst d_X8_deaf_53 ci_m1).trans <| (mX_ixor d_X8_deaf_54).trans <| mX_iand d_X8_deaf_55
theorem b_X8_deaf_56 {x1 x2 x3 s0 s1 : Int32} {h h' : mn_H} {r : Option Value} (hy0 : vp_in s1 65) : mn_E 158 56 [.ref 63, .int x1, .int x2, .int x3] [.int s0, .int s1, .ref 67] h r h' ↔ r = some (.int x3) ∧ h' = mn_up h 67 (s1.toNatClampNeg) s0 :=
  (mX_iastore d_X8_deaf_56 rfl (by decide) hy0).trans <| (mX_iload_n d_X8_deaf_57 rfl).trans <| mX_iret d_X8_deaf_58 rfl
-- X8_isGroups
theorem mo_159 : mO 159 = 8 := rfl
theorem d_X8_isGroups_0 : decode (mC 159) 0 = .ok (.iload_n 1, 1) := by decide +kernel
theorem d_X8_isGroups_1 : decode (mC 159) 1 = .ok (.iconst 0, 1) := by decide +kernel
theorem d_X8_isGroups_2 : decode (mC 159) 2 = .ok (.iconst 1, 1) := by decide +kernel
theorem d_X8_isGroups_3 : decode (mC 159) 3 = .ok (.aload_n 0, 1) := by decide +kernel
theorem d_X8_isGroups_4 : decode (mC 159) 4 = .ok (.getfield 13, 3) := by decide +kernel
theorem d_X8_isGroups_7 : decode (mC 159) 7 = .ok (.iconst 1, 1) := by decide +kernel
theorem d_X8_isGroups_8 : decode (mC 159) 8 = .ok (.iaload, 1) := by decide +kernel
theorem d_X8_isGroups_9 : decode (mC 159) 9 = .ok (.ishl, 1) := by decide +kernel
theorem d_X8_isGroups_10 : decode (mC 159) 10 = .ok (.iconst 1, 1) := by decide +kernel
theorem d_X8_isGroups_11 : decode (mC 159) 11 = .ok (.isub, 1) := by decide +kernel
theorem d_X8_isGroups_12 : decode (mC 159) 12 = .ok (.invokestatic 46, 3) := by decide +kernel
theorem d_X8_isGroups_15 : decode (mC 159) 15 = .ok (.ireturn, 1) := by decide +kernel
theorem fr_159_13 : mn_fr 159 8 13 8 2 = true := by decide +kernel
theorem cs_159_46 : mn_cs 159 8 46 114 = true := by decide +kernel
theorem b_X8_isGroups_0 {x1 : Int32} {h h' : mn_H} {r : Option Value} : mn_E 159 0 [.ref 63, .int x1] [] h r h' ↔ ∃ x h1, mn_X 114 [.int x1, .int 0, .int ((1 <<< ((h 65 (1 : Int32).toNatClampNeg) &&& 31)) - 1)] h (some (.int x)) h1 ∧ mn_E 159 15 [.ref 63, .int x1] [.int x] h1 r h' :=
  (mX_iload_n d_X8_isGroups_0 rfl).trans <| (mX_iconst d_X8_isGroups_1 ci_0).trans <| (mX_iconst d_X8_isGroups_2 ci_1).trans <| (mX_aload_n d_X8_isGroups_3 rfl).trans <| (mG_r (b := 65) d_X8_isGroups_4 fr_159_13 rfl (by decide) rfl).trans <| (mX_iconst d_X8_isGroups_7 ci_1).trans <| (mX_iaload d_X8_isGroups_8 rfl (by decide) (mn_in_iff (by decide +kernel))).trans <| (mX_ishl d_X8_isGroups_9).trans <| (mX_iconst d_X8_isGroups_10 ci_1).trans <| (mX_isub d_X8_isGroups_11).trans <| mS_i (vs := [.int x1, .int 0, .int ((1 <<< ((h 65 (1 : Int32).toNatClampNeg) &&& 31)) - 1)]) (st' := []) d_X8_isGroups_12 cs_159_46 (Or.inr (Or.inl rfl)) (Nat.le_of_ble_eq_true rfl) rfl rfl rfl
theorem b_X8_isGroups_15 {x1 s0 : Int32} {h h' : mn_H} {r : Option Value} (hy0 : s0 = 0 ∨ s0 = 1) : mn_E 159 15 [.ref 63, .int x1] [.int s0] h r h' ↔ r = some (.int s0) ∧ h' = h :=
  mX_zret d_X8_isGroups_15 rfl hy0
-- X8_may
theorem mo_160 : mO 160 = 8 := rfl
theorem d_X8_may_0 : decode (mC 160) 0 = .ok (.aload_n 0, 1) := by decide +kernel
theorem d_X8_may_1 : decode (mC 160) 1 = .ok (.iload_n 1, 1) := by decide +kernel
theorem d_X8_may_2 : decode (mC 160) 2 = .ok (.invokevirtual 182, 3) := by decide +kernel
theorem d_X8_may_5 : decode (mC 160) 5 = .ok (.ifCond .ne 6, 3) := by decide +kernel
theorem d_X8_may_8 : decode (mC 160) 8 = .ok (.ldc 124, 2) := by decide +kernel
theorem d_X8_may_10 : decode (mC 160) 10 = .ok (.ireturn, 1) := by decide +kernel
theorem d_X8_may_11 : decode (mC 160) 11 = .ok (.aload_n 0, 1) := by decide +kernel
theorem d_X8_may_12 : decode (mC 160) 12 = .ok (.getfield 19, 3) := by decide +kernel
theorem d_X8_may_15 : decode (mC 160) 15 = .ok (.iconst 2, 1) := by decide +kernel
theorem d_X8_may_16 : decode (mC 160) 16 = .ok (.iaload, 1) := by decide +kernel
theorem d_X8_may_17 : decode (mC 160) 17 = .ok (.istore_n 2, 1) := by decide +kernel
theorem d_X8_may_18 : decode (mC 160) 18 = .ok (.aload_n 0, 1) := by decide +kernel
theorem d_X8_may_19 : decode (mC 160) 19 = .ok (.getfield 19, 3) := by decide +kernel
theorem d_X8_may_22 : decode (mC 160) 22 = .ok (.iconst 2, 1) := by decide +kernel
theorem d_X8_may_23 : decode (mC 160) 23 = .ok (.iload_n 1, 1) := by decide +kernel
theorem d_X8_may_24 : decode (mC 160) 24 = .ok (.iastore, 1) := by decide +kernel
theorem d_X8_may_25 : decode (mC 160) 25 = .ok (.iload_n 2, 1) := by decide +kernel
theorem d_X8_may_26 : decode (mC 160) 26 = .ok (.ireturn, 1) := by decide +kernel
theorem cv_160_182 : mn_cvt 160 8 182 159 = true := by decide +kernel
theorem fr_160_19 : mn_fr 160 8 19 8 4 = true := by decide +kernel
theorem b_X8_may_0 {x1 : Int32} {h h' : mn_H} {r : Option Value} : mn_E 160 0 [.ref 63, .int x1, .null] [] h r h' ↔ ∃ x h1, mn_X 159 [.ref 63, .int x1] h (some (.int x)) h1 ∧ mn_E 160 5 [.ref 63, .int x1, .null] [.int x] h1 r h' :=
  (mX_aload_n d_X8_may_0 rfl).trans <| (mX_iload_n d_X8_may_1 rfl).trans <| mV_i (a := 63) (vs := [.int x1]) (st' := []) d_X8_may_2 cv_160_182 (Or.inr (Or.inl rfl)) (Nat.le_of_ble_eq_true rfl) rfl rfl rfl rfl
theorem b_X8_may_5 {x1 s0 : Int32} {h h' : mn_H} {r : Option Value} : mn_E 160 5 [.ref 63, .int x1, .null] [.int s0] h r h' ↔ if ¬ s0 = 0 then mn_E 160 11 [.ref 63, .int x1, .null] [] h r h' else mn_E 160 8 [.ref 63, .int x1, .null] [] h r h' :=
  mX_if_ne d_X8_may_5 rfl
theorem b_X8_may_8 {x1 : Int32} {h h' : mn_H} {r : Option Value} : mn_E 160 8 [.ref 63, .int x1, .null] [] h r h' ↔ r = some (.int (-1000000001)) ∧ h' = h :=
  (mX_ldc d_X8_may_8 mo_160 kc_8_124 (by decide)).trans <| mX_iret d_X8_may_10 rfl
theorem b_X8_may_11 {x1 : Int32} {h h' : mn_H} {r : Option Value} : mn_E 160 11 [.ref 63, .int x1, .null] [] h r h' ↔ r = some (.int (h 67 (2 : Int32).toNatClampNeg)) ∧ h' = mn_up h 67 ((2 : Int32).toNatClampNeg) x1 :=
  (mX_aload_n d_X8_may_11 rfl).trans <| (mG_r (b := 67) d_X8_may_12 fr_160_19 rfl (by decide) rfl).trans <| (mX_iconst d_X8_may_15 ci_2).trans <| (mX_iaload d_X8_may_16 rfl (by decide) (mn_in_iff (by decide +kernel))).trans <| (mX_istore_n (ls' := [.ref 63, .int x1, .int (h 67 (2 : Int32).toNatClampNeg)]) d_X8_may_17 rfl rfl).trans <| (mX_aload_n d_X8_may_18 rfl).trans <| (mG_r (b := 67) d_X8_may_19 fr_160_19 rfl (by decide) rfl).trans <| (mX_iconst d_X8_may_22 ci_2).trans <| (mX_iload_n d_X8_may_23 rfl).trans <| (mX_iastore d_X8_may_24 rfl (by decide) (mn_in_iff (by decide +kernel))).trans <| (mX_iload_n d_X8_may_25 rfl).trans <| mX_iret d_X8_may_26 rfl
-- X8_draw
theorem mo_161 : mO 161 = 8 := rfl
theorem d_X8_draw_0 : decode (mC 161) 0 = .ok (.aload_n 0, 1) := by decide +kernel
theorem d_X8_draw_1 : decode (mC 161) 1 = .ok (.getfield 19, 3) := by decide +kernel
theorem d_X8_draw_4 : decode (mC 161) 4 = .ok (.iconst 3, 1) := by decide +kernel
theorem d_X8_draw_5 : decode (mC 161) 5 = .ok (.aload_n 0, 1) := by decide +kernel
theorem d_X8_draw_6 : decode (mC 161) 6 = .ok (.getfield 19, 3) := by decide +kernel
theorem d_X8_draw_9 : decode (mC 161) 9 = .ok (.iconst 3, 1) := by decide +kernel
theorem d_X8_draw_10 : decode (mC 161) 10 = .ok (.iaload, 1) := by decide +kernel
theorem d_X8_draw_11 : decode (mC 161) 11 = .ok (.ldc 185, 2) := by decide +kernel
theorem d_X8_draw_13 : decode (mC 161) 13 = .ok (.imul, 1) := by decide +kernel
theorem d_X8_draw_14 : decode (mC 161) 14 = .ok (.sipush 12345, 3) := by decide +kernel
theorem d_X8_draw_17 : decode (mC 161) 17 = .ok (.iadd, 1) := by decide +kernel
theorem d_X8_draw_18 : decode (mC 161) 18 = .ok (.ldc 186, 2) := by decide +kernel
theorem d_X8_draw_20 : decode (mC 161) 20 = .ok (.iand, 1) := by decide +kernel
theorem d_X8_draw_21 : decode (mC 161) 21 = .ok (.iastore, 1) := by decide +kernel
theorem d_X8_draw_22 : decode (mC 161) 22 = .ok (.aload_n 0, 1) := by decide +kernel
theorem d_X8_draw_23 : decode (mC 161) 23 = .ok (.getfield 19, 3) := by decide +kernel
theorem d_X8_draw_26 : decode (mC 161) 26 = .ok (.iconst 3, 1) := by decide +kernel
theorem d_X8_draw_27 : decode (mC 161) 27 = .ok (.iaload, 1) := by decide +kernel
theorem d_X8_draw_28 : decode (mC 161) 28 = .ok (.ldc 187, 2) := by decide +kernel
theorem d_X8_draw_30 : decode (mC 161) 30 = .ok (.idiv, 1) := by decide +kernel
theorem d_X8_draw_31 : decode (mC 161) 31 = .ok (.iload_n 1, 1) := by decide +kernel
theorem d_X8_draw_32 : decode (mC 161) 32 = .ok (.irem, 1) := by decide +kernel
theorem d_X8_draw_33 : decode (mC 161) 33 = .ok (.ireturn, 1) := by decide +kernel
theorem fr_161_19 : mn_fr 161 8 19 8 4 = true := by decide +kernel
theorem b_X8_draw_0 {x1 : Int32} {h h' : mn_H} {r : Option Value} (hy0 : ¬ x1 = 0) : mn_E 161 0 [.ref 63, .int x1] [] h r h' ↔ r = some (.int ((((mn_up h 67 ((3 : Int32).toNatClampNeg) ((((h 67 (3 : Int32).toNatClampNeg) * 1103515245) + 12345) &&& 2147483647)) 67 (3 : Int32).toNatClampNeg) / 65536) - (((mn_up h 67 ((3 : Int32).toNatClampNeg) ((((h 67 (3 : Int32).toNatClampNeg) * 1103515245) + 12345) &&& 2147483647)) 67 (3 : Int32).toNatClampNeg) / 65536) / x1 * x1)) ∧ h' = mn_up h 67 ((3 : Int32).toNatClampNeg) ((((h 67 (3 : Int32).toNatClampNeg) * 1103515245) + 12345) &&& 2147483647) :=
  (mX_aload_n d_X8_draw_0 rfl).trans <| (mG_r (b := 67) d_X8_draw_1 fr_161_19 rfl (by decide) rfl).trans <| (mX_iconst d_X8_draw_4 ci_3).trans <| (mX_aload_n d_X8_draw_5 rfl).trans <| (mG_r (b := 67) d_X8_draw_6 fr_161_19 rfl (by decide) rfl).trans <| (mX_iconst d_X8_draw_9 ci_3).trans <| (mX_iaload d_X8_draw_10 rfl (by decide) (mn_in_iff (by decide +kernel))).trans <| (mX_ldc d_X8_draw_11 mo_161 kc_8_185 (by decide)).trans <| (mX_imul d_X8_draw_13).trans <| (mX_sipush d_X8_draw_14 cs_12345).trans <| (mX_iadd d_X8_draw_17).trans <| (mX_ldc d_X8_draw_18 mo_161 kc_8_186 (by decide)).trans <| (mX_iand d_X8_draw_20).trans <| (mX_iastore d_X8_draw_21 rfl (by decide) (mn_in_iff (by decide +kernel))).trans <| (mX_aload_n d_X8_draw_22 rfl).trans <| (mG_r (b := 67) d_X8_draw_23 fr_161_19 rfl (by decide) rfl).trans <| (mX_iconst d_X8_draw_26 ci_3).trans <| (mX_iaload d_X8_draw_27 rfl (by decide) (mn_in_iff (by decide +kernel))).trans <| (mX_ldc d_X8_draw_28 mo_161 kc_8_187 (by decide)).trans <| (mX_idiv d_X8_draw_30 (by decide)).trans <| (mX_iload_n d_X8_draw_31 rfl).trans <| (mX_irem d_X8_draw_32 hy0).trans <| mX_iret d_X8_draw_33 rfl
-- X8_drift
theorem mo_162 : mO 162 = 8 := rfl
theorem d_X8_drift_0 : decode (mC 162) 0 = .ok (.iload_n 1, 1) := by decide +kernel
theorem d_X8_drift_1 : decode (mC 162) 1 = .ok (.iconst 1, 1) := by decide +kernel
theorem d_X8_drift_2 : decode (mC 162) 2 = .ok (.bipush 60, 2) := by decide +kernel
theorem d_X8_drift_4 : decode (mC 162) 4 = .ok (.invokestatic 46, 3) := by decide +kernel
theorem d_X8_drift_7 : decode (mC 162) 7 = .ok (.ifCond .ne 6, 3) := by decide +kernel
theorem d_X8_drift_10 : decode (mC 162) 10 = .ok (.ldc 50, 2) := by decide +kernel
theorem d_X8_drift_12 : decode (mC 162) 12 = .ok (.ireturn, 1) := by decide +kernel
theorem d_X8_drift_13 : decode (mC 162) 13 = .ok (.aload_n 0, 1) := by decide +kernel
theorem d_X8_drift_14 : decode (mC 162) 14 = .ok (.getfield 19, 3) := by decide +kernel
theorem d_X8_drift_17 : decode (mC 162) 17 = .ok (.iconst 0, 1) := by decide +kernel
theorem d_X8_drift_18 : decode (mC 162) 18 = .ok (.iaload, 1) := by decide +kernel
theorem d_X8_drift_19 : decode (mC 162) 19 = .ok (.iload_n 1, 1) := by decide +kernel
theorem d_X8_drift_20 : decode (mC 162) 20 = .ok (.iadd, 1) := by decide +kernel
theorem d_X8_drift_21 : decode (mC 162) 21 = .ok (.bipush 60, 2) := by decide +kernel
theorem d_X8_drift_23 : decode (mC 162) 23 = .ok (.if_icmp .le 6, 3) := by decide +kernel
theorem d_X8_drift_26 : decode (mC 162) 26 = .ok (.ldc 54, 2) := by decide +kernel
theorem d_X8_drift_28 : decode (mC 162) 28 = .ok (.ireturn, 1) := by decide +kernel
theorem d_X8_drift_29 : decode (mC 162) 29 = .ok (.aload_n 0, 1) := by decide +kernel
theorem d_X8_drift_30 : decode (mC 162) 30 = .ok (.getfield 19, 3) := by decide +kernel
theorem d_X8_drift_33 : decode (mC 162) 33 = .ok (.iconst 0, 1) := by decide +kernel
theorem d_X8_drift_34 : decode (mC 162) 34 = .ok (.iaload, 1) := by decide +kernel
theorem d_X8_drift_35 : decode (mC 162) 35 = .ok (.istore_n 2, 1) := by decide +kernel
theorem d_X8_drift_36 : decode (mC 162) 36 = .ok (.iconst 0, 1) := by decide +kernel
theorem d_X8_drift_37 : decode (mC 162) 37 = .ok (.istore_n 3, 1) := by decide +kernel
theorem d_X8_drift_38 : decode (mC 162) 38 = .ok (.iload_n 3, 1) := by decide +kernel
theorem d_X8_drift_39 : decode (mC 162) 39 = .ok (.iload_n 1, 1) := by decide +kernel
theorem d_X8_drift_40 : decode (mC 162) 40 = .ok (.if_icmp .ge 57, 3) := by decide +kernel
theorem d_X8_drift_43 : decode (mC 162) 43 = .ok (.aload_n 0, 1) := by decide +kernel
theorem d_X8_drift_44 : decode (mC 162) 44 = .ok (.invokevirtual 107, 3) := by decide +kernel
theorem d_X8_drift_47 : decode (mC 162) 47 = .ok (.aload_n 0, 1) := by decide +kernel
theorem d_X8_drift_48 : decode (mC 162) 48 = .ok (.invokevirtual 174, 3) := by decide +kernel
theorem d_X8_drift_51 : decode (mC 162) 51 = .ok (.aload_n 0, 1) := by decide +kernel
theorem d_X8_drift_52 : decode (mC 162) 52 = .ok (.getfield 39, 3) := by decide +kernel
theorem d_X8_drift_55 : decode (mC 162) 55 = .ok (.aload_n 0, 1) := by decide +kernel
theorem d_X8_drift_56 : decode (mC 162) 56 = .ok (.aload_n 0, 1) := by decide +kernel
theorem d_X8_drift_57 : decode (mC 162) 57 = .ok (.getfield 168, 3) := by decide +kernel
theorem d_X8_drift_60 : decode (mC 162) 60 = .ok (.invokevirtual 188, 3) := by decide +kernel
theorem d_X8_drift_63 : decode (mC 162) 63 = .ok (.iaload, 1) := by decide +kernel
theorem d_X8_drift_64 : decode (mC 162) 64 = .ok (.istore 4, 2) := by decide +kernel
theorem d_X8_drift_66 : decode (mC 162) 66 = .ok (.aload_n 0, 1) := by decide +kernel
theorem d_X8_drift_67 : decode (mC 162) 67 = .ok (.getfield 19, 3) := by decide +kernel
theorem d_X8_drift_70 : decode (mC 162) 70 = .ok (.iconst 0, 1) := by decide +kernel
theorem d_X8_drift_71 : decode (mC 162) 71 = .ok (.dup2, 1) := by decide +kernel
theorem d_X8_drift_72 : decode (mC 162) 72 = .ok (.iaload, 1) := by decide +kernel
theorem d_X8_drift_73 : decode (mC 162) 73 = .ok (.iconst 1, 1) := by decide +kernel
theorem d_X8_drift_74 : decode (mC 162) 74 = .ok (.iadd, 1) := by decide +kernel
theorem d_X8_drift_75 : decode (mC 162) 75 = .ok (.iastore, 1) := by decide +kernel
theorem d_X8_drift_76 : decode (mC 162) 76 = .ok (.aload_n 0, 1) := by decide +kernel
theorem d_X8_drift_77 : decode (mC 162) 77 = .ok (.getfield 19, 3) := by decide +kernel
theorem d_X8_drift_80 : decode (mC 162) 80 = .ok (.iconst 4, 1) := by decide +kernel
theorem d_X8_drift_81 : decode (mC 162) 81 = .ok (.aload_n 0, 1) := by decide +kernel
theorem d_X8_drift_82 : decode (mC 162) 82 = .ok (.getfield 19, 3) := by decide +kernel
theorem d_X8_drift_85 : decode (mC 162) 85 = .ok (.iconst 0, 1) := by decide +kernel
theorem d_X8_drift_86 : decode (mC 162) 86 = .ok (.iaload, 1) := by decide +kernel
theorem d_X8_drift_87 : decode (mC 162) 87 = .ok (.iadd, 1) := by decide +kernel
theorem d_X8_drift_88 : decode (mC 162) 88 = .ok (.iload 4, 2) := by decide +kernel
theorem d_X8_drift_90 : decode (mC 162) 90 = .ok (.iastore, 1) := by decide +kernel
theorem d_X8_drift_91 : decode (mC 162) 91 = .ok (.iinc 3 1, 3) := by decide +kernel
theorem d_X8_drift_94 : decode (mC 162) 94 = .ok (.goto (-56), 3) := by decide +kernel
theorem d_X8_drift_97 : decode (mC 162) 97 = .ok (.aload_n 0, 1) := by decide +kernel
theorem d_X8_drift_98 : decode (mC 162) 98 = .ok (.iload_n 2, 1) := by decide +kernel
theorem d_X8_drift_99 : decode (mC 162) 99 = .ok (.invokevirtual 114, 3) := by decide +kernel
theorem d_X8_drift_102 : decode (mC 162) 102 = .ok (.ireturn, 1) := by decide +kernel
theorem cs_162_46 : mn_cs 162 8 46 114 = true := by decide +kernel
theorem fr_162_19 : mn_fr 162 8 19 8 4 = true := by decide +kernel
theorem cv_162_107 : mn_cvt 162 8 107 141 = true := by decide +kernel
theorem cv_162_174 : mn_cvt 162 8 174 147 = true := by decide +kernel
theorem fr_162_39 : mn_fr 162 8 39 8 21 = true := by decide +kernel
theorem fi_162_168 : mn_fi 162 8 168 8 22 = true := by decide +kernel
theorem cv_162_188 : mn_cvt 162 8 188 161 = true := by decide +kernel
theorem cv_162_114 : mn_cvt 162 8 114 135 = true := by decide +kernel
theorem b_X8_drift_0 {x1 : Int32} {h h' : mn_H} {r : Option Value} : mn_E 162 0 [.ref 63, .int x1, .null, .null, .null] [] h r h' ↔ ∃ x h1, mn_X 114 [.int x1, .int 1, .int 60] h (some (.int x)) h1 ∧ mn_E 162 7 [.ref 63, .int x1, .null, .null, .null] [.int x] h1 r h' :=
  (mX_iload_n d_X8_drift_0 rfl).trans <| (mX_iconst d_X8_drift_1 ci_1).trans <| (mX_bipush d_X8_drift_2 cb_60).trans <| mS_i (vs := [.int x1, .int 1, .int 60]) (st' := []) d_X8_drift_4 cs_162_46 (Or.inr (Or.inl rfl)) (Nat.le_of_ble_eq_true rfl) rfl rfl rfl
theorem b_X8_drift_7 {x1 s0 : Int32} {h h' : mn_H} {r : Option Value} : mn_E 162 7 [.ref 63, .int x1, .null, .null, .null] [.int s0] h r h' ↔ if ¬ s0 = 0 then mn_E 162 13 [.ref 63, .int x1, .null, .null, .null] [] h r h' else mn_E 162 10 [.ref 63, .int x1, .null, .null, .null] [] h r h' :=
  mX_if_ne d_X8_drift_7 rfl
theorem b_X8_drift_10 {x1 : Int32} {h h' : mn_H} {r : Option Value} : mn_E 162 10 [.ref 63, .int x1, .null, .null, .null] [] h r h' ↔ r = some (.int (-1000000002)) ∧ h' = h :=
  (mX_ldc d_X8_drift_10 mo_162 kc_8_50 (by decide)).trans <| mX_iret d_X8_drift_12 rfl
theorem b_X8_drift_13 {x1 : Int32} {h h' : mn_H} {r : Option Value} : mn_E 162 13 [.ref 63, .int x1, .null, .null, .null] [] h r h' ↔ if ((h 67 (0 : Int32).toNatClampNeg) + x1) ≤ 60 then mn_E 162 29 [.ref 63, .int x1, .null, .null, .null] [] h r h' else mn_E 162 26 [.ref 63, .int x1, .null, .null, .null] [] h r h' :=
  (mX_aload_n d_X8_drift_13 rfl).trans <| (mG_r (b := 67) d_X8_drift_14 fr_162_19 rfl (by decide) rfl).trans <| (mX_iconst d_X8_drift_17 ci_0).trans <| (mX_iaload d_X8_drift_18 rfl (by decide) (mn_in_iff (by decide +kernel))).trans <| (mX_iload_n d_X8_drift_19 rfl).trans <| (mX_iadd d_X8_drift_20).trans <| (mX_bipush d_X8_drift_21 cb_60).trans <| mX_icmp_le d_X8_drift_23 rfl
theorem b_X8_drift_26 {x1 : Int32} {h h' : mn_H} {r : Option Value} : mn_E 162 26 [.ref 63, .int x1, .null, .null, .null] [] h r h' ↔ r = some (.int (-1000000004)) ∧ h' = h :=
  (mX_ldc d_X8_drift_26 mo_162 kc_8_54 (by decide)).trans <| mX_iret d_X8_drift_28 rfl
theorem b_X8_drift_29 {x1 : Int32} {h h' : mn_H} {r : Option Value} : mn_E 162 29 [.ref 63, .int x1, .null, .null, .null] [] h r h' ↔ mn_E 162 38 [.ref 63, .int x1, .int (h 67 (0 : Int32).toNatClampNeg), .int 0, .null] [] h r h' :=
  (mX_aload_n d_X8_drift_29 rfl).trans <| (mG_r (b := 67) d_X8_drift_30 fr_162_19 rfl (by decide) rfl).trans <| (mX_iconst d_X8_drift_33 ci_0).trans <| (mX_iaload d_X8_drift_34 rfl (by decide) (mn_in_iff (by decide +kernel))).trans <| (mX_istore_n (ls' := [.ref 63, .int x1, .int (h 67 (0 : Int32).toNatClampNeg), .null, .null]) d_X8_drift_35 rfl rfl).trans <| (mX_iconst d_X8_drift_36 ci_0).trans <| mX_istore_n (ls' := [.ref 63, .int x1, .int (h 67 (0 : Int32).toNatClampNeg), .int 0, .null]) d_X8_drift_37 rfl rfl
theorem b_X8_drift_38 {x1 x2 x3 : Int32} {w4 : Value} {h h' : mn_H} {r : Option Value} : mn_E 162 38 [.ref 63, .int x1, .int x2, .int x3, w4] [] h r h' ↔ if x1 ≤ x3 then mn_E 162 97 [.ref 63, .int x1, .int x2, .int x3, w4] [] h r h' else mn_E 162 43 [.ref 63, .int x1, .int x2, .int x3, w4] [] h r h' :=
  (mX_iload_n d_X8_drift_38 rfl).trans <| (mX_iload_n d_X8_drift_39 rfl).trans <| mX_icmp_ge d_X8_drift_40 rfl
theorem b_X8_drift_43 {x1 x2 x3 : Int32} {w4 : Value} {h h' : mn_H} {r : Option Value} : mn_E 162 43 [.ref 63, .int x1, .int x2, .int x3, w4] [] h r h' ↔ ∃ h1, mn_X 141 [.ref 63] h none h1 ∧ mn_E 162 47 [.ref 63, .int x1, .int x2, .int x3, w4] [] h1 r h' :=
  (mX_aload_n d_X8_drift_43 rfl).trans <| mV_v (a := 63) (vs := []) (st' := []) d_X8_drift_44 cv_162_107 rfl (Nat.le_of_ble_eq_true rfl) rfl rfl rfl rfl
theorem b_X8_drift_47 {x1 x2 x3 : Int32} {w4 : Value} {h h' : mn_H} {r : Option Value} : mn_E 162 47 [.ref 63, .int x1, .int x2, .int x3, w4] [] h r h' ↔ ∃ h1, mn_X 147 [.ref 63] h none h1 ∧ mn_E 162 51 [.ref 63, .int x1, .int x2, .int x3, w4] [] h1 r h' :=
  (mX_aload_n d_X8_drift_47 rfl).trans <| mV_v (a := 63) (vs := []) (st' := []) d_X8_drift_48 cv_162_174 rfl (Nat.le_of_ble_eq_true rfl) rfl rfl rfl rfl
theorem b_X8_drift_51 {x1 x2 x3 : Int32} {w4 : Value} {h h' : mn_H} {r : Option Value} : mn_E 162 51 [.ref 63, .int x1, .int x2, .int x3, w4] [] h r h' ↔ ∃ x h1, mn_X 161 [.ref 63, .int (h 63 22)] h (some (.int x)) h1 ∧ mn_E 162 63 [.ref 63, .int x1, .int x2, .int x3, w4] [.int x, .ref 72] h1 r h' :=
  (mX_aload_n d_X8_drift_51 rfl).trans <| (mG_r (b := 72) d_X8_drift_52 fr_162_39 rfl (by decide) rfl).trans <| (mX_aload_n d_X8_drift_55 rfl).trans <| (mX_aload_n d_X8_drift_56 rfl).trans <| (mG_i d_X8_drift_57 fi_162_168 rfl (by decide)).trans <| mV_i (a := 63) (vs := [.int (h 63 22)]) (st' := [.ref 72]) d_X8_drift_60 cv_162_188 (Or.inl rfl) (Nat.le_of_ble_eq_true rfl) rfl rfl rfl rfl
theorem b_X8_drift_63 {x1 x2 x3 s0 : Int32} {w4 : Value} {h h' : mn_H} {r : Option Value} (hy0 : vp_in s0 64) (hy1 : vp_in (4 + ((mn_up h 67 ((0 : Int32).toNatClampNeg) ((h 67 (0 : Int32).toNatClampNeg) + 1)) 67 (0 : Int32).toNatClampNeg)) 65) : mn_E 162 63 [.ref 63, .int x1, .int x2, .int x3, w4] [.int s0, .ref 72] h r h' ↔ mn_E 162 38 [.ref 63, .int x1, .int x2, .int (x3 + 1), .int (h 72 s0.toNatClampNeg)] [] (mn_up (mn_up h 67 ((0 : Int32).toNatClampNeg) ((h 67 (0 : Int32).toNatClampNeg) + 1)) 67 ((4 + ((mn_up h 67 ((0 : Int32).toNatClampNeg) ((h 67 (0 : Int32).toNatClampNeg) + 1)) 67 (0 : Int32).toNatClampNeg)).toNatClampNeg) (h 72 s0.toNatClampNeg)) r h' :=
  (mX_iaload d_X8_drift_63 rfl (by decide) hy0).trans <| (mX_istore (ls' := [.ref 63, .int x1, .int x2, .int x3, .int (h 72 s0.toNatClampNeg)]) d_X8_drift_64 rfl rfl).trans <| (mX_aload_n d_X8_drift_66 rfl).trans <| (mG_r (b := 67) d_X8_drift_67 fr_162_19 rfl (by decide) rfl).trans <| (mX_iconst d_X8_drift_70 ci_0).trans <| (mX_dup2 d_X8_drift_71 ⟨rfl, rfl⟩).trans <| (mX_iaload d_X8_drift_72 rfl (by decide) (mn_in_iff (by decide +kernel))).trans <| (mX_iconst d_X8_drift_73 ci_1).trans <| (mX_iadd d_X8_drift_74).trans <| (mX_iastore d_X8_drift_75 rfl (by decide) (mn_in_iff (by decide +kernel))).trans <| (mX_aload_n d_X8_drift_76 rfl).trans <| (mG_r (b := 67) d_X8_drift_77 fr_162_19 rfl (by decide) rfl).trans <| (mX_iconst d_X8_drift_80 ci_4).trans <| (mX_aload_n d_X8_drift_81 rfl).trans <| (mG_r (b := 67) d_X8_drift_82 fr_162_19 rfl (by decide) rfl).trans <| (mX_iconst d_X8_drift_85 ci_0).trans <| (mX_iaload d_X8_drift_86 rfl (by decide) (mn_in_iff (by decide +kernel))).trans <| (mX_iadd d_X8_drift_87).trans <| (mX_iload d_X8_drift_88 rfl).trans <| (mX_iastore d_X8_drift_90 rfl (by decide) hy1).trans <| (mX_iinc (ls' := [.ref 63, .int x1, .int x2, .int (x3 + 1), .int (h 72 s0.toNatClampNeg)]) d_X8_drift_91 rfl ci_1 rfl rfl).trans <| mX_goto d_X8_drift_94 rfl
theorem b_X8_drift_97 {x1 x2 x3 : Int32} {w4 : Value} {h h' : mn_H} {r : Option Value} : mn_E 162 97 [.ref 63, .int x1, .int x2, .int x3, w4] [] h r h' ↔ ∃ x h1, mn_X 135 [.ref 63, .int x2] h (some (.int x)) h1 ∧ mn_E 162 102 [.ref 63, .int x1, .int x2, .int x3, w4] [.int x] h1 r h' :=
  (mX_aload_n d_X8_drift_97 rfl).trans <| (mX_iload_n d_X8_drift_98 rfl).trans <| mV_i (a := 63) (vs := [.int x2]) (st' := []) d_X8_drift_99 cv_162_114 (Or.inl rfl) (Nat.le_of_ble_eq_true rfl) rfl rfl rfl rfl
theorem b_X8_drift_102 {x1 x2 x3 s0 : Int32} {w4 : Value} {h h' : mn_H} {r : Option Value} : mn_E 162 102 [.ref 63, .int x1, .int x2, .int x3, w4] [.int s0] h r h' ↔ r = some (.int s0) ∧ h' = h :=
  mX_iret d_X8_drift_102 rfl
-- X8_greatest
theorem mo_163 : mO 163 = 8 := rfl
theorem d_X8_greatest_0 : decode (mC 163) 0 = .ok (.aload_n 0, 1) := by decide +kernel
theorem d_X8_greatest_1 : decode (mC 163) 1 = .ok (.invokevirtual 174, 3) := by decide +kernel
theorem d_X8_greatest_4 : decode (mC 163) 4 = .ok (.aload_n 0, 1) := by decide +kernel
theorem d_X8_greatest_5 : decode (mC 163) 5 = .ok (.aload_n 0, 1) := by decide +kernel
theorem d_X8_greatest_6 : decode (mC 163) 6 = .ok (.getfield 39, 3) := by decide +kernel
theorem d_X8_greatest_9 : decode (mC 163) 9 = .ok (.iconst 0, 1) := by decide +kernel
theorem d_X8_greatest_10 : decode (mC 163) 10 = .ok (.iaload, 1) := by decide +kernel
theorem d_X8_greatest_11 : decode (mC 163) 11 = .ok (.invokevirtual 104, 3) := by decide +kernel
theorem d_X8_greatest_14 : decode (mC 163) 14 = .ok (.istore_n 1, 1) := by decide +kernel
theorem d_X8_greatest_15 : decode (mC 163) 15 = .ok (.iconst 1, 1) := by decide +kernel
theorem d_X8_greatest_16 : decode (mC 163) 16 = .ok (.istore_n 2, 1) := by decide +kernel
theorem d_X8_greatest_17 : decode (mC 163) 17 = .ok (.iload_n 2, 1) := by decide +kernel
theorem d_X8_greatest_18 : decode (mC 163) 18 = .ok (.aload_n 0, 1) := by decide +kernel
theorem d_X8_greatest_19 : decode (mC 163) 19 = .ok (.getfield 168, 3) := by decide +kernel
theorem d_X8_greatest_22 : decode (mC 163) 22 = .ok (.if_icmp .ge 31, 3) := by decide +kernel
theorem d_X8_greatest_25 : decode (mC 163) 25 = .ok (.aload_n 0, 1) := by decide +kernel
theorem d_X8_greatest_26 : decode (mC 163) 26 = .ok (.aload_n 0, 1) := by decide +kernel
theorem d_X8_greatest_27 : decode (mC 163) 27 = .ok (.getfield 39, 3) := by decide +kernel
theorem d_X8_greatest_30 : decode (mC 163) 30 = .ok (.iload_n 2, 1) := by decide +kernel
theorem d_X8_greatest_31 : decode (mC 163) 31 = .ok (.iaload, 1) := by decide +kernel
theorem d_X8_greatest_32 : decode (mC 163) 32 = .ok (.invokevirtual 104, 3) := by decide +kernel
theorem d_X8_greatest_35 : decode (mC 163) 35 = .ok (.istore_n 3, 1) := by decide +kernel
theorem d_X8_greatest_36 : decode (mC 163) 36 = .ok (.iload_n 3, 1) := by decide +kernel
theorem d_X8_greatest_37 : decode (mC 163) 37 = .ok (.iload_n 1, 1) := by decide +kernel
theorem d_X8_greatest_38 : decode (mC 163) 38 = .ok (.if_icmp .le 7, 3) := by decide +kernel
theorem d_X8_greatest_41 : decode (mC 163) 41 = .ok (.iload_n 3, 1) := by decide +kernel
theorem d_X8_greatest_42 : decode (mC 163) 42 = .ok (.goto 4, 3) := by decide +kernel
theorem d_X8_greatest_45 : decode (mC 163) 45 = .ok (.iload_n 1, 1) := by decide +kernel
theorem d_X8_greatest_46 : decode (mC 163) 46 = .ok (.istore_n 1, 1) := by decide +kernel
theorem d_X8_greatest_47 : decode (mC 163) 47 = .ok (.iinc 2 1, 3) := by decide +kernel
theorem d_X8_greatest_50 : decode (mC 163) 50 = .ok (.goto (-33), 3) := by decide +kernel
theorem d_X8_greatest_53 : decode (mC 163) 53 = .ok (.iload_n 1, 1) := by decide +kernel
theorem d_X8_greatest_54 : decode (mC 163) 54 = .ok (.ireturn, 1) := by decide +kernel
theorem cv_163_174 : mn_cvt 163 8 174 147 = true := by decide +kernel
theorem fr_163_39 : mn_fr 163 8 39 8 21 = true := by decide +kernel
theorem cv_163_104 : mn_cvt 163 8 104 139 = true := by decide +kernel
theorem fi_163_168 : mn_fi 163 8 168 8 22 = true := by decide +kernel
theorem b_X8_greatest_0 {h h' : mn_H} {r : Option Value} : mn_E 163 0 [.ref 63, .null, .null, .null] [] h r h' ↔ ∃ h1, mn_X 147 [.ref 63] h none h1 ∧ mn_E 163 4 [.ref 63, .null, .null, .null] [] h1 r h' :=
  (mX_aload_n d_X8_greatest_0 rfl).trans <| mV_v (a := 63) (vs := []) (st' := []) d_X8_greatest_1 cv_163_174 rfl (Nat.le_of_ble_eq_true rfl) rfl rfl rfl rfl
theorem b_X8_greatest_4 {h h' : mn_H} {r : Option Value} : mn_E 163 4 [.ref 63, .null, .null, .null] [] h r h' ↔ ∃ x h1, mn_X 139 [.ref 63, .int (h 72 (0 : Int32).toNatClampNeg)] h (some (.int x)) h1 ∧ mn_E 163 14 [.ref 63, .null, .null, .null] [.int x] h1 r h' :=
  (mX_aload_n d_X8_greatest_4 rfl).trans <| (mX_aload_n d_X8_greatest_5 rfl).trans <| (mG_r (b := 72) d_X8_greatest_6 fr_163_39 rfl (by decide) rfl).trans <| (mX_iconst d_X8_greatest_9 ci_0).trans <| (mX_iaload d_X8_greatest_10 rfl (by decide) (mn_in_iff (by decide +kernel))).trans <| mV_i (a := 63) (vs := [.int (h 72 (0 : Int32).toNatClampNeg)]) (st' := []) d_X8_greatest_11 cv_163_104 (Or.inl rfl) (Nat.le_of_ble_eq_true rfl) rfl rfl rfl rfl
theorem b_X8_greatest_14 {s0 : Int32} {h h' : mn_H} {r : Option Value} : mn_E 163 14 [.ref 63, .null, .null, .null] [.int s0] h r h' ↔ mn_E 163 17 [.ref 63, .int s0, .int 1, .null] [] h r h' :=
  (mX_istore_n (ls' := [.ref 63, .int s0, .null, .null]) d_X8_greatest_14 rfl rfl).trans <| (mX_iconst d_X8_greatest_15 ci_1).trans <| mX_istore_n (ls' := [.ref 63, .int s0, .int 1, .null]) d_X8_greatest_16 rfl rfl
theorem b_X8_greatest_17 {x1 x2 : Int32} {w3 : Value} {h h' : mn_H} {r : Option Value} : mn_E 163 17 [.ref 63, .int x1, .int x2, w3] [] h r h' ↔ if (h 63 22) ≤ x2 then mn_E 163 53 [.ref 63, .int x1, .int x2, w3] [] h r h' else mn_E 163 25 [.ref 63, .int x1, .int x2, w3] [] h r h' :=
  (mX_iload_n d_X8_greatest_17 rfl).trans <| (mX_aload_n d_X8_greatest_18 rfl).trans <| (mG_i d_X8_greatest_19 fi_163_168 rfl (by decide)).trans <| mX_icmp_ge d_X8_greatest_22 rfl
theorem b_X8_greatest_25 {x1 x2 : Int32} {w3 : Value} {h h' : mn_H} {r : Option Value} (hy0 : vp_in x2 64) : mn_E 163 25 [.ref 63, .int x1, .int x2, w3] [] h r h' ↔ ∃ x h1, mn_X 139 [.ref 63, .int (h 72 x2.toNatClampNeg)] h (some (.int x)) h1 ∧ mn_E 163 35 [.ref 63, .int x1, .int x2, w3] [.int x] h1 r h' :=
  (mX_aload_n d_X8_greatest_25 rfl).trans <| (mX_aload_n d_X8_greatest_26 rfl).trans <| (mG_r (b := 72) d_X8_greatest_27 fr_163_39 rfl (by decide) rfl).trans <| (mX_iload_n d_X8_greatest_30 rfl).trans <| (mX_iaload d_X8_greatest_31 rfl (by decide) hy0).trans <| mV_i (a := 63) (vs := [.int (h 72 x2.toNatClampNeg)]) (st' := []) d_X8_greatest_32 cv_163_104 (Or.inl rfl) (Nat.le_of_ble_eq_true rfl) rfl rfl rfl rfl
theorem b_X8_greatest_35 {x1 x2 s0 : Int32} {w3 : Value} {h h' : mn_H} {r : Option Value} : mn_E 163 35 [.ref 63, .int x1, .int x2, w3] [.int s0] h r h' ↔ if s0 ≤ x1 then mn_E 163 45 [.ref 63, .int x1, .int x2, .int s0] [] h r h' else mn_E 163 41 [.ref 63, .int x1, .int x2, .int s0] [] h r h' :=
  (mX_istore_n (ls' := [.ref 63, .int x1, .int x2, .int s0]) d_X8_greatest_35 rfl rfl).trans <| (mX_iload_n d_X8_greatest_36 rfl).trans <| (mX_iload_n d_X8_greatest_37 rfl).trans <| mX_icmp_le d_X8_greatest_38 rfl
theorem b_X8_greatest_41 {x1 x2 x3 : Int32} {h h' : mn_H} {r : Option Value} : mn_E 163 41 [.ref 63, .int x1, .int x2, .int x3] [] h r h' ↔ mn_E 163 46 [.ref 63, .int x1, .int x2, .int x3] [.int x3] h r h' :=
  (mX_iload_n d_X8_greatest_41 rfl).trans <| mX_goto d_X8_greatest_42 rfl
theorem b_X8_greatest_45 {x1 x2 x3 : Int32} {h h' : mn_H} {r : Option Value} : mn_E 163 45 [.ref 63, .int x1, .int x2, .int x3] [] h r h' ↔ mn_E 163 46 [.ref 63, .int x1, .int x2, .int x3] [.int x1] h r h' :=
  mX_iload_n d_X8_greatest_45 rfl
theorem b_X8_greatest_46 {x1 x2 x3 s0 : Int32} {h h' : mn_H} {r : Option Value} : mn_E 163 46 [.ref 63, .int x1, .int x2, .int x3] [.int s0] h r h' ↔ mn_E 163 17 [.ref 63, .int s0, .int (x2 + 1), .int x3] [] h r h' :=
  (mX_istore_n (ls' := [.ref 63, .int s0, .int x2, .int x3]) d_X8_greatest_46 rfl rfl).trans <| (mX_iinc (ls' := [.ref 63, .int s0, .int (x2 + 1), .int x3]) d_X8_greatest_47 rfl ci_1 rfl rfl).trans <| mX_goto d_X8_greatest_50 rfl
theorem b_X8_greatest_53 {x1 x2 : Int32} {w3 : Value} {h h' : mn_H} {r : Option Value} : mn_E 163 53 [.ref 63, .int x1, .int x2, w3] [] h r h' ↔ r = some (.int x1) ∧ h' = h :=
  (mX_iload_n d_X8_greatest_53 rfl).trans <| mX_iret d_X8_greatest_54 rfl
-- X8_rule
theorem mo_164 : mO 164 = 8 := rfl
theorem d_X8_rule_0 : decode (mC 164) 0 = .ok (.iload_n 1, 1) := by decide +kernel
theorem d_X8_rule_1 : decode (mC 164) 1 = .ok (.iconst 0, 1) := by decide +kernel
theorem d_X8_rule_2 : decode (mC 164) 2 = .ok (.bipush 6, 2) := by decide +kernel
theorem d_X8_rule_4 : decode (mC 164) 4 = .ok (.invokestatic 46, 3) := by decide +kernel
theorem d_X8_rule_7 : decode (mC 164) 7 = .ok (.ifCond .eq 12, 3) := by decide +kernel
theorem d_X8_rule_10 : decode (mC 164) 10 = .ok (.iload_n 2, 1) := by decide +kernel
theorem d_X8_rule_11 : decode (mC 164) 11 = .ok (.iconst 0, 1) := by decide +kernel
theorem d_X8_rule_12 : decode (mC 164) 12 = .ok (.iconst 1, 1) := by decide +kernel
theorem d_X8_rule_13 : decode (mC 164) 13 = .ok (.invokestatic 46, 3) := by decide +kernel
theorem d_X8_rule_16 : decode (mC 164) 16 = .ok (.ifCond .ne 6, 3) := by decide +kernel
theorem d_X8_rule_19 : decode (mC 164) 19 = .ok (.ldc 50, 2) := by decide +kernel
theorem d_X8_rule_21 : decode (mC 164) 21 = .ok (.ireturn, 1) := by decide +kernel
theorem d_X8_rule_22 : decode (mC 164) 22 = .ok (.aload_n 0, 1) := by decide +kernel
theorem d_X8_rule_23 : decode (mC 164) 23 = .ok (.invokevirtual 107, 3) := by decide +kernel
theorem d_X8_rule_26 : decode (mC 164) 26 = .ok (.aload_n 0, 1) := by decide +kernel
theorem d_X8_rule_27 : decode (mC 164) 27 = .ok (.iconst 0, 1) := by decide +kernel
theorem d_X8_rule_28 : decode (mC 164) 28 = .ok (.putfield 134, 3) := by decide +kernel
theorem d_X8_rule_31 : decode (mC 164) 31 = .ok (.aload_n 0, 1) := by decide +kernel
theorem d_X8_rule_32 : decode (mC 164) 32 = .ok (.invokevirtual 191, 3) := by decide +kernel
theorem d_X8_rule_35 : decode (mC 164) 35 = .ok (.istore_n 3, 1) := by decide +kernel
theorem d_X8_rule_36 : decode (mC 164) 36 = .ok (.iconst 0, 1) := by decide +kernel
theorem d_X8_rule_37 : decode (mC 164) 37 = .ok (.istore 4, 2) := by decide +kernel
theorem d_X8_rule_39 : decode (mC 164) 39 = .ok (.iconst 1, 1) := by decide +kernel
theorem d_X8_rule_40 : decode (mC 164) 40 = .ok (.istore 5, 2) := by decide +kernel
theorem d_X8_rule_42 : decode (mC 164) 42 = .ok (.iload 5, 2) := by decide +kernel
theorem d_X8_rule_44 : decode (mC 164) 44 = .ok (.iload_n 1, 1) := by decide +kernel
theorem d_X8_rule_45 : decode (mC 164) 45 = .ok (.if_icmp .gt 81, 3) := by decide +kernel
theorem d_X8_rule_48 : decode (mC 164) 48 = .ok (.iconst 1, 1) := by decide +kernel
theorem d_X8_rule_49 : decode (mC 164) 49 = .ok (.istore 6, 2) := by decide +kernel
theorem d_X8_rule_51 : decode (mC 164) 51 = .ok (.aload_n 0, 1) := by decide +kernel
theorem d_X8_rule_52 : decode (mC 164) 52 = .ok (.iload 6, 2) := by decide +kernel
theorem d_X8_rule_54 : decode (mC 164) 54 = .ok (.invokevirtual 182, 3) := by decide +kernel
theorem d_X8_rule_57 : decode (mC 164) 57 = .ok (.ifCond .eq 63, 3) := by decide +kernel
theorem d_X8_rule_60 : decode (mC 164) 60 = .ok (.aload_n 0, 1) := by decide +kernel
theorem d_X8_rule_61 : decode (mC 164) 61 = .ok (.iload 6, 2) := by decide +kernel
theorem d_X8_rule_63 : decode (mC 164) 63 = .ok (.putfield 134, 3) := by decide +kernel
theorem d_X8_rule_66 : decode (mC 164) 66 = .ok (.iload 6, 2) := by decide +kernel
theorem d_X8_rule_68 : decode (mC 164) 68 = .ok (.invokestatic 194, 3) := by decide +kernel
theorem d_X8_rule_71 : decode (mC 164) 71 = .ok (.iload 5, 2) := by decide +kernel
theorem d_X8_rule_73 : decode (mC 164) 73 = .ok (.if_icmp .ne 10, 3) := by decide +kernel
theorem d_X8_rule_76 : decode (mC 164) 76 = .ok (.aload_n 0, 1) := by decide +kernel
theorem d_X8_rule_77 : decode (mC 164) 77 = .ok (.invokevirtual 191, 3) := by decide +kernel
theorem d_X8_rule_80 : decode (mC 164) 80 = .ok (.goto 4, 3) := by decide +kernel
theorem d_X8_rule_83 : decode (mC 164) 83 = .ok (.iload_n 3, 1) := by decide +kernel
theorem d_X8_rule_84 : decode (mC 164) 84 = .ok (.istore 7, 2) := by decide +kernel
theorem d_X8_rule_86 : decode (mC 164) 86 = .ok (.iload 7, 2) := by decide +kernel
theorem d_X8_rule_88 : decode (mC 164) 88 = .ok (.iload_n 3, 1) := by decide +kernel
theorem d_X8_rule_89 : decode (mC 164) 89 = .ok (.if_icmp .ge 8, 3) := by decide +kernel
theorem d_X8_rule_92 : decode (mC 164) 92 = .ok (.iload 6, 2) := by decide +kernel
theorem d_X8_rule_94 : decode (mC 164) 94 = .ok (.goto 5, 3) := by decide +kernel
theorem d_X8_rule_97 : decode (mC 164) 97 = .ok (.iload 4, 2) := by decide +kernel
theorem d_X8_rule_99 : decode (mC 164) 99 = .ok (.istore 4, 2) := by decide +kernel
theorem d_X8_rule_101 : decode (mC 164) 101 = .ok (.iload 7, 2) := by decide +kernel
theorem d_X8_rule_103 : decode (mC 164) 103 = .ok (.iload_n 3, 1) := by decide +kernel
theorem d_X8_rule_104 : decode (mC 164) 104 = .ok (.if_icmp .ge 8, 3) := by decide +kernel
theorem d_X8_rule_107 : decode (mC 164) 107 = .ok (.iload 7, 2) := by decide +kernel
theorem d_X8_rule_109 : decode (mC 164) 109 = .ok (.goto 4, 3) := by decide +kernel
theorem d_X8_rule_112 : decode (mC 164) 112 = .ok (.iload_n 3, 1) := by decide +kernel
theorem d_X8_rule_113 : decode (mC 164) 113 = .ok (.istore_n 3, 1) := by decide +kernel
theorem d_X8_rule_114 : decode (mC 164) 114 = .ok (.iinc 6 1, 3) := by decide +kernel
theorem d_X8_rule_117 : decode (mC 164) 117 = .ok (.goto (-66), 3) := by decide +kernel
theorem d_X8_rule_120 : decode (mC 164) 120 = .ok (.iinc 5 1, 3) := by decide +kernel
theorem d_X8_rule_123 : decode (mC 164) 123 = .ok (.goto (-81), 3) := by decide +kernel
theorem d_X8_rule_126 : decode (mC 164) 126 = .ok (.iload_n 2, 1) := by decide +kernel
theorem d_X8_rule_127 : decode (mC 164) 127 = .ok (.ifCond .ne 7, 3) := by decide +kernel
theorem d_X8_rule_130 : decode (mC 164) 130 = .ok (.iload_n 3, 1) := by decide +kernel
theorem d_X8_rule_131 : decode (mC 164) 131 = .ok (.goto 5, 3) := by decide +kernel
theorem d_X8_rule_134 : decode (mC 164) 134 = .ok (.iload 4, 2) := by decide +kernel
theorem d_X8_rule_136 : decode (mC 164) 136 = .ok (.ireturn, 1) := by decide +kernel
theorem cs_164_46 : mn_cs 164 8 46 114 = true := by decide +kernel
theorem cv_164_107 : mn_cvt 164 8 107 141 = true := by decide +kernel
theorem fi_164_134 : mn_fi 164 8 134 8 14 = true := by decide +kernel
theorem cv_164_191 : mn_cvt 164 8 191 163 = true := by decide +kernel
theorem cv_164_182 : mn_cvt 164 8 182 159 = true := by decide +kernel
theorem cs_164_194 : mn_cs 164 8 194 118 = true := by decide +kernel
theorem b_X8_rule_0 {x1 x2 : Int32} {h h' : mn_H} {r : Option Value} : mn_E 164 0 [.ref 63, .int x1, .int x2, .null, .null, .null, .null, .null] [] h r h' ↔ ∃ x h1, mn_X 114 [.int x1, .int 0, .int 6] h (some (.int x)) h1 ∧ mn_E 164 7 [.ref 63, .int x1, .int x2, .null, .null, .null, .null, .null] [.int x] h1 r h' :=
  (mX_iload_n d_X8_rule_0 rfl).trans <| (mX_iconst d_X8_rule_1 ci_0).trans <| (mX_bipush d_X8_rule_2 cb_6).trans <| mS_i (vs := [.int x1, .int 0, .int 6]) (st' := []) d_X8_rule_4 cs_164_46 (Or.inr (Or.inl rfl)) (Nat.le_of_ble_eq_true rfl) rfl rfl rfl
theorem b_X8_rule_7 {x1 x2 s0 : Int32} {h h' : mn_H} {r : Option Value} : mn_E 164 7 [.ref 63, .int x1, .int x2, .null, .null, .null, .null, .null] [.int s0] h r h' ↔ if s0 = 0 then mn_E 164 19 [.ref 63, .int x1, .int x2, .null, .null, .null, .null, .null] [] h r h' else mn_E 164 10 [.ref 63, .int x1, .int x2, .null, .null, .null, .null, .null] [] h r h' :=
  mX_if_eq d_X8_rule_7 rfl
theorem b_X8_rule_10 {x1 x2 : Int32} {h h' : mn_H} {r : Option Value} : mn_E 164 10 [.ref 63, .int x1, .int x2, .null, .null, .null, .null, .null] [] h r h' ↔ ∃ x h1, mn_X 114 [.int x2, .int 0, .int 1] h (some (.int x)) h1 ∧ mn_E 164 16 [.ref 63, .int x1, .int x2, .null, .null, .null, .null, .null] [.int x] h1 r h' :=
  (mX_iload_n d_X8_rule_10 rfl).trans <| (mX_iconst d_X8_rule_11 ci_0).trans <| (mX_iconst d_X8_rule_12 ci_1).trans <| mS_i (vs := [.int x2, .int 0, .int 1]) (st' := []) d_X8_rule_13 cs_164_46 (Or.inr (Or.inl rfl)) (Nat.le_of_ble_eq_true rfl) rfl rfl rfl
theorem b_X8_rule_16 {x1 x2 s0 : Int32} {h h' : mn_H} {r : Option Value} : mn_E 164 16 [.ref 63, .int x1, .int x2, .null, .null, .null, .null, .null] [.int s0] h r h' ↔ if ¬ s0 = 0 then mn_E 164 22 [.ref 63, .int x1, .int x2, .null, .null, .null, .null, .null] [] h r h' else mn_E 164 19 [.ref 63, .int x1, .int x2, .null, .null, .null, .null, .null] [] h r h' :=
  mX_if_ne d_X8_rule_16 rfl
theorem b_X8_rule_19 {x1 x2 : Int32} {h h' : mn_H} {r : Option Value} : mn_E 164 19 [.ref 63, .int x1, .int x2, .null, .null, .null, .null, .null] [] h r h' ↔ r = some (.int (-1000000002)) ∧ h' = h :=
  (mX_ldc d_X8_rule_19 mo_164 kc_8_50 (by decide)).trans <| mX_iret d_X8_rule_21 rfl
theorem b_X8_rule_22 {x1 x2 : Int32} {h h' : mn_H} {r : Option Value} : mn_E 164 22 [.ref 63, .int x1, .int x2, .null, .null, .null, .null, .null] [] h r h' ↔ ∃ h1, mn_X 141 [.ref 63] h none h1 ∧ mn_E 164 26 [.ref 63, .int x1, .int x2, .null, .null, .null, .null, .null] [] h1 r h' :=
  (mX_aload_n d_X8_rule_22 rfl).trans <| mV_v (a := 63) (vs := []) (st' := []) d_X8_rule_23 cv_164_107 rfl (Nat.le_of_ble_eq_true rfl) rfl rfl rfl rfl
theorem b_X8_rule_26 {x1 x2 : Int32} {h h' : mn_H} {r : Option Value} : mn_E 164 26 [.ref 63, .int x1, .int x2, .null, .null, .null, .null, .null] [] h r h' ↔ ∃ x h1, mn_X 163 [.ref 63] (mn_up h 63 14 0) (some (.int x)) h1 ∧ mn_E 164 35 [.ref 63, .int x1, .int x2, .null, .null, .null, .null, .null] [.int x] h1 r h' :=
  (mX_aload_n d_X8_rule_26 rfl).trans <| (mX_iconst d_X8_rule_27 ci_0).trans <| (mP_i d_X8_rule_28 fi_164_134 rfl (by decide) rfl (Or.inl (by decide))).trans <| (mX_aload_n d_X8_rule_31 rfl).trans <| mV_i (a := 63) (vs := []) (st' := []) d_X8_rule_32 cv_164_191 (Or.inl rfl) (Nat.le_of_ble_eq_true rfl) rfl rfl rfl rfl
theorem b_X8_rule_35 {x1 x2 s0 : Int32} {h h' : mn_H} {r : Option Value} : mn_E 164 35 [.ref 63, .int x1, .int x2, .null, .null, .null, .null, .null] [.int s0] h r h' ↔ mn_E 164 42 [.ref 63, .int x1, .int x2, .int s0, .int 0, .int 1, .null, .null] [] h r h' :=
  (mX_istore_n (ls' := [.ref 63, .int x1, .int x2, .int s0, .null, .null, .null, .null]) d_X8_rule_35 rfl rfl).trans <| (mX_iconst d_X8_rule_36 ci_0).trans <| (mX_istore (ls' := [.ref 63, .int x1, .int x2, .int s0, .int 0, .null, .null, .null]) d_X8_rule_37 rfl rfl).trans <| (mX_iconst d_X8_rule_39 ci_1).trans <| mX_istore (ls' := [.ref 63, .int x1, .int x2, .int s0, .int 0, .int 1, .null, .null]) d_X8_rule_40 rfl rfl
theorem b_X8_rule_42 {x1 x2 x3 x4 x5 : Int32} {w6 w7 : Value} {h h' : mn_H} {r : Option Value} : mn_E 164 42 [.ref 63, .int x1, .int x2, .int x3, .int x4, .int x5, w6, w7] [] h r h' ↔ if x1 < x5 then mn_E 164 126 [.ref 63, .int x1, .int x2, .int x3, .int x4, .int x5, w6, w7] [] h r h' else mn_E 164 48 [.ref 63, .int x1, .int x2, .int x3, .int x4, .int x5, w6, w7] [] h r h' :=
  (mX_iload d_X8_rule_42 rfl).trans <| (mX_iload_n d_X8_rule_44 rfl).trans <| mX_icmp_gt d_X8_rule_45 rfl
theorem b_X8_rule_48 {x1 x2 x3 x4 x5 : Int32} {w6 w7 : Value} {h h' : mn_H} {r : Option Value} : mn_E 164 48 [.ref 63, .int x1, .int x2, .int x3, .int x4, .int x5, w6, w7] [] h r h' ↔ mn_E 164 51 [.ref 63, .int x1, .int x2, .int x3, .int x4, .int x5, .int 1, w7] [] h r h' :=
  (mX_iconst d_X8_rule_48 ci_1).trans <| mX_istore (ls' := [.ref 63, .int x1, .int x2, .int x3, .int x4, .int x5, .int 1, w7]) d_X8_rule_49 rfl rfl
theorem b_X8_rule_51 {x1 x2 x3 x4 x5 x6 : Int32} {w7 : Value} {h h' : mn_H} {r : Option Value} : mn_E 164 51 [.ref 63, .int x1, .int x2, .int x3, .int x4, .int x5, .int x6, w7] [] h r h' ↔ ∃ x h1, mn_X 159 [.ref 63, .int x6] h (some (.int x)) h1 ∧ mn_E 164 57 [.ref 63, .int x1, .int x2, .int x3, .int x4, .int x5, .int x6, w7] [.int x] h1 r h' :=
  (mX_aload_n d_X8_rule_51 rfl).trans <| (mX_iload d_X8_rule_52 rfl).trans <| mV_i (a := 63) (vs := [.int x6]) (st' := []) d_X8_rule_54 cv_164_182 (Or.inr (Or.inl rfl)) (Nat.le_of_ble_eq_true rfl) rfl rfl rfl rfl
theorem b_X8_rule_57 {x1 x2 x3 x4 x5 x6 s0 : Int32} {w7 : Value} {h h' : mn_H} {r : Option Value} : mn_E 164 57 [.ref 63, .int x1, .int x2, .int x3, .int x4, .int x5, .int x6, w7] [.int s0] h r h' ↔ if s0 = 0 then mn_E 164 120 [.ref 63, .int x1, .int x2, .int x3, .int x4, .int x5, .int x6, w7] [] h r h' else mn_E 164 60 [.ref 63, .int x1, .int x2, .int x3, .int x4, .int x5, .int x6, w7] [] h r h' :=
  mX_if_eq d_X8_rule_57 rfl
theorem b_X8_rule_60 {x1 x2 x3 x4 x5 x6 : Int32} {w7 : Value} {h h' : mn_H} {r : Option Value} : mn_E 164 60 [.ref 63, .int x1, .int x2, .int x3, .int x4, .int x5, .int x6, w7] [] h r h' ↔ ∃ x h1, mn_X 118 [.int x6] (mn_up h 63 14 x6) (some (.int x)) h1 ∧ mn_E 164 71 [.ref 63, .int x1, .int x2, .int x3, .int x4, .int x5, .int x6, w7] [.int x] h1 r h' :=
  (mX_aload_n d_X8_rule_60 rfl).trans <| (mX_iload d_X8_rule_61 rfl).trans <| (mP_i d_X8_rule_63 fi_164_134 rfl (by decide) rfl (Or.inl (by decide))).trans <| (mX_iload d_X8_rule_66 rfl).trans <| mS_i (vs := [.int x6]) (st' := []) d_X8_rule_68 cs_164_194 (Or.inl rfl) (Nat.le_of_ble_eq_true rfl) rfl rfl rfl
theorem b_X8_rule_71 {x1 x2 x3 x4 x5 x6 s0 : Int32} {w7 : Value} {h h' : mn_H} {r : Option Value} : mn_E 164 71 [.ref 63, .int x1, .int x2, .int x3, .int x4, .int x5, .int x6, w7] [.int s0] h r h' ↔ if ¬ s0 = x5 then mn_E 164 83 [.ref 63, .int x1, .int x2, .int x3, .int x4, .int x5, .int x6, w7] [] h r h' else mn_E 164 76 [.ref 63, .int x1, .int x2, .int x3, .int x4, .int x5, .int x6, w7] [] h r h' :=
  (mX_iload d_X8_rule_71 rfl).trans <| mX_icmp_ne d_X8_rule_73 rfl
theorem b_X8_rule_76 {x1 x2 x3 x4 x5 x6 : Int32} {w7 : Value} {h h' : mn_H} {r : Option Value} : mn_E 164 76 [.ref 63, .int x1, .int x2, .int x3, .int x4, .int x5, .int x6, w7] [] h r h' ↔ ∃ x h1, mn_X 163 [.ref 63] h (some (.int x)) h1 ∧ mn_E 164 80 [.ref 63, .int x1, .int x2, .int x3, .int x4, .int x5, .int x6, w7] [.int x] h1 r h' :=
  (mX_aload_n d_X8_rule_76 rfl).trans <| mV_i (a := 63) (vs := []) (st' := []) d_X8_rule_77 cv_164_191 (Or.inl rfl) (Nat.le_of_ble_eq_true rfl) rfl rfl rfl rfl
theorem b_X8_rule_80 {x1 x2 x3 x4 x5 x6 s0 : Int32} {w7 : Value} {h h' : mn_H} {r : Option Value} : mn_E 164 80 [.ref 63, .int x1, .int x2, .int x3, .int x4, .int x5, .int x6, w7] [.int s0] h r h' ↔ mn_E 164 84 [.ref 63, .int x1, .int x2, .int x3, .int x4, .int x5, .int x6, w7] [.int s0] h r h' :=
  mX_goto d_X8_rule_80 rfl
theorem b_X8_rule_83 {x1 x2 x3 x4 x5 x6 : Int32} {w7 : Value} {h h' : mn_H} {r : Option Value} : mn_E 164 83 [.ref 63, .int x1, .int x2, .int x3, .int x4, .int x5, .int x6, w7] [] h r h' ↔ mn_E 164 84 [.ref 63, .int x1, .int x2, .int x3, .int x4, .int x5, .int x6, w7] [.int x3] h r h' :=
  mX_iload_n d_X8_rule_83 rfl
theorem b_X8_rule_84 {x1 x2 x3 x4 x5 x6 s0 : Int32} {w7 : Value} {h h' : mn_H} {r : Option Value} : mn_E 164 84 [.ref 63, .int x1, .int x2, .int x3, .int x4, .int x5, .int x6, w7] [.int s0] h r h' ↔ if x3 ≤ s0 then mn_E 164 97 [.ref 63, .int x1, .int x2, .int x3, .int x4, .int x5, .int x6, .int s0] [] h r h' else mn_E 164 92 [.ref 63, .int x1, .int x2, .int x3, .int x4, .int x5, .int x6, .int s0] [] h r h' :=
  (mX_istore (ls' := [.ref 63, .int x1, .int x2, .int x3, .int x4, .int x5, .int x6, .int s0]) d_X8_rule_84 rfl rfl).trans <| (mX_iload d_X8_rule_86 rfl).trans <| (mX_iload_n d_X8_rule_88 rfl).trans <| mX_icmp_ge d_X8_rule_89 rfl
theorem b_X8_rule_92 {x1 x2 x3 x4 x5 x6 x7 : Int32} {h h' : mn_H} {r : Option Value} : mn_E 164 92 [.ref 63, .int x1, .int x2, .int x3, .int x4, .int x5, .int x6, .int x7] [] h r h' ↔ mn_E 164 99 [.ref 63, .int x1, .int x2, .int x3, .int x4, .int x5, .int x6, .int x7] [.int x6] h r h' :=
  (mX_iload d_X8_rule_92 rfl).trans <| mX_goto d_X8_rule_94 rfl
theorem b_X8_rule_97 {x1 x2 x3 x4 x5 x6 x7 : Int32} {h h' : mn_H} {r : Option Value} : mn_E 164 97 [.ref 63, .int x1, .int x2, .int x3, .int x4, .int x5, .int x6, .int x7] [] h r h' ↔ mn_E 164 99 [.ref 63, .int x1, .int x2, .int x3, .int x4, .int x5, .int x6, .int x7] [.int x4] h r h' :=
  mX_iload d_X8_rule_97 rfl
theorem b_X8_rule_99 {x1 x2 x3 x4 x5 x6 x7 s0 : Int32} {h h' : mn_H} {r : Option Value} : mn_E 164 99 [.ref 63, .int x1, .int x2, .int x3, .int x4, .int x5, .int x6, .int x7] [.int s0] h r h' ↔ if x3 ≤ x7 then mn_E 164 112 [.ref 63, .int x1, .int x2, .int x3, .int s0, .int x5, .int x6, .int x7] [] h r h' else mn_E 164 107 [.ref 63, .int x1, .int x2, .int x3, .int s0, .int x5, .int x6, .int x7] [] h r h' :=
  (mX_istore (ls' := [.ref 63, .int x1, .int x2, .int x3, .int s0, .int x5, .int x6, .int x7]) d_X8_rule_99 rfl rfl).trans <| (mX_iload d_X8_rule_101 rfl).trans <| (mX_iload_n d_X8_rule_103 rfl).trans <| mX_icmp_ge d_X8_rule_104 rfl
theorem b_X8_rule_107 {x1 x2 x3 x4 x5 x6 x7 : Int32} {h h' : mn_H} {r : Option Value} : mn_E 164 107 [.ref 63, .int x1, .int x2, .int x3, .int x4, .int x5, .int x6, .int x7] [] h r h' ↔ mn_E 164 113 [.ref 63, .int x1, .int x2, .int x3, .int x4, .int x5, .int x6, .int x7] [.int x7] h r h' :=
  (mX_iload d_X8_rule_107 rfl).trans <| mX_goto d_X8_rule_109 rfl
theorem b_X8_rule_112 {x1 x2 x3 x4 x5 x6 x7 : Int32} {h h' : mn_H} {r : Option Value} : mn_E 164 112 [.ref 63, .int x1, .int x2, .int x3, .int x4, .int x5, .int x6, .int x7] [] h r h' ↔ mn_E 164 113 [.ref 63, .int x1, .int x2, .int x3, .int x4, .int x5, .int x6, .int x7] [.int x3] h r h' :=
  mX_iload_n d_X8_rule_112 rfl
theorem b_X8_rule_113 {x1 x2 x3 x4 x5 x6 x7 s0 : Int32} {h h' : mn_H} {r : Option Value} : mn_E 164 113 [.ref 63, .int x1, .int x2, .int x3, .int x4, .int x5, .int x6, .int x7] [.int s0] h r h' ↔ mn_E 164 51 [.ref 63, .int x1, .int x2, .int s0, .int x4, .int x5, .int (x6 + 1), .int x7] [] h r h' :=
  (mX_istore_n (ls' := [.ref 63, .int x1, .int x2, .int s0, .int x4, .int x5, .int x6, .int x7]) d_X8_rule_113 rfl rfl).trans <| (mX_iinc (ls' := [.ref 63, .int x1, .int x2, .int s0, .int x4, .int x5, .int (x6 + 1), .int x7]) d_X8_rule_114 rfl ci_1 rfl rfl).trans <| mX_goto d_X8_rule_117 rfl
theorem b_X8_rule_120 {x1 x2 x3 x4 x5 x6 : Int32} {w7 : Value} {h h' : mn_H} {r : Option Value} : mn_E 164 120 [.ref 63, .int x1, .int x2, .int x3, .int x4, .int x5, .int x6, w7] [] h r h' ↔ mn_E 164 42 [.ref 63, .int x1, .int x2, .int x3, .int x4, .int (x5 + 1), .int x6, w7] [] h r h' :=
  (mX_iinc (ls' := [.ref 63, .int x1, .int x2, .int x3, .int x4, .int (x5 + 1), .int x6, w7]) d_X8_rule_120 rfl ci_1 rfl rfl).trans <| mX_goto d_X8_rule_123 rfl
theorem b_X8_rule_126 {x1 x2 x3 x4 x5 : Int32} {w6 w7 : Value} {h h' : mn_H} {r : Option Value} : mn_E 164 126 [.ref 63, .int x1, .int x2, .int x3, .int x4, .int x5, w6, w7] [] h r h' ↔ if ¬ x2 = 0 then mn_E 164 134 [.ref 63, .int x1, .int x2, .int x3, .int x4, .int x5, w6, w7] [] h r h' else mn_E 164 130 [.ref 63, .int x1, .int x2, .int x3, .int x4, .int x5, w6, w7] [] h r h' :=
  (mX_iload_n d_X8_rule_126 rfl).trans <| mX_if_ne d_X8_rule_127 rfl
theorem b_X8_rule_130 {x1 x2 x3 x4 x5 : Int32} {w6 w7 : Value} {h h' : mn_H} {r : Option Value} : mn_E 164 130 [.ref 63, .int x1, .int x2, .int x3, .int x4, .int x5, w6, w7] [] h r h' ↔ mn_E 164 136 [.ref 63, .int x1, .int x2, .int x3, .int x4, .int x5, w6, w7] [.int x3] h r h' :=
  (mX_iload_n d_X8_rule_130 rfl).trans <| mX_goto d_X8_rule_131 rfl
theorem b_X8_rule_134 {x1 x2 x3 x4 x5 : Int32} {w6 w7 : Value} {h h' : mn_H} {r : Option Value} : mn_E 164 134 [.ref 63, .int x1, .int x2, .int x3, .int x4, .int x5, w6, w7] [] h r h' ↔ mn_E 164 136 [.ref 63, .int x1, .int x2, .int x3, .int x4, .int x5, w6, w7] [.int x4] h r h' :=
  mX_iload d_X8_rule_134 rfl
theorem b_X8_rule_136 {x1 x2 x3 x4 x5 s0 : Int32} {w6 w7 : Value} {h h' : mn_H} {r : Option Value} : mn_E 164 136 [.ref 63, .int x1, .int x2, .int x3, .int x4, .int x5, w6, w7] [.int s0] h r h' ↔ r = some (.int s0) ∧ h' = h :=
  mX_iret d_X8_rule_136 rfl
-- X8_hush
theorem mo_165 : mO 165 = 8 := rfl
theorem d_X8_hush_0 : decode (mC 165) 0 = .ok (.iload_n 1, 1) := by decide +kernel
theorem d_X8_hush_1 : decode (mC 165) 1 = .ok (.iconst 0, 1) := by decide +kernel
theorem d_X8_hush_2 : decode (mC 165) 2 = .ok (.iconst 5, 1) := by decide +kernel
theorem d_X8_hush_3 : decode (mC 165) 3 = .ok (.invokestatic 46, 3) := by decide +kernel
theorem d_X8_hush_6 : decode (mC 165) 6 = .ok (.ifCond .eq 12, 3) := by decide +kernel
theorem d_X8_hush_9 : decode (mC 165) 9 = .ok (.iload_n 2, 1) := by decide +kernel
theorem d_X8_hush_10 : decode (mC 165) 10 = .ok (.iconst 0, 1) := by decide +kernel
theorem d_X8_hush_11 : decode (mC 165) 11 = .ok (.iconst 1, 1) := by decide +kernel
theorem d_X8_hush_12 : decode (mC 165) 12 = .ok (.invokestatic 46, 3) := by decide +kernel
theorem d_X8_hush_15 : decode (mC 165) 15 = .ok (.ifCond .ne 6, 3) := by decide +kernel
theorem d_X8_hush_18 : decode (mC 165) 18 = .ok (.ldc 50, 2) := by decide +kernel
theorem d_X8_hush_20 : decode (mC 165) 20 = .ok (.ireturn, 1) := by decide +kernel
theorem d_X8_hush_21 : decode (mC 165) 21 = .ok (.aload_n 0, 1) := by decide +kernel
theorem d_X8_hush_22 : decode (mC 165) 22 = .ok (.invokevirtual 107, 3) := by decide +kernel
theorem d_X8_hush_25 : decode (mC 165) 25 = .ok (.iconst (-1), 1) := by decide +kernel
theorem d_X8_hush_26 : decode (mC 165) 26 = .ok (.istore_n 3, 1) := by decide +kernel
theorem d_X8_hush_27 : decode (mC 165) 27 = .ok (.iconst 0, 1) := by decide +kernel
theorem d_X8_hush_28 : decode (mC 165) 28 = .ok (.istore 4, 2) := by decide +kernel
theorem d_X8_hush_30 : decode (mC 165) 30 = .ok (.aload_n 0, 1) := by decide +kernel
theorem d_X8_hush_31 : decode (mC 165) 31 = .ok (.iload 4, 2) := by decide +kernel
theorem d_X8_hush_33 : decode (mC 165) 33 = .ok (.invokevirtual 182, 3) := by decide +kernel
theorem d_X8_hush_36 : decode (mC 165) 36 = .ok (.ifCond .eq 86, 3) := by decide +kernel
theorem d_X8_hush_39 : decode (mC 165) 39 = .ok (.aload_n 0, 1) := by decide +kernel
theorem d_X8_hush_40 : decode (mC 165) 40 = .ok (.aload_n 0, 1) := by decide +kernel
theorem d_X8_hush_41 : decode (mC 165) 41 = .ok (.getfield 19, 3) := by decide +kernel
theorem d_X8_hush_44 : decode (mC 165) 44 = .ok (.iconst 1, 1) := by decide +kernel
theorem d_X8_hush_45 : decode (mC 165) 45 = .ok (.iaload, 1) := by decide +kernel
theorem d_X8_hush_46 : decode (mC 165) 46 = .ok (.iload 4, 2) := by decide +kernel
theorem d_X8_hush_48 : decode (mC 165) 48 = .ok (.ior, 1) := by decide +kernel
theorem d_X8_hush_49 : decode (mC 165) 49 = .ok (.putfield 131, 3) := by decide +kernel
theorem d_X8_hush_52 : decode (mC 165) 52 = .ok (.iload 4, 2) := by decide +kernel
theorem d_X8_hush_54 : decode (mC 165) 54 = .ok (.aload_n 0, 1) := by decide +kernel
theorem d_X8_hush_55 : decode (mC 165) 55 = .ok (.getfield 19, 3) := by decide +kernel
theorem d_X8_hush_58 : decode (mC 165) 58 = .ok (.iconst 1, 1) := by decide +kernel
theorem d_X8_hush_59 : decode (mC 165) 59 = .ok (.iaload, 1) := by decide +kernel
theorem d_X8_hush_60 : decode (mC 165) 60 = .ok (.iand, 1) := by decide +kernel
theorem d_X8_hush_61 : decode (mC 165) 61 = .ok (.ifCond .ne 24, 3) := by decide +kernel
theorem d_X8_hush_64 : decode (mC 165) 64 = .ok (.iload_n 3, 1) := by decide +kernel
theorem d_X8_hush_65 : decode (mC 165) 65 = .ok (.iconst (-1), 1) := by decide +kernel
theorem d_X8_hush_66 : decode (mC 165) 66 = .ok (.if_icmp .eq 15, 3) := by decide +kernel
theorem d_X8_hush_69 : decode (mC 165) 69 = .ok (.iload 4, 2) := by decide +kernel
theorem d_X8_hush_71 : decode (mC 165) 71 = .ok (.invokestatic 194, 3) := by decide +kernel
theorem d_X8_hush_74 : decode (mC 165) 74 = .ok (.iload_n 3, 1) := by decide +kernel
theorem d_X8_hush_75 : decode (mC 165) 75 = .ok (.invokestatic 194, 3) := by decide +kernel
theorem d_X8_hush_78 : decode (mC 165) 78 = .ok (.if_icmp .ge 7, 3) := by decide +kernel
theorem d_X8_hush_81 : decode (mC 165) 81 = .ok (.iconst 1, 1) := by decide +kernel
theorem d_X8_hush_82 : decode (mC 165) 82 = .ok (.goto 4, 3) := by decide +kernel
theorem d_X8_hush_85 : decode (mC 165) 85 = .ok (.iconst 0, 1) := by decide +kernel
theorem d_X8_hush_86 : decode (mC 165) 86 = .ok (.istore 5, 2) := by decide +kernel
theorem d_X8_hush_88 : decode (mC 165) 88 = .ok (.iload 5, 2) := by decide +kernel
theorem d_X8_hush_90 : decode (mC 165) 90 = .ok (.ifCond .eq 26, 3) := by decide +kernel
theorem d_X8_hush_93 : decode (mC 165) 93 = .ok (.aload_n 0, 1) := by decide +kernel
theorem d_X8_hush_94 : decode (mC 165) 94 = .ok (.invokevirtual 174, 3) := by decide +kernel
theorem d_X8_hush_97 : decode (mC 165) 97 = .ok (.aload_n 0, 1) := by decide +kernel
theorem d_X8_hush_98 : decode (mC 165) 98 = .ok (.iconst 0, 1) := by decide +kernel
theorem d_X8_hush_99 : decode (mC 165) 99 = .ok (.invokevirtual 177, 3) := by decide +kernel
theorem d_X8_hush_102 : decode (mC 165) 102 = .ok (.iload_n 1, 1) := by decide +kernel
theorem d_X8_hush_103 : decode (mC 165) 103 = .ok (.ishr, 1) := by decide +kernel
theorem d_X8_hush_104 : decode (mC 165) 104 = .ok (.iconst 1, 1) := by decide +kernel
theorem d_X8_hush_105 : decode (mC 165) 105 = .ok (.iand, 1) := by decide +kernel
theorem d_X8_hush_106 : decode (mC 165) 106 = .ok (.ifCond .ne 8, 3) := by decide +kernel
theorem d_X8_hush_109 : decode (mC 165) 109 = .ok (.iload 4, 2) := by decide +kernel
theorem d_X8_hush_111 : decode (mC 165) 111 = .ok (.goto 4, 3) := by decide +kernel
theorem d_X8_hush_114 : decode (mC 165) 114 = .ok (.iload_n 3, 1) := by decide +kernel
theorem d_X8_hush_115 : decode (mC 165) 115 = .ok (.istore_n 3, 1) := by decide +kernel
theorem d_X8_hush_116 : decode (mC 165) 116 = .ok (.iinc 4 1, 3) := by decide +kernel
theorem d_X8_hush_119 : decode (mC 165) 119 = .ok (.goto (-89), 3) := by decide +kernel
theorem d_X8_hush_122 : decode (mC 165) 122 = .ok (.iload_n 3, 1) := by decide +kernel
theorem d_X8_hush_123 : decode (mC 165) 123 = .ok (.iconst (-1), 1) := by decide +kernel
theorem d_X8_hush_124 : decode (mC 165) 124 = .ok (.if_icmp .ne 7, 3) := by decide +kernel
theorem d_X8_hush_127 : decode (mC 165) 127 = .ok (.iconst (-1), 1) := by decide +kernel
theorem d_X8_hush_128 : decode (mC 165) 128 = .ok (.goto 15, 3) := by decide +kernel
theorem d_X8_hush_131 : decode (mC 165) 131 = .ok (.iload_n 2, 1) := by decide +kernel
theorem d_X8_hush_132 : decode (mC 165) 132 = .ok (.ifCond .ne 10, 3) := by decide +kernel
theorem d_X8_hush_135 : decode (mC 165) 135 = .ok (.iload_n 3, 1) := by decide +kernel
theorem d_X8_hush_136 : decode (mC 165) 136 = .ok (.invokestatic 194, 3) := by decide +kernel
theorem d_X8_hush_139 : decode (mC 165) 139 = .ok (.goto 4, 3) := by decide +kernel
theorem d_X8_hush_142 : decode (mC 165) 142 = .ok (.iload_n 3, 1) := by decide +kernel
theorem d_X8_hush_143 : decode (mC 165) 143 = .ok (.ireturn, 1) := by decide +kernel
theorem cs_165_46 : mn_cs 165 8 46 114 = true := by decide +kernel
theorem cv_165_107 : mn_cvt 165 8 107 141 = true := by decide +kernel
theorem cv_165_182 : mn_cvt 165 8 182 159 = true := by decide +kernel
theorem fr_165_19 : mn_fr 165 8 19 8 4 = true := by decide +kernel
theorem fi_165_131 : mn_fi 165 8 131 8 13 = true := by decide +kernel
theorem cs_165_194 : mn_cs 165 8 194 118 = true := by decide +kernel
theorem cv_165_174 : mn_cvt 165 8 174 147 = true := by decide +kernel
theorem cv_165_177 : mn_cvt 165 8 177 153 = true := by decide +kernel
theorem b_X8_hush_0 {x1 x2 : Int32} {h h' : mn_H} {r : Option Value} : mn_E 165 0 [.ref 63, .int x1, .int x2, .null, .null, .null] [] h r h' ↔ ∃ x h1, mn_X 114 [.int x1, .int 0, .int 5] h (some (.int x)) h1 ∧ mn_E 165 6 [.ref 63, .int x1, .int x2, .null, .null, .null] [.int x] h1 r h' :=
  (mX_iload_n d_X8_hush_0 rfl).trans <| (mX_iconst d_X8_hush_1 ci_0).trans <| (mX_iconst d_X8_hush_2 ci_5).trans <| mS_i (vs := [.int x1, .int 0, .int 5]) (st' := []) d_X8_hush_3 cs_165_46 (Or.inr (Or.inl rfl)) (Nat.le_of_ble_eq_true rfl) rfl rfl rfl
theorem b_X8_hush_6 {x1 x2 s0 : Int32} {h h' : mn_H} {r : Option Value} : mn_E 165 6 [.ref 63, .int x1, .int x2, .null, .null, .null] [.int s0] h r h' ↔ if s0 = 0 then mn_E 165 18 [.ref 63, .int x1, .int x2, .null, .null, .null] [] h r h' else mn_E 165 9 [.ref 63, .int x1, .int x2, .null, .null, .null] [] h r h' :=
  mX_if_eq d_X8_hush_6 rfl
theorem b_X8_hush_9 {x1 x2 : Int32} {h h' : mn_H} {r : Option Value} : mn_E 165 9 [.ref 63, .int x1, .int x2, .null, .null, .null] [] h r h' ↔ ∃ x h1, mn_X 114 [.int x2, .int 0, .int 1] h (some (.int x)) h1 ∧ mn_E 165 15 [.ref 63, .int x1, .int x2, .null, .null, .null] [.int x] h1 r h' :=
  (mX_iload_n d_X8_hush_9 rfl).trans <| (mX_iconst d_X8_hush_10 ci_0).trans <| (mX_iconst d_X8_hush_11 ci_1).trans <| mS_i (vs := [.int x2, .int 0, .int 1]) (st' := []) d_X8_hush_12 cs_165_46 (Or.inr (Or.inl rfl)) (Nat.le_of_ble_eq_true rfl) rfl rfl rfl
theorem b_X8_hush_15 {x1 x2 s0 : Int32} {h h' : mn_H} {r : Option Value} : mn_E 165 15 [.ref 63, .int x1, .int x2, .null, .null, .null] [.int s0] h r h' ↔ if ¬ s0 = 0 then mn_E 165 21 [.ref 63, .int x1, .int x2, .null, .null, .null] [] h r h' else mn_E 165 18 [.ref 63, .int x1, .int x2, .null, .null, .null] [] h r h' :=
  mX_if_ne d_X8_hush_15 rfl
theorem b_X8_hush_18 {x1 x2 : Int32} {h h' : mn_H} {r : Option Value} : mn_E 165 18 [.ref 63, .int x1, .int x2, .null, .null, .null] [] h r h' ↔ r = some (.int (-1000000002)) ∧ h' = h :=
  (mX_ldc d_X8_hush_18 mo_165 kc_8_50 (by decide)).trans <| mX_iret d_X8_hush_20 rfl
theorem b_X8_hush_21 {x1 x2 : Int32} {h h' : mn_H} {r : Option Value} : mn_E 165 21 [.ref 63, .int x1, .int x2, .null, .null, .null] [] h r h' ↔ ∃ h1, mn_X 141 [.ref 63] h none h1 ∧ mn_E 165 25 [.ref 63, .int x1, .int x2, .null, .null, .null] [] h1 r h' :=
  (mX_aload_n d_X8_hush_21 rfl).trans <| mV_v (a := 63) (vs := []) (st' := []) d_X8_hush_22 cv_165_107 rfl (Nat.le_of_ble_eq_true rfl) rfl rfl rfl rfl
theorem b_X8_hush_25 {x1 x2 : Int32} {h h' : mn_H} {r : Option Value} : mn_E 165 25 [.ref 63, .int x1, .int x2, .null, .null, .null] [] h r h' ↔ mn_E 165 30 [.ref 63, .int x1, .int x2, .int (-1), .int 0, .null] [] h r h' :=
  (mX_iconst d_X8_hush_25 ci_m1).trans <| (mX_istore_n (ls' := [.ref 63, .int x1, .int x2, .int (-1), .null, .null]) d_X8_hush_26 rfl rfl).trans <| (mX_iconst d_X8_hush_27 ci_0).trans <| mX_istore (ls' := [.ref 63, .int x1, .int x2, .int (-1), .int 0, .null]) d_X8_hush_28 rfl rfl
theorem b_X8_hush_30 {x1 x2 x3 x4 : Int32} {w5 : Value} {h h' : mn_H} {r : Option Value} : mn_E 165 30 [.ref 63, .int x1, .int x2, .int x3, .int x4, w5] [] h r h' ↔ ∃ x h1, mn_X 159 [.ref 63, .int x4] h (some (.int x)) h1 ∧ mn_E 165 36 [.ref 63, .int x1, .int x2, .int x3, .int x4, w5] [.int x] h1 r h' :=
  (mX_aload_n d_X8_hush_30 rfl).trans <| (mX_iload d_X8_hush_31 rfl).trans <| mV_i (a := 63) (vs := [.int x4]) (st' := []) d_X8_hush_33 cv_165_182 (Or.inr (Or.inl rfl)) (Nat.le_of_ble_eq_true rfl) rfl rfl rfl rfl
theorem b_X8_hush_36 {x1 x2 x3 x4 s0 : Int32} {w5 : Value} {h h' : mn_H} {r : Option Value} : mn_E 165 36 [.ref 63, .int x1, .int x2, .int x3, .int x4, w5] [.int s0] h r h' ↔ if s0 = 0 then mn_E 165 122 [.ref 63, .int x1, .int x2, .int x3, .int x4, w5] [] h r h' else mn_E 165 39 [.ref 63, .int x1, .int x2, .int x3, .int x4, w5] [] h r h' :=
  mX_if_eq d_X8_hush_36 rfl
theorem b_X8_hush_39 {x1 x2 x3 x4 : Int32} {w5 : Value} {h h' : mn_H} {r : Option Value} : mn_E 165 39 [.ref 63, .int x1, .int x2, .int x3, .int x4, w5] [] h r h' ↔ if ¬ (x4 &&& ((mn_up h 63 13 ((h 67 (1 : Int32).toNatClampNeg) ||| x4)) 67 (1 : Int32).toNatClampNeg)) = 0 then mn_E 165 85 [.ref 63, .int x1, .int x2, .int x3, .int x4, w5] [] (mn_up h 63 13 ((h 67 (1 : Int32).toNatClampNeg) ||| x4)) r h' else mn_E 165 64 [.ref 63, .int x1, .int x2, .int x3, .int x4, w5] [] (mn_up h 63 13 ((h 67 (1 : Int32).toNatClampNeg) ||| x4)) r h' :=
  (mX_aload_n d_X8_hush_39 rfl).trans <| (mX_aload_n d_X8_hush_40 rfl).trans <| (mG_r (b := 67) d_X8_hush_41 fr_165_19 rfl (by decide) rfl).trans <| (mX_iconst d_X8_hush_44 ci_1).trans <| (mX_iaload d_X8_hush_45 rfl (by decide) (mn_in_iff (by decide +kernel))).trans <| (mX_iload d_X8_hush_46 rfl).trans <| (mX_ior d_X8_hush_48).trans <| (mP_i d_X8_hush_49 fi_165_131 rfl (by decide) rfl (Or.inl (by decide))).trans <| (mX_iload d_X8_hush_52 rfl).trans <| (mX_aload_n d_X8_hush_54 rfl).trans <| (mG_r (b := 67) d_X8_hush_55 fr_165_19 rfl (by decide) rfl).trans <| (mX_iconst d_X8_hush_58 ci_1).trans <| (mX_iaload d_X8_hush_59 rfl (by decide) (mn_in_iff (by decide +kernel))).trans <| (mX_iand d_X8_hush_60).trans <| mX_if_ne d_X8_hush_61 rfl
theorem b_X8_hush_64 {x1 x2 x3 x4 : Int32} {w5 : Value} {h h' : mn_H} {r : Option Value} : mn_E 165 64 [.ref 63, .int x1, .int x2, .int x3, .int x4, w5] [] h r h' ↔ if x3 = (-1) then mn_E 165 81 [.ref 63, .int x1, .int x2, .int x3, .int x4, w5] [] h r h' else mn_E 165 69 [.ref 63, .int x1, .int x2, .int x3, .int x4, w5] [] h r h' :=
  (mX_iload_n d_X8_hush_64 rfl).trans <| (mX_iconst d_X8_hush_65 ci_m1).trans <| mX_icmp_eq d_X8_hush_66 rfl
theorem b_X8_hush_69 {x1 x2 x3 x4 : Int32} {w5 : Value} {h h' : mn_H} {r : Option Value} : mn_E 165 69 [.ref 63, .int x1, .int x2, .int x3, .int x4, w5] [] h r h' ↔ ∃ x h1, mn_X 118 [.int x4] h (some (.int x)) h1 ∧ mn_E 165 74 [.ref 63, .int x1, .int x2, .int x3, .int x4, w5] [.int x] h1 r h' :=
  (mX_iload d_X8_hush_69 rfl).trans <| mS_i (vs := [.int x4]) (st' := []) d_X8_hush_71 cs_165_194 (Or.inl rfl) (Nat.le_of_ble_eq_true rfl) rfl rfl rfl
theorem b_X8_hush_74 {x1 x2 x3 x4 s0 : Int32} {w5 : Value} {h h' : mn_H} {r : Option Value} : mn_E 165 74 [.ref 63, .int x1, .int x2, .int x3, .int x4, w5] [.int s0] h r h' ↔ ∃ x h1, mn_X 118 [.int x3] h (some (.int x)) h1 ∧ mn_E 165 78 [.ref 63, .int x1, .int x2, .int x3, .int x4, w5] [.int x, .int s0] h1 r h' :=
  (mX_iload_n d_X8_hush_74 rfl).trans <| mS_i (vs := [.int x3]) (st' := [.int s0]) d_X8_hush_75 cs_165_194 (Or.inl rfl) (Nat.le_of_ble_eq_true rfl) rfl rfl rfl
theorem b_X8_hush_78 {x1 x2 x3 x4 s0 s1 : Int32} {w5 : Value} {h h' : mn_H} {r : Option Value} : mn_E 165 78 [.ref 63, .int x1, .int x2, .int x3, .int x4, w5] [.int s0, .int s1] h r h' ↔ if s0 ≤ s1 then mn_E 165 85 [.ref 63, .int x1, .int x2, .int x3, .int x4, w5] [] h r h' else mn_E 165 81 [.ref 63, .int x1, .int x2, .int x3, .int x4, w5] [] h r h' :=
  mX_icmp_ge d_X8_hush_78 rfl
theorem b_X8_hush_81 {x1 x2 x3 x4 : Int32} {w5 : Value} {h h' : mn_H} {r : Option Value} : mn_E 165 81 [.ref 63, .int x1, .int x2, .int x3, .int x4, w5] [] h r h' ↔ mn_E 165 86 [.ref 63, .int x1, .int x2, .int x3, .int x4, w5] [.int 1] h r h' :=
  (mX_iconst d_X8_hush_81 ci_1).trans <| mX_goto d_X8_hush_82 rfl
theorem b_X8_hush_85 {x1 x2 x3 x4 : Int32} {w5 : Value} {h h' : mn_H} {r : Option Value} : mn_E 165 85 [.ref 63, .int x1, .int x2, .int x3, .int x4, w5] [] h r h' ↔ mn_E 165 86 [.ref 63, .int x1, .int x2, .int x3, .int x4, w5] [.int 0] h r h' :=
  mX_iconst d_X8_hush_85 ci_0
theorem b_X8_hush_86 {x1 x2 x3 x4 s0 : Int32} {w5 : Value} {h h' : mn_H} {r : Option Value} : mn_E 165 86 [.ref 63, .int x1, .int x2, .int x3, .int x4, w5] [.int s0] h r h' ↔ if s0 = 0 then mn_E 165 116 [.ref 63, .int x1, .int x2, .int x3, .int x4, .int s0] [] h r h' else mn_E 165 93 [.ref 63, .int x1, .int x2, .int x3, .int x4, .int s0] [] h r h' :=
  (mX_istore (ls' := [.ref 63, .int x1, .int x2, .int x3, .int x4, .int s0]) d_X8_hush_86 rfl rfl).trans <| (mX_iload d_X8_hush_88 rfl).trans <| mX_if_eq d_X8_hush_90 rfl
theorem b_X8_hush_93 {x1 x2 x3 x4 x5 : Int32} {h h' : mn_H} {r : Option Value} : mn_E 165 93 [.ref 63, .int x1, .int x2, .int x3, .int x4, .int x5] [] h r h' ↔ ∃ h1, mn_X 147 [.ref 63] h none h1 ∧ mn_E 165 97 [.ref 63, .int x1, .int x2, .int x3, .int x4, .int x5] [] h1 r h' :=
  (mX_aload_n d_X8_hush_93 rfl).trans <| mV_v (a := 63) (vs := []) (st' := []) d_X8_hush_94 cv_165_174 rfl (Nat.le_of_ble_eq_true rfl) rfl rfl rfl rfl
theorem b_X8_hush_97 {x1 x2 x3 x4 x5 : Int32} {h h' : mn_H} {r : Option Value} : mn_E 165 97 [.ref 63, .int x1, .int x2, .int x3, .int x4, .int x5] [] h r h' ↔ ∃ x h1, mn_X 153 [.ref 63, .int 0] h (some (.int x)) h1 ∧ mn_E 165 102 [.ref 63, .int x1, .int x2, .int x3, .int x4, .int x5] [.int x] h1 r h' :=
  (mX_aload_n d_X8_hush_97 rfl).trans <| (mX_iconst d_X8_hush_98 ci_0).trans <| mV_i (a := 63) (vs := [.int 0]) (st' := []) d_X8_hush_99 cv_165_177 (Or.inl rfl) (Nat.le_of_ble_eq_true rfl) rfl rfl rfl rfl
theorem b_X8_hush_102 {x1 x2 x3 x4 x5 s0 : Int32} {h h' : mn_H} {r : Option Value} : mn_E 165 102 [.ref 63, .int x1, .int x2, .int x3, .int x4, .int x5] [.int s0] h r h' ↔ if ¬ ((s0 >>> (x1 &&& 31)) &&& 1) = 0 then mn_E 165 114 [.ref 63, .int x1, .int x2, .int x3, .int x4, .int x5] [] h r h' else mn_E 165 109 [.ref 63, .int x1, .int x2, .int x3, .int x4, .int x5] [] h r h' :=
  (mX_iload_n d_X8_hush_102 rfl).trans <| (mX_ishr d_X8_hush_103).trans <| (mX_iconst d_X8_hush_104 ci_1).trans <| (mX_iand d_X8_hush_105).trans <| mX_if_ne d_X8_hush_106 rfl
theorem b_X8_hush_109 {x1 x2 x3 x4 x5 : Int32} {h h' : mn_H} {r : Option Value} : mn_E 165 109 [.ref 63, .int x1, .int x2, .int x3, .int x4, .int x5] [] h r h' ↔ mn_E 165 115 [.ref 63, .int x1, .int x2, .int x3, .int x4, .int x5] [.int x4] h r h' :=
  (mX_iload d_X8_hush_109 rfl).trans <| mX_goto d_X8_hush_111 rfl
theorem b_X8_hush_114 {x1 x2 x3 x4 x5 : Int32} {h h' : mn_H} {r : Option Value} : mn_E 165 114 [.ref 63, .int x1, .int x2, .int x3, .int x4, .int x5] [] h r h' ↔ mn_E 165 115 [.ref 63, .int x1, .int x2, .int x3, .int x4, .int x5] [.int x3] h r h' :=
  mX_iload_n d_X8_hush_114 rfl
theorem b_X8_hush_115 {x1 x2 x3 x4 x5 s0 : Int32} {h h' : mn_H} {r : Option Value} : mn_E 165 115 [.ref 63, .int x1, .int x2, .int x3, .int x4, .int x5] [.int s0] h r h' ↔ mn_E 165 116 [.ref 63, .int x1, .int x2, .int s0, .int x4, .int x5] [] h r h' :=
  mX_istore_n (ls' := [.ref 63, .int x1, .int x2, .int s0, .int x4, .int x5]) d_X8_hush_115 rfl rfl
theorem b_X8_hush_116 {x1 x2 x3 x4 x5 : Int32} {h h' : mn_H} {r : Option Value} : mn_E 165 116 [.ref 63, .int x1, .int x2, .int x3, .int x4, .int x5] [] h r h' ↔ mn_E 165 30 [.ref 63, .int x1, .int x2, .int x3, .int (x4 + 1), .int x5] [] h r h' :=
  (mX_iinc (ls' := [.ref 63, .int x1, .int x2, .int x3, .int (x4 + 1), .int x5]) d_X8_hush_116 rfl ci_1 rfl rfl).trans <| mX_goto d_X8_hush_119 rfl
theorem b_X8_hush_122 {x1 x2 x3 x4 : Int32} {w5 : Value} {h h' : mn_H} {r : Option Value} : mn_E 165 122 [.ref 63, .int x1, .int x2, .int x3, .int x4, w5] [] h r h' ↔ if ¬ x3 = (-1) then mn_E 165 131 [.ref 63, .int x1, .int x2, .int x3, .int x4, w5] [] h r h' else mn_E 165 127 [.ref 63, .int x1, .int x2, .int x3, .int x4, w5] [] h r h' :=
  (mX_iload_n d_X8_hush_122 rfl).trans <| (mX_iconst d_X8_hush_123 ci_m1).trans <| mX_icmp_ne d_X8_hush_124 rfl
theorem b_X8_hush_127 {x1 x2 x3 x4 : Int32} {w5 : Value} {h h' : mn_H} {r : Option Value} : mn_E 165 127 [.ref 63, .int x1, .int x2, .int x3, .int x4, w5] [] h r h' ↔ mn_E 165 143 [.ref 63, .int x1, .int x2, .int x3, .int x4, w5] [.int (-1)] h r h' :=
  (mX_iconst d_X8_hush_127 ci_m1).trans <| mX_goto d_X8_hush_128 rfl
theorem b_X8_hush_131 {x1 x2 x3 x4 : Int32} {w5 : Value} {h h' : mn_H} {r : Option Value} : mn_E 165 131 [.ref 63, .int x1, .int x2, .int x3, .int x4, w5] [] h r h' ↔ if ¬ x2 = 0 then mn_E 165 142 [.ref 63, .int x1, .int x2, .int x3, .int x4, w5] [] h r h' else mn_E 165 135 [.ref 63, .int x1, .int x2, .int x3, .int x4, w5] [] h r h' :=
  (mX_iload_n d_X8_hush_131 rfl).trans <| mX_if_ne d_X8_hush_132 rfl
theorem b_X8_hush_135 {x1 x2 x3 x4 : Int32} {w5 : Value} {h h' : mn_H} {r : Option Value} : mn_E 165 135 [.ref 63, .int x1, .int x2, .int x3, .int x4, w5] [] h r h' ↔ ∃ x h1, mn_X 118 [.int x3] h (some (.int x)) h1 ∧ mn_E 165 139 [.ref 63, .int x1, .int x2, .int x3, .int x4, w5] [.int x] h1 r h' :=
  (mX_iload_n d_X8_hush_135 rfl).trans <| mS_i (vs := [.int x3]) (st' := []) d_X8_hush_136 cs_165_194 (Or.inl rfl) (Nat.le_of_ble_eq_true rfl) rfl rfl rfl
theorem b_X8_hush_139 {x1 x2 x3 x4 s0 : Int32} {w5 : Value} {h h' : mn_H} {r : Option Value} : mn_E 165 139 [.ref 63, .int x1, .int x2, .int x3, .int x4, w5] [.int s0] h r h' ↔ mn_E 165 143 [.ref 63, .int x1, .int x2, .int x3, .int x4, w5] [.int s0] h r h' :=
  mX_goto d_X8_hush_139 rfl
theorem b_X8_hush_142 {x1 x2 x3 x4 : Int32} {w5 : Value} {h h' : mn_H} {r : Option Value} : mn_E 165 142 [.ref 63, .int x1, .int x2, .int x3, .int x4, w5] [] h r h' ↔ mn_E 165 143 [.ref 63, .int x1, .int x2, .int x3, .int x4, w5] [.int x3] h r h' :=
  mX_iload_n d_X8_hush_142 rfl
theorem b_X8_hush_143 {x1 x2 x3 x4 s0 : Int32} {w5 : Value} {h h' : mn_H} {r : Option Value} : mn_E 165 143 [.ref 63, .int x1, .int x2, .int x3, .int x4, w5] [.int s0] h r h' ↔ r = some (.int s0) ∧ h' = h :=
  mX_iret d_X8_hush_143 rfl
-- X8_run
theorem mo_166 : mO 166 = 8 := rfl
theorem d_X8_run_0 : decode (mC 166) 0 = .ok (.aload_n 0, 1) := by decide +kernel
theorem d_X8_run_1 : decode (mC 166) 1 = .ok (.iload_n 1, 1) := by decide +kernel
theorem d_X8_run_2 : decode (mC 166) 2 = .ok (.invokevirtual 125, 3) := by decide +kernel
theorem d_X8_run_5 : decode (mC 166) 5 = .ok (.ifCond .ne 6, 3) := by decide +kernel
theorem d_X8_run_8 : decode (mC 166) 8 = .ok (.ldc 124, 2) := by decide +kernel
theorem d_X8_run_10 : decode (mC 166) 10 = .ok (.ireturn, 1) := by decide +kernel
theorem d_X8_run_11 : decode (mC 166) 11 = .ok (.iload_n 2, 1) := by decide +kernel
theorem d_X8_run_12 : decode (mC 166) 12 = .ok (.iconst 0, 1) := by decide +kernel
theorem d_X8_run_13 : decode (mC 166) 13 = .ok (.iconst 5, 1) := by decide +kernel
theorem d_X8_run_14 : decode (mC 166) 14 = .ok (.invokestatic 46, 3) := by decide +kernel
theorem d_X8_run_17 : decode (mC 166) 17 = .ok (.ifCond .ne 6, 3) := by decide +kernel
theorem d_X8_run_20 : decode (mC 166) 20 = .ok (.ldc 50, 2) := by decide +kernel
theorem d_X8_run_22 : decode (mC 166) 22 = .ok (.ireturn, 1) := by decide +kernel
theorem d_X8_run_23 : decode (mC 166) 23 = .ok (.aload_n 0, 1) := by decide +kernel
theorem d_X8_run_24 : decode (mC 166) 24 = .ok (.invokevirtual 107, 3) := by decide +kernel
theorem d_X8_run_27 : decode (mC 166) 27 = .ok (.aload_n 0, 1) := by decide +kernel
theorem d_X8_run_28 : decode (mC 166) 28 = .ok (.iload_n 1, 1) := by decide +kernel
theorem d_X8_run_29 : decode (mC 166) 29 = .ok (.putfield 137, 3) := by decide +kernel
theorem d_X8_run_32 : decode (mC 166) 32 = .ok (.aload_n 0, 1) := by decide +kernel
theorem d_X8_run_33 : decode (mC 166) 33 = .ok (.iconst 0, 1) := by decide +kernel
theorem d_X8_run_34 : decode (mC 166) 34 = .ok (.putfield 140, 3) := by decide +kernel
theorem d_X8_run_37 : decode (mC 166) 37 = .ok (.aload_n 0, 1) := by decide +kernel
theorem d_X8_run_38 : decode (mC 166) 38 = .ok (.getfield 140, 3) := by decide +kernel
theorem d_X8_run_41 : decode (mC 166) 41 = .ok (.sipush 1000, 3) := by decide +kernel
theorem d_X8_run_44 : decode (mC 166) 44 = .ok (.if_icmp .ge 38, 3) := by decide +kernel
theorem d_X8_run_47 : decode (mC 166) 47 = .ok (.aload_n 0, 1) := by decide +kernel
theorem d_X8_run_48 : decode (mC 166) 48 = .ok (.invokevirtual 174, 3) := by decide +kernel
theorem d_X8_run_51 : decode (mC 166) 51 = .ok (.aload_n 0, 1) := by decide +kernel
theorem d_X8_run_52 : decode (mC 166) 52 = .ok (.iconst 1, 1) := by decide +kernel
theorem d_X8_run_53 : decode (mC 166) 53 = .ok (.invokevirtual 177, 3) := by decide +kernel
theorem d_X8_run_56 : decode (mC 166) 56 = .ok (.iload_n 2, 1) := by decide +kernel
theorem d_X8_run_57 : decode (mC 166) 57 = .ok (.ishr, 1) := by decide +kernel
theorem d_X8_run_58 : decode (mC 166) 58 = .ok (.iconst 1, 1) := by decide +kernel
theorem d_X8_run_59 : decode (mC 166) 59 = .ok (.iand, 1) := by decide +kernel
theorem d_X8_run_60 : decode (mC 166) 60 = .ok (.iconst 1, 1) := by decide +kernel
theorem d_X8_run_61 : decode (mC 166) 61 = .ok (.if_icmp .ne 8, 3) := by decide +kernel
theorem d_X8_run_64 : decode (mC 166) 64 = .ok (.aload_n 0, 1) := by decide +kernel
theorem d_X8_run_65 : decode (mC 166) 65 = .ok (.getfield 140, 3) := by decide +kernel
theorem d_X8_run_68 : decode (mC 166) 68 = .ok (.ireturn, 1) := by decide +kernel
theorem d_X8_run_69 : decode (mC 166) 69 = .ok (.aload_n 0, 1) := by decide +kernel
theorem d_X8_run_70 : decode (mC 166) 70 = .ok (.dup, 1) := by decide +kernel
theorem d_X8_run_71 : decode (mC 166) 71 = .ok (.getfield 140, 3) := by decide +kernel
theorem d_X8_run_74 : decode (mC 166) 74 = .ok (.iconst 1, 1) := by decide +kernel
theorem d_X8_run_75 : decode (mC 166) 75 = .ok (.iadd, 1) := by decide +kernel
theorem d_X8_run_76 : decode (mC 166) 76 = .ok (.putfield 140, 3) := by decide +kernel
theorem d_X8_run_79 : decode (mC 166) 79 = .ok (.goto (-42), 3) := by decide +kernel
theorem d_X8_run_82 : decode (mC 166) 82 = .ok (.iconst (-1), 1) := by decide +kernel
theorem d_X8_run_83 : decode (mC 166) 83 = .ok (.ireturn, 1) := by decide +kernel
theorem cv_166_125 : mn_cvt 166 8 125 116 = true := by decide +kernel
theorem cs_166_46 : mn_cs 166 8 46 114 = true := by decide +kernel
theorem cv_166_107 : mn_cvt 166 8 107 141 = true := by decide +kernel
theorem fi_166_137 : mn_fi 166 8 137 8 15 = true := by decide +kernel
theorem fi_166_140 : mn_fi 166 8 140 8 16 = true := by decide +kernel
theorem cv_166_174 : mn_cvt 166 8 174 147 = true := by decide +kernel
theorem cv_166_177 : mn_cvt 166 8 177 153 = true := by decide +kernel
theorem b_X8_run_0 {x1 x2 : Int32} {h h' : mn_H} {r : Option Value} : mn_E 166 0 [.ref 63, .int x1, .int x2] [] h r h' ↔ ∃ x h1, mn_X 116 [.ref 63, .int x1] h (some (.int x)) h1 ∧ mn_E 166 5 [.ref 63, .int x1, .int x2] [.int x] h1 r h' :=
  (mX_aload_n d_X8_run_0 rfl).trans <| (mX_iload_n d_X8_run_1 rfl).trans <| mV_i (a := 63) (vs := [.int x1]) (st' := []) d_X8_run_2 cv_166_125 (Or.inr (Or.inl rfl)) (Nat.le_of_ble_eq_true rfl) rfl rfl rfl rfl
theorem b_X8_run_5 {x1 x2 s0 : Int32} {h h' : mn_H} {r : Option Value} : mn_E 166 5 [.ref 63, .int x1, .int x2] [.int s0] h r h' ↔ if ¬ s0 = 0 then mn_E 166 11 [.ref 63, .int x1, .int x2] [] h r h' else mn_E 166 8 [.ref 63, .int x1, .int x2] [] h r h' :=
  mX_if_ne d_X8_run_5 rfl
theorem b_X8_run_8 {x1 x2 : Int32} {h h' : mn_H} {r : Option Value} : mn_E 166 8 [.ref 63, .int x1, .int x2] [] h r h' ↔ r = some (.int (-1000000001)) ∧ h' = h :=
  (mX_ldc d_X8_run_8 mo_166 kc_8_124 (by decide)).trans <| mX_iret d_X8_run_10 rfl
theorem b_X8_run_11 {x1 x2 : Int32} {h h' : mn_H} {r : Option Value} : mn_E 166 11 [.ref 63, .int x1, .int x2] [] h r h' ↔ ∃ x h1, mn_X 114 [.int x2, .int 0, .int 5] h (some (.int x)) h1 ∧ mn_E 166 17 [.ref 63, .int x1, .int x2] [.int x] h1 r h' :=
  (mX_iload_n d_X8_run_11 rfl).trans <| (mX_iconst d_X8_run_12 ci_0).trans <| (mX_iconst d_X8_run_13 ci_5).trans <| mS_i (vs := [.int x2, .int 0, .int 5]) (st' := []) d_X8_run_14 cs_166_46 (Or.inr (Or.inl rfl)) (Nat.le_of_ble_eq_true rfl) rfl rfl rfl
theorem b_X8_run_17 {x1 x2 s0 : Int32} {h h' : mn_H} {r : Option Value} : mn_E 166 17 [.ref 63, .int x1, .int x2] [.int s0] h r h' ↔ if ¬ s0 = 0 then mn_E 166 23 [.ref 63, .int x1, .int x2] [] h r h' else mn_E 166 20 [.ref 63, .int x1, .int x2] [] h r h' :=
  mX_if_ne d_X8_run_17 rfl
theorem b_X8_run_20 {x1 x2 : Int32} {h h' : mn_H} {r : Option Value} : mn_E 166 20 [.ref 63, .int x1, .int x2] [] h r h' ↔ r = some (.int (-1000000002)) ∧ h' = h :=
  (mX_ldc d_X8_run_20 mo_166 kc_8_50 (by decide)).trans <| mX_iret d_X8_run_22 rfl
theorem b_X8_run_23 {x1 x2 : Int32} {h h' : mn_H} {r : Option Value} : mn_E 166 23 [.ref 63, .int x1, .int x2] [] h r h' ↔ ∃ h1, mn_X 141 [.ref 63] h none h1 ∧ mn_E 166 27 [.ref 63, .int x1, .int x2] [] h1 r h' :=
  (mX_aload_n d_X8_run_23 rfl).trans <| mV_v (a := 63) (vs := []) (st' := []) d_X8_run_24 cv_166_107 rfl (Nat.le_of_ble_eq_true rfl) rfl rfl rfl rfl
theorem b_X8_run_27 {x1 x2 : Int32} {h h' : mn_H} {r : Option Value} : mn_E 166 27 [.ref 63, .int x1, .int x2] [] h r h' ↔ mn_E 166 37 [.ref 63, .int x1, .int x2] [] (mn_up (mn_up h 63 15 x1) 63 16 0) r h' :=
  (mX_aload_n d_X8_run_27 rfl).trans <| (mX_iload_n d_X8_run_28 rfl).trans <| (mP_i d_X8_run_29 fi_166_137 rfl (by decide) rfl (Or.inl (by decide))).trans <| (mX_aload_n d_X8_run_32 rfl).trans <| (mX_iconst d_X8_run_33 ci_0).trans <| mP_i d_X8_run_34 fi_166_140 rfl (by decide) rfl (Or.inl (by decide))
theorem b_X8_run_37 {x1 x2 : Int32} {h h' : mn_H} {r : Option Value} : mn_E 166 37 [.ref 63, .int x1, .int x2] [] h r h' ↔ if (1000 : Int32) ≤ (h 63 16) then mn_E 166 82 [.ref 63, .int x1, .int x2] [] h r h' else mn_E 166 47 [.ref 63, .int x1, .int x2] [] h r h' :=
  (mX_aload_n d_X8_run_37 rfl).trans <| (mG_i d_X8_run_38 fi_166_140 rfl (by decide)).trans <| (mX_sipush d_X8_run_41 cs_1000).trans <| mX_icmp_ge d_X8_run_44 rfl
theorem b_X8_run_47 {x1 x2 : Int32} {h h' : mn_H} {r : Option Value} : mn_E 166 47 [.ref 63, .int x1, .int x2] [] h r h' ↔ ∃ h1, mn_X 147 [.ref 63] h none h1 ∧ mn_E 166 51 [.ref 63, .int x1, .int x2] [] h1 r h' :=
  (mX_aload_n d_X8_run_47 rfl).trans <| mV_v (a := 63) (vs := []) (st' := []) d_X8_run_48 cv_166_174 rfl (Nat.le_of_ble_eq_true rfl) rfl rfl rfl rfl
theorem b_X8_run_51 {x1 x2 : Int32} {h h' : mn_H} {r : Option Value} : mn_E 166 51 [.ref 63, .int x1, .int x2] [] h r h' ↔ ∃ x h1, mn_X 153 [.ref 63, .int 1] h (some (.int x)) h1 ∧ mn_E 166 56 [.ref 63, .int x1, .int x2] [.int x] h1 r h' :=
  (mX_aload_n d_X8_run_51 rfl).trans <| (mX_iconst d_X8_run_52 ci_1).trans <| mV_i (a := 63) (vs := [.int 1]) (st' := []) d_X8_run_53 cv_166_177 (Or.inl rfl) (Nat.le_of_ble_eq_true rfl) rfl rfl rfl rfl
theorem b_X8_run_56 {x1 x2 s0 : Int32} {h h' : mn_H} {r : Option Value} : mn_E 166 56 [.ref 63, .int x1, .int x2] [.int s0] h r h' ↔ if ¬ ((s0 >>> (x2 &&& 31)) &&& 1) = 1 then mn_E 166 69 [.ref 63, .int x1, .int x2] [] h r h' else mn_E 166 64 [.ref 63, .int x1, .int x2] [] h r h' :=
  (mX_iload_n d_X8_run_56 rfl).trans <| (mX_ishr d_X8_run_57).trans <| (mX_iconst d_X8_run_58 ci_1).trans <| (mX_iand d_X8_run_59).trans <| (mX_iconst d_X8_run_60 ci_1).trans <| mX_icmp_ne d_X8_run_61 rfl
theorem b_X8_run_64 {x1 x2 : Int32} {h h' : mn_H} {r : Option Value} : mn_E 166 64 [.ref 63, .int x1, .int x2] [] h r h' ↔ r = some (.int (h 63 16)) ∧ h' = h :=
  (mX_aload_n d_X8_run_64 rfl).trans <| (mG_i d_X8_run_65 fi_166_140 rfl (by decide)).trans <| mX_iret d_X8_run_68 rfl
theorem b_X8_run_69 {x1 x2 : Int32} {h h' : mn_H} {r : Option Value} : mn_E 166 69 [.ref 63, .int x1, .int x2] [] h r h' ↔ mn_E 166 37 [.ref 63, .int x1, .int x2] [] (mn_up h 63 16 ((h 63 16) + 1)) r h' :=
  (mX_aload_n d_X8_run_69 rfl).trans <| (mX_dup d_X8_run_70 rfl).trans <| (mG_i d_X8_run_71 fi_166_140 rfl (by decide)).trans <| (mX_iconst d_X8_run_74 ci_1).trans <| (mX_iadd d_X8_run_75).trans <| (mP_i d_X8_run_76 fi_166_140 rfl (by decide) rfl (Or.inl (by decide))).trans <| mX_goto d_X8_run_79 rfl
theorem b_X8_run_82 {x1 x2 : Int32} {h h' : mn_H} {r : Option Value} : mn_E 166 82 [.ref 63, .int x1, .int x2] [] h r h' ↔ r = some (.int (-1)) ∧ h' = h :=
  (mX_iconst d_X8_run_82 ci_m1).trans <| mX_iret d_X8_run_83 rfl
-- X8_takes
theorem mo_167 : mO 167 = 8 := rfl
theorem d_X8_takes_0 : decode (mC 167) 0 = .ok (.iload_n 1, 1) := by decide +kernel
theorem d_X8_takes_1 : decode (mC 167) 1 = .ok (.iconst 0, 1) := by decide +kernel
theorem d_X8_takes_2 : decode (mC 167) 2 = .ok (.iconst 1, 1) := by decide +kernel
theorem d_X8_takes_3 : decode (mC 167) 3 = .ok (.invokestatic 46, 3) := by decide +kernel
theorem d_X8_takes_6 : decode (mC 167) 6 = .ok (.ifCond .ne 6, 3) := by decide +kernel
theorem d_X8_takes_9 : decode (mC 167) 9 = .ok (.ldc 50, 2) := by decide +kernel
theorem d_X8_takes_11 : decode (mC 167) 11 = .ok (.ireturn, 1) := by decide +kernel
theorem d_X8_takes_12 : decode (mC 167) 12 = .ok (.aload_n 0, 1) := by decide +kernel
theorem d_X8_takes_13 : decode (mC 167) 13 = .ok (.invokevirtual 107, 3) := by decide +kernel
theorem d_X8_takes_16 : decode (mC 167) 16 = .ok (.aload_n 0, 1) := by decide +kernel
theorem d_X8_takes_17 : decode (mC 167) 17 = .ok (.invokevirtual 174, 3) := by decide +kernel
theorem d_X8_takes_20 : decode (mC 167) 20 = .ok (.iconst 0, 1) := by decide +kernel
theorem d_X8_takes_21 : decode (mC 167) 21 = .ok (.istore_n 2, 1) := by decide +kernel
theorem d_X8_takes_22 : decode (mC 167) 22 = .ok (.iconst 0, 1) := by decide +kernel
theorem d_X8_takes_23 : decode (mC 167) 23 = .ok (.istore_n 3, 1) := by decide +kernel
theorem d_X8_takes_24 : decode (mC 167) 24 = .ok (.iload_n 3, 1) := by decide +kernel
theorem d_X8_takes_25 : decode (mC 167) 25 = .ok (.aload_n 0, 1) := by decide +kernel
theorem d_X8_takes_26 : decode (mC 167) 26 = .ok (.getfield 168, 3) := by decide +kernel
theorem d_X8_takes_29 : decode (mC 167) 29 = .ok (.if_icmp .ge 22, 3) := by decide +kernel
theorem d_X8_takes_32 : decode (mC 167) 32 = .ok (.iload_n 2, 1) := by decide +kernel
theorem d_X8_takes_33 : decode (mC 167) 33 = .ok (.aload_n 0, 1) := by decide +kernel
theorem d_X8_takes_34 : decode (mC 167) 34 = .ok (.aload_n 0, 1) := by decide +kernel
theorem d_X8_takes_35 : decode (mC 167) 35 = .ok (.getfield 39, 3) := by decide +kernel
theorem d_X8_takes_38 : decode (mC 167) 38 = .ok (.iload_n 3, 1) := by decide +kernel
theorem d_X8_takes_39 : decode (mC 167) 39 = .ok (.iaload, 1) := by decide +kernel
theorem d_X8_takes_40 : decode (mC 167) 40 = .ok (.invokevirtual 104, 3) := by decide +kernel
theorem d_X8_takes_43 : decode (mC 167) 43 = .ok (.iadd, 1) := by decide +kernel
theorem d_X8_takes_44 : decode (mC 167) 44 = .ok (.istore_n 2, 1) := by decide +kernel
theorem d_X8_takes_45 : decode (mC 167) 45 = .ok (.iinc 3 1, 3) := by decide +kernel
theorem d_X8_takes_48 : decode (mC 167) 48 = .ok (.goto (-24), 3) := by decide +kernel
theorem d_X8_takes_51 : decode (mC 167) 51 = .ok (.iload_n 2, 1) := by decide +kernel
theorem d_X8_takes_52 : decode (mC 167) 52 = .ok (.ifCond .ge 8, 3) := by decide +kernel
theorem d_X8_takes_55 : decode (mC 167) 55 = .ok (.iload_n 2, 1) := by decide +kernel
theorem d_X8_takes_56 : decode (mC 167) 56 = .ok (.ineg, 1) := by decide +kernel
theorem d_X8_takes_57 : decode (mC 167) 57 = .ok (.goto 4, 3) := by decide +kernel
theorem d_X8_takes_60 : decode (mC 167) 60 = .ok (.iload_n 2, 1) := by decide +kernel
theorem d_X8_takes_61 : decode (mC 167) 61 = .ok (.istore_n 3, 1) := by decide +kernel
theorem d_X8_takes_62 : decode (mC 167) 62 = .ok (.aload_n 0, 1) := by decide +kernel
theorem d_X8_takes_63 : decode (mC 167) 63 = .ok (.getfield 168, 3) := by decide +kernel
theorem d_X8_takes_66 : decode (mC 167) 66 = .ok (.istore 4, 2) := by decide +kernel
theorem d_X8_takes_68 : decode (mC 167) 68 = .ok (.iload 4, 2) := by decide +kernel
theorem d_X8_takes_70 : decode (mC 167) 70 = .ok (.ifCond .le 19, 3) := by decide +kernel
theorem d_X8_takes_73 : decode (mC 167) 73 = .ok (.iload_n 3, 1) := by decide +kernel
theorem d_X8_takes_74 : decode (mC 167) 74 = .ok (.iload 4, 2) := by decide +kernel
theorem d_X8_takes_76 : decode (mC 167) 76 = .ok (.irem, 1) := by decide +kernel
theorem d_X8_takes_77 : decode (mC 167) 77 = .ok (.istore 5, 2) := by decide +kernel
theorem d_X8_takes_79 : decode (mC 167) 79 = .ok (.iload 4, 2) := by decide +kernel
theorem d_X8_takes_81 : decode (mC 167) 81 = .ok (.istore_n 3, 1) := by decide +kernel
theorem d_X8_takes_82 : decode (mC 167) 82 = .ok (.iload 5, 2) := by decide +kernel
theorem d_X8_takes_84 : decode (mC 167) 84 = .ok (.istore 4, 2) := by decide +kernel
theorem d_X8_takes_86 : decode (mC 167) 86 = .ok (.goto (-18), 3) := by decide +kernel
theorem d_X8_takes_89 : decode (mC 167) 89 = .ok (.iload_n 1, 1) := by decide +kernel
theorem d_X8_takes_90 : decode (mC 167) 90 = .ok (.ifCond .ne 9, 3) := by decide +kernel
theorem d_X8_takes_93 : decode (mC 167) 93 = .ok (.iload_n 2, 1) := by decide +kernel
theorem d_X8_takes_94 : decode (mC 167) 94 = .ok (.iload_n 3, 1) := by decide +kernel
theorem d_X8_takes_95 : decode (mC 167) 95 = .ok (.idiv, 1) := by decide +kernel
theorem d_X8_takes_96 : decode (mC 167) 96 = .ok (.goto 9, 3) := by decide +kernel
theorem d_X8_takes_99 : decode (mC 167) 99 = .ok (.aload_n 0, 1) := by decide +kernel
theorem d_X8_takes_100 : decode (mC 167) 100 = .ok (.getfield 168, 3) := by decide +kernel
theorem d_X8_takes_103 : decode (mC 167) 103 = .ok (.iload_n 3, 1) := by decide +kernel
theorem d_X8_takes_104 : decode (mC 167) 104 = .ok (.idiv, 1) := by decide +kernel
theorem d_X8_takes_105 : decode (mC 167) 105 = .ok (.ireturn, 1) := by decide +kernel
theorem cs_167_46 : mn_cs 167 8 46 114 = true := by decide +kernel
theorem cv_167_107 : mn_cvt 167 8 107 141 = true := by decide +kernel
theorem cv_167_174 : mn_cvt 167 8 174 147 = true := by decide +kernel
theorem fi_167_168 : mn_fi 167 8 168 8 22 = true := by decide +kernel
theorem fr_167_39 : mn_fr 167 8 39 8 21 = true := by decide +kernel
theorem cv_167_104 : mn_cvt 167 8 104 139 = true := by decide +kernel
theorem b_X8_takes_0 {x1 : Int32} {h h' : mn_H} {r : Option Value} : mn_E 167 0 [.ref 63, .int x1, .null, .null, .null, .null] [] h r h' ↔ ∃ x h1, mn_X 114 [.int x1, .int 0, .int 1] h (some (.int x)) h1 ∧ mn_E 167 6 [.ref 63, .int x1, .null, .null, .null, .null] [.int x] h1 r h' :=
  (mX_iload_n d_X8_takes_0 rfl).trans <| (mX_iconst d_X8_takes_1 ci_0).trans <| (mX_iconst d_X8_takes_2 ci_1).trans <| mS_i (vs := [.int x1, .int 0, .int 1]) (st' := []) d_X8_takes_3 cs_167_46 (Or.inr (Or.inl rfl)) (Nat.le_of_ble_eq_true rfl) rfl rfl rfl
theorem b_X8_takes_6 {x1 s0 : Int32} {h h' : mn_H} {r : Option Value} : mn_E 167 6 [.ref 63, .int x1, .null, .null, .null, .null] [.int s0] h r h' ↔ if ¬ s0 = 0 then mn_E 167 12 [.ref 63, .int x1, .null, .null, .null, .null] [] h r h' else mn_E 167 9 [.ref 63, .int x1, .null, .null, .null, .null] [] h r h' :=
  mX_if_ne d_X8_takes_6 rfl
theorem b_X8_takes_9 {x1 : Int32} {h h' : mn_H} {r : Option Value} : mn_E 167 9 [.ref 63, .int x1, .null, .null, .null, .null] [] h r h' ↔ r = some (.int (-1000000002)) ∧ h' = h :=
  (mX_ldc d_X8_takes_9 mo_167 kc_8_50 (by decide)).trans <| mX_iret d_X8_takes_11 rfl
theorem b_X8_takes_12 {x1 : Int32} {h h' : mn_H} {r : Option Value} : mn_E 167 12 [.ref 63, .int x1, .null, .null, .null, .null] [] h r h' ↔ ∃ h1, mn_X 141 [.ref 63] h none h1 ∧ mn_E 167 16 [.ref 63, .int x1, .null, .null, .null, .null] [] h1 r h' :=
  (mX_aload_n d_X8_takes_12 rfl).trans <| mV_v (a := 63) (vs := []) (st' := []) d_X8_takes_13 cv_167_107 rfl (Nat.le_of_ble_eq_true rfl) rfl rfl rfl rfl
theorem b_X8_takes_16 {x1 : Int32} {h h' : mn_H} {r : Option Value} : mn_E 167 16 [.ref 63, .int x1, .null, .null, .null, .null] [] h r h' ↔ ∃ h1, mn_X 147 [.ref 63] h none h1 ∧ mn_E 167 20 [.ref 63, .int x1, .null, .null, .null, .null] [] h1 r h' :=
  (mX_aload_n d_X8_takes_16 rfl).trans <| mV_v (a := 63) (vs := []) (st' := []) d_X8_takes_17 cv_167_174 rfl (Nat.le_of_ble_eq_true rfl) rfl rfl rfl rfl
theorem b_X8_takes_20 {x1 : Int32} {h h' : mn_H} {r : Option Value} : mn_E 167 20 [.ref 63, .int x1, .null, .null, .null, .null] [] h r h' ↔ mn_E 167 24 [.ref 63, .int x1, .int 0, .int 0, .null, .null] [] h r h' :=
  (mX_iconst d_X8_takes_20 ci_0).trans <| (mX_istore_n (ls' := [.ref 63, .int x1, .int 0, .null, .null, .null]) d_X8_takes_21 rfl rfl).trans <| (mX_iconst d_X8_takes_22 ci_0).trans <| mX_istore_n (ls' := [.ref 63, .int x1, .int 0, .int 0, .null, .null]) d_X8_takes_23 rfl rfl
theorem b_X8_takes_24 {x1 x2 x3 : Int32} {h h' : mn_H} {r : Option Value} : mn_E 167 24 [.ref 63, .int x1, .int x2, .int x3, .null, .null] [] h r h' ↔ if (h 63 22) ≤ x3 then mn_E 167 51 [.ref 63, .int x1, .int x2, .int x3, .null, .null] [] h r h' else mn_E 167 32 [.ref 63, .int x1, .int x2, .int x3, .null, .null] [] h r h' :=
  (mX_iload_n d_X8_takes_24 rfl).trans <| (mX_aload_n d_X8_takes_25 rfl).trans <| (mG_i d_X8_takes_26 fi_167_168 rfl (by decide)).trans <| mX_icmp_ge d_X8_takes_29 rfl
theorem b_X8_takes_32 {x1 x2 x3 : Int32} {h h' : mn_H} {r : Option Value} (hy0 : vp_in x3 64) : mn_E 167 32 [.ref 63, .int x1, .int x2, .int x3, .null, .null] [] h r h' ↔ ∃ x h1, mn_X 139 [.ref 63, .int (h 72 x3.toNatClampNeg)] h (some (.int x)) h1 ∧ mn_E 167 43 [.ref 63, .int x1, .int x2, .int x3, .null, .null] [.int x, .int x2] h1 r h' :=
  (mX_iload_n d_X8_takes_32 rfl).trans <| (mX_aload_n d_X8_takes_33 rfl).trans <| (mX_aload_n d_X8_takes_34 rfl).trans <| (mG_r (b := 72) d_X8_takes_35 fr_167_39 rfl (by decide) rfl).trans <| (mX_iload_n d_X8_takes_38 rfl).trans <| (mX_iaload d_X8_takes_39 rfl (by decide) hy0).trans <| mV_i (a := 63) (vs := [.int (h 72 x3.toNatClampNeg)]) (st' := [.int x2]) d_X8_takes_40 cv_167_104 (Or.inl rfl) (Nat.le_of_ble_eq_true rfl) rfl rfl rfl rfl
theorem b_X8_takes_43 {x1 x2 x3 s0 s1 : Int32} {h h' : mn_H} {r : Option Value} : mn_E 167 43 [.ref 63, .int x1, .int x2, .int x3, .null, .null] [.int s0, .int s1] h r h' ↔ mn_E 167 24 [.ref 63, .int x1, .int (s1 + s0), .int (x3 + 1), .null, .null] [] h r h' :=
  (mX_iadd d_X8_takes_43).trans <| (mX_istore_n (ls' := [.ref 63, .int x1, .int (s1 + s0), .int x3, .null, .null]) d_X8_takes_44 rfl rfl).trans <| (mX_iinc (ls' := [.ref 63, .int x1, .int (s1 + s0), .int (x3 + 1), .null, .null]) d_X8_takes_45 rfl ci_1 rfl rfl).trans <| mX_goto d_X8_takes_48 rfl
theorem b_X8_takes_51 {x1 x2 x3 : Int32} {h h' : mn_H} {r : Option Value} : mn_E 167 51 [.ref 63, .int x1, .int x2, .int x3, .null, .null] [] h r h' ↔ if (0 : Int32) ≤ x2 then mn_E 167 60 [.ref 63, .int x1, .int x2, .int x3, .null, .null] [] h r h' else mn_E 167 55 [.ref 63, .int x1, .int x2, .int x3, .null, .null] [] h r h' :=
  (mX_iload_n d_X8_takes_51 rfl).trans <| mX_if_ge d_X8_takes_52 rfl
theorem b_X8_takes_55 {x1 x2 x3 : Int32} {h h' : mn_H} {r : Option Value} : mn_E 167 55 [.ref 63, .int x1, .int x2, .int x3, .null, .null] [] h r h' ↔ mn_E 167 61 [.ref 63, .int x1, .int x2, .int x3, .null, .null] [.int (-x2)] h r h' :=
  (mX_iload_n d_X8_takes_55 rfl).trans <| (mX_ineg d_X8_takes_56).trans <| mX_goto d_X8_takes_57 rfl
theorem b_X8_takes_60 {x1 x2 x3 : Int32} {h h' : mn_H} {r : Option Value} : mn_E 167 60 [.ref 63, .int x1, .int x2, .int x3, .null, .null] [] h r h' ↔ mn_E 167 61 [.ref 63, .int x1, .int x2, .int x3, .null, .null] [.int x2] h r h' :=
  mX_iload_n d_X8_takes_60 rfl
theorem b_X8_takes_61 {x1 x2 x3 s0 : Int32} {h h' : mn_H} {r : Option Value} : mn_E 167 61 [.ref 63, .int x1, .int x2, .int x3, .null, .null] [.int s0] h r h' ↔ mn_E 167 68 [.ref 63, .int x1, .int x2, .int s0, .int (h 63 22), .null] [] h r h' :=
  (mX_istore_n (ls' := [.ref 63, .int x1, .int x2, .int s0, .null, .null]) d_X8_takes_61 rfl rfl).trans <| (mX_aload_n d_X8_takes_62 rfl).trans <| (mG_i d_X8_takes_63 fi_167_168 rfl (by decide)).trans <| mX_istore (ls' := [.ref 63, .int x1, .int x2, .int s0, .int (h 63 22), .null]) d_X8_takes_66 rfl rfl
theorem b_X8_takes_68 {x1 x2 x3 x4 : Int32} {w5 : Value} {h h' : mn_H} {r : Option Value} : mn_E 167 68 [.ref 63, .int x1, .int x2, .int x3, .int x4, w5] [] h r h' ↔ if x4 ≤ 0 then mn_E 167 89 [.ref 63, .int x1, .int x2, .int x3, .int x4, w5] [] h r h' else mn_E 167 73 [.ref 63, .int x1, .int x2, .int x3, .int x4, w5] [] h r h' :=
  (mX_iload d_X8_takes_68 rfl).trans <| mX_if_le d_X8_takes_70 rfl
theorem b_X8_takes_73 {x1 x2 x3 x4 : Int32} {w5 : Value} {h h' : mn_H} {r : Option Value} (hy0 : ¬ x4 = 0) : mn_E 167 73 [.ref 63, .int x1, .int x2, .int x3, .int x4, w5] [] h r h' ↔ mn_E 167 68 [.ref 63, .int x1, .int x2, .int x4, .int (x3 - x3 / x4 * x4), .int (x3 - x3 / x4 * x4)] [] h r h' :=
  (mX_iload_n d_X8_takes_73 rfl).trans <| (mX_iload d_X8_takes_74 rfl).trans <| (mX_irem d_X8_takes_76 hy0).trans <| (mX_istore (ls' := [.ref 63, .int x1, .int x2, .int x3, .int x4, .int (x3 - x3 / x4 * x4)]) d_X8_takes_77 rfl rfl).trans <| (mX_iload d_X8_takes_79 rfl).trans <| (mX_istore_n (ls' := [.ref 63, .int x1, .int x2, .int x4, .int x4, .int (x3 - x3 / x4 * x4)]) d_X8_takes_81 rfl rfl).trans <| (mX_iload d_X8_takes_82 rfl).trans <| (mX_istore (ls' := [.ref 63, .int x1, .int x2, .int x4, .int (x3 - x3 / x4 * x4), .int (x3 - x3 / x4 * x4)]) d_X8_takes_84 rfl rfl).trans <| mX_goto d_X8_takes_86 rfl
theorem b_X8_takes_89 {x1 x2 x3 x4 : Int32} {w5 : Value} {h h' : mn_H} {r : Option Value} : mn_E 167 89 [.ref 63, .int x1, .int x2, .int x3, .int x4, w5] [] h r h' ↔ if ¬ x1 = 0 then mn_E 167 99 [.ref 63, .int x1, .int x2, .int x3, .int x4, w5] [] h r h' else mn_E 167 93 [.ref 63, .int x1, .int x2, .int x3, .int x4, w5] [] h r h' :=
  (mX_iload_n d_X8_takes_89 rfl).trans <| mX_if_ne d_X8_takes_90 rfl
theorem b_X8_takes_93 {x1 x2 x3 x4 : Int32} {w5 : Value} {h h' : mn_H} {r : Option Value} (hy0 : ¬ x3 = 0) : mn_E 167 93 [.ref 63, .int x1, .int x2, .int x3, .int x4, w5] [] h r h' ↔ mn_E 167 105 [.ref 63, .int x1, .int x2, .int x3, .int x4, w5] [.int (x2 / x3)] h r h' :=
  (mX_iload_n d_X8_takes_93 rfl).trans <| (mX_iload_n d_X8_takes_94 rfl).trans <| (mX_idiv d_X8_takes_95 hy0).trans <| mX_goto d_X8_takes_96 rfl
theorem b_X8_takes_99 {x1 x2 x3 x4 : Int32} {w5 : Value} {h h' : mn_H} {r : Option Value} (hy0 : ¬ x3 = 0) : mn_E 167 99 [.ref 63, .int x1, .int x2, .int x3, .int x4, w5] [] h r h' ↔ mn_E 167 105 [.ref 63, .int x1, .int x2, .int x3, .int x4, w5] [.int ((h 63 22) / x3)] h r h' :=
  (mX_aload_n d_X8_takes_99 rfl).trans <| (mG_i d_X8_takes_100 fi_167_168 rfl (by decide)).trans <| (mX_iload_n d_X8_takes_103 rfl).trans <| mX_idiv d_X8_takes_104 hy0
theorem b_X8_takes_105 {x1 x2 x3 x4 s0 : Int32} {w5 : Value} {h h' : mn_H} {r : Option Value} : mn_E 167 105 [.ref 63, .int x1, .int x2, .int x3, .int x4, w5] [.int s0] h r h' ↔ r = some (.int s0) ∧ h' = h :=
  mX_iret d_X8_takes_105 rfl
-- X8_wire
theorem mo_168 : mO 168 = 8 := rfl
theorem d_X8_wire_0 : decode (mC 168) 0 = .ok (.aload_n 0, 1) := by decide +kernel
theorem d_X8_wire_1 : decode (mC 168) 1 = .ok (.iload_n 1, 1) := by decide +kernel
theorem d_X8_wire_2 : decode (mC 168) 2 = .ok (.invokevirtual 120, 3) := by decide +kernel
theorem d_X8_wire_5 : decode (mC 168) 5 = .ok (.ifCond .eq 16, 3) := by decide +kernel
theorem d_X8_wire_8 : decode (mC 168) 8 = .ok (.aload_n 0, 1) := by decide +kernel
theorem d_X8_wire_9 : decode (mC 168) 9 = .ok (.iload_n 2, 1) := by decide +kernel
theorem d_X8_wire_10 : decode (mC 168) 10 = .ok (.invokevirtual 120, 3) := by decide +kernel
theorem d_X8_wire_13 : decode (mC 168) 13 = .ok (.ifCond .eq 8, 3) := by decide +kernel
theorem d_X8_wire_16 : decode (mC 168) 16 = .ok (.iload_n 1, 1) := by decide +kernel
theorem d_X8_wire_17 : decode (mC 168) 17 = .ok (.iload_n 2, 1) := by decide +kernel
theorem d_X8_wire_18 : decode (mC 168) 18 = .ok (.if_icmp .ne 6, 3) := by decide +kernel
theorem d_X8_wire_21 : decode (mC 168) 21 = .ok (.ldc 124, 2) := by decide +kernel
theorem d_X8_wire_23 : decode (mC 168) 23 = .ok (.ireturn, 1) := by decide +kernel
theorem d_X8_wire_24 : decode (mC 168) 24 = .ok (.aload_n 0, 1) := by decide +kernel
theorem d_X8_wire_25 : decode (mC 168) 25 = .ok (.invokevirtual 107, 3) := by decide +kernel
theorem d_X8_wire_28 : decode (mC 168) 28 = .ok (.aload_n 0, 1) := by decide +kernel
theorem d_X8_wire_29 : decode (mC 168) 29 = .ok (.iload_n 1, 1) := by decide +kernel
theorem d_X8_wire_30 : decode (mC 168) 30 = .ok (.putfield 143, 3) := by decide +kernel
theorem d_X8_wire_33 : decode (mC 168) 33 = .ok (.aload_n 0, 1) := by decide +kernel
theorem d_X8_wire_34 : decode (mC 168) 34 = .ok (.iload_n 2, 1) := by decide +kernel
theorem d_X8_wire_35 : decode (mC 168) 35 = .ok (.putfield 151, 3) := by decide +kernel
theorem d_X8_wire_38 : decode (mC 168) 38 = .ok (.aload_n 0, 1) := by decide +kernel
theorem d_X8_wire_39 : decode (mC 168) 39 = .ok (.invokevirtual 117, 3) := by decide +kernel
theorem d_X8_wire_42 : decode (mC 168) 42 = .ok (.ireturn, 1) := by decide +kernel
theorem cv_168_120 : mn_cvt 168 8 120 115 = true := by decide +kernel
theorem cv_168_107 : mn_cvt 168 8 107 141 = true := by decide +kernel
theorem fi_168_143 : mn_fi 168 8 143 8 17 = true := by decide +kernel
theorem fi_168_151 : mn_fi 168 8 151 8 18 = true := by decide +kernel
theorem cv_168_117 : mn_cvt 168 8 117 146 = true := by decide +kernel
theorem b_X8_wire_0 {x1 x2 : Int32} {h h' : mn_H} {r : Option Value} : mn_E 168 0 [.ref 63, .int x1, .int x2] [] h r h' ↔ ∃ x h1, mn_X 115 [.ref 63, .int x1] h (some (.int x)) h1 ∧ mn_E 168 5 [.ref 63, .int x1, .int x2] [.int x] h1 r h' :=
  (mX_aload_n d_X8_wire_0 rfl).trans <| (mX_iload_n d_X8_wire_1 rfl).trans <| mV_i (a := 63) (vs := [.int x1]) (st' := []) d_X8_wire_2 cv_168_120 (Or.inr (Or.inl rfl)) (Nat.le_of_ble_eq_true rfl) rfl rfl rfl rfl
theorem b_X8_wire_5 {x1 x2 s0 : Int32} {h h' : mn_H} {r : Option Value} : mn_E 168 5 [.ref 63, .int x1, .int x2] [.int s0] h r h' ↔ if s0 = 0 then mn_E 168 21 [.ref 63, .int x1, .int x2] [] h r h' else mn_E 168 8 [.ref 63, .int x1, .int x2] [] h r h' :=
  mX_if_eq d_X8_wire_5 rfl
theorem b_X8_wire_8 {x1 x2 : Int32} {h h' : mn_H} {r : Option Value} : mn_E 168 8 [.ref 63, .int x1, .int x2] [] h r h' ↔ ∃ x h1, mn_X 115 [.ref 63, .int x2] h (some (.int x)) h1 ∧ mn_E 168 13 [.ref 63, .int x1, .int x2] [.int x] h1 r h' :=
  (mX_aload_n d_X8_wire_8 rfl).trans <| (mX_iload_n d_X8_wire_9 rfl).trans <| mV_i (a := 63) (vs := [.int x2]) (st' := []) d_X8_wire_10 cv_168_120 (Or.inr (Or.inl rfl)) (Nat.le_of_ble_eq_true rfl) rfl rfl rfl rfl
theorem b_X8_wire_13 {x1 x2 s0 : Int32} {h h' : mn_H} {r : Option Value} : mn_E 168 13 [.ref 63, .int x1, .int x2] [.int s0] h r h' ↔ if s0 = 0 then mn_E 168 21 [.ref 63, .int x1, .int x2] [] h r h' else mn_E 168 16 [.ref 63, .int x1, .int x2] [] h r h' :=
  mX_if_eq d_X8_wire_13 rfl
theorem b_X8_wire_16 {x1 x2 : Int32} {h h' : mn_H} {r : Option Value} : mn_E 168 16 [.ref 63, .int x1, .int x2] [] h r h' ↔ if ¬ x1 = x2 then mn_E 168 24 [.ref 63, .int x1, .int x2] [] h r h' else mn_E 168 21 [.ref 63, .int x1, .int x2] [] h r h' :=
  (mX_iload_n d_X8_wire_16 rfl).trans <| (mX_iload_n d_X8_wire_17 rfl).trans <| mX_icmp_ne d_X8_wire_18 rfl
theorem b_X8_wire_21 {x1 x2 : Int32} {h h' : mn_H} {r : Option Value} : mn_E 168 21 [.ref 63, .int x1, .int x2] [] h r h' ↔ r = some (.int (-1000000001)) ∧ h' = h :=
  (mX_ldc d_X8_wire_21 mo_168 kc_8_124 (by decide)).trans <| mX_iret d_X8_wire_23 rfl
theorem b_X8_wire_24 {x1 x2 : Int32} {h h' : mn_H} {r : Option Value} : mn_E 168 24 [.ref 63, .int x1, .int x2] [] h r h' ↔ ∃ h1, mn_X 141 [.ref 63] h none h1 ∧ mn_E 168 28 [.ref 63, .int x1, .int x2] [] h1 r h' :=
  (mX_aload_n d_X8_wire_24 rfl).trans <| mV_v (a := 63) (vs := []) (st' := []) d_X8_wire_25 cv_168_107 rfl (Nat.le_of_ble_eq_true rfl) rfl rfl rfl rfl
theorem b_X8_wire_28 {x1 x2 : Int32} {h h' : mn_H} {r : Option Value} : mn_E 168 28 [.ref 63, .int x1, .int x2] [] h r h' ↔ ∃ x h1, mn_X 146 [.ref 63] (mn_up (mn_up h 63 17 x1) 63 18 x2) (some (.int x)) h1 ∧ mn_E 168 42 [.ref 63, .int x1, .int x2] [.int x] h1 r h' :=
  (mX_aload_n d_X8_wire_28 rfl).trans <| (mX_iload_n d_X8_wire_29 rfl).trans <| (mP_i d_X8_wire_30 fi_168_143 rfl (by decide) rfl (Or.inl (by decide))).trans <| (mX_aload_n d_X8_wire_33 rfl).trans <| (mX_iload_n d_X8_wire_34 rfl).trans <| (mP_i d_X8_wire_35 fi_168_151 rfl (by decide) rfl (Or.inl (by decide))).trans <| (mX_aload_n d_X8_wire_38 rfl).trans <| mV_i (a := 63) (vs := []) (st' := []) d_X8_wire_39 cv_168_117 (Or.inl rfl) (Nat.le_of_ble_eq_true rfl) rfl rfl rfl rfl
theorem b_X8_wire_42 {x1 x2 s0 : Int32} {h h' : mn_H} {r : Option Value} : mn_E 168 42 [.ref 63, .int x1, .int x2] [.int s0] h r h' ↔ r = some (.int s0) ∧ h' = h :=
  mX_iret d_X8_wire_42 rfl
-- X8_round
theorem mo_169 : mO 169 = 8 := rfl
theorem d_X8_round_0 : decode (mC 169) 0 = .ok (.iconst 1, 1) := by decide +kernel
theorem d_X8_round_1 : decode (mC 169) 1 = .ok (.istore_n 1, 1) := by decide +kernel
theorem d_X8_round_2 : decode (mC 169) 2 = .ok (.iconst 0, 1) := by decide +kernel
theorem d_X8_round_3 : decode (mC 169) 3 = .ok (.istore_n 2, 1) := by decide +kernel
theorem d_X8_round_4 : decode (mC 169) 4 = .ok (.iload_n 2, 1) := by decide +kernel
theorem d_X8_round_5 : decode (mC 169) 5 = .ok (.aload_n 0, 1) := by decide +kernel
theorem d_X8_round_6 : decode (mC 169) 6 = .ok (.getfield 13, 3) := by decide +kernel
theorem d_X8_round_9 : decode (mC 169) 9 = .ok (.iconst 4, 1) := by decide +kernel
theorem d_X8_round_10 : decode (mC 169) 10 = .ok (.iaload, 1) := by decide +kernel
theorem d_X8_round_11 : decode (mC 169) 11 = .ok (.if_icmp .ge 41, 3) := by decide +kernel
theorem d_X8_round_14 : decode (mC 169) 14 = .ok (.iconst 1, 1) := by decide +kernel
theorem d_X8_round_15 : decode (mC 169) 15 = .ok (.istore_n 3, 1) := by decide +kernel
theorem d_X8_round_16 : decode (mC 169) 16 = .ok (.iload_n 1, 1) := by decide +kernel
theorem d_X8_round_17 : decode (mC 169) 17 = .ok (.iload_n 3, 1) := by decide +kernel
theorem d_X8_round_18 : decode (mC 169) 18 = .ok (.imul, 1) := by decide +kernel
theorem d_X8_round_19 : decode (mC 169) 19 = .ok (.aload_n 0, 1) := by decide +kernel
theorem d_X8_round_20 : decode (mC 169) 20 = .ok (.getfield 13, 3) := by decide +kernel
theorem d_X8_round_23 : decode (mC 169) 23 = .ok (.bipush 80, 2) := by decide +kernel
theorem d_X8_round_25 : decode (mC 169) 25 = .ok (.iconst 3, 1) := by decide +kernel
theorem d_X8_round_26 : decode (mC 169) 26 = .ok (.iload_n 2, 1) := by decide +kernel
theorem d_X8_round_27 : decode (mC 169) 27 = .ok (.imul, 1) := by decide +kernel
theorem d_X8_round_28 : decode (mC 169) 28 = .ok (.iadd, 1) := by decide +kernel
theorem d_X8_round_29 : decode (mC 169) 29 = .ok (.iconst 1, 1) := by decide +kernel
theorem d_X8_round_30 : decode (mC 169) 30 = .ok (.iadd, 1) := by decide +kernel
theorem d_X8_round_31 : decode (mC 169) 31 = .ok (.iaload, 1) := by decide +kernel
theorem d_X8_round_32 : decode (mC 169) 32 = .ok (.irem, 1) := by decide +kernel
theorem d_X8_round_33 : decode (mC 169) 33 = .ok (.ifCond .eq 9, 3) := by decide +kernel
theorem d_X8_round_36 : decode (mC 169) 36 = .ok (.iinc 3 1, 3) := by decide +kernel
theorem d_X8_round_39 : decode (mC 169) 39 = .ok (.goto (-23), 3) := by decide +kernel
theorem d_X8_round_42 : decode (mC 169) 42 = .ok (.iload_n 1, 1) := by decide +kernel
theorem d_X8_round_43 : decode (mC 169) 43 = .ok (.iload_n 3, 1) := by decide +kernel
theorem d_X8_round_44 : decode (mC 169) 44 = .ok (.imul, 1) := by decide +kernel
theorem d_X8_round_45 : decode (mC 169) 45 = .ok (.istore_n 1, 1) := by decide +kernel
theorem d_X8_round_46 : decode (mC 169) 46 = .ok (.iinc 2 1, 3) := by decide +kernel
theorem d_X8_round_49 : decode (mC 169) 49 = .ok (.goto (-45), 3) := by decide +kernel
theorem d_X8_round_52 : decode (mC 169) 52 = .ok (.iload_n 1, 1) := by decide +kernel
theorem d_X8_round_53 : decode (mC 169) 53 = .ok (.ireturn, 1) := by decide +kernel
theorem fr_169_13 : mn_fr 169 8 13 8 2 = true := by decide +kernel
theorem b_X8_round_0 {h h' : mn_H} {r : Option Value} : mn_E 169 0 [.ref 63, .null, .null, .null] [] h r h' ↔ mn_E 169 4 [.ref 63, .int 1, .int 0, .null] [] h r h' :=
  (mX_iconst d_X8_round_0 ci_1).trans <| (mX_istore_n (ls' := [.ref 63, .int 1, .null, .null]) d_X8_round_1 rfl rfl).trans <| (mX_iconst d_X8_round_2 ci_0).trans <| mX_istore_n (ls' := [.ref 63, .int 1, .int 0, .null]) d_X8_round_3 rfl rfl
theorem b_X8_round_4 {x1 x2 : Int32} {w3 : Value} {h h' : mn_H} {r : Option Value} : mn_E 169 4 [.ref 63, .int x1, .int x2, w3] [] h r h' ↔ if (h 65 (4 : Int32).toNatClampNeg) ≤ x2 then mn_E 169 52 [.ref 63, .int x1, .int x2, w3] [] h r h' else mn_E 169 14 [.ref 63, .int x1, .int x2, w3] [] h r h' :=
  (mX_iload_n d_X8_round_4 rfl).trans <| (mX_aload_n d_X8_round_5 rfl).trans <| (mG_r (b := 65) d_X8_round_6 fr_169_13 rfl (by decide) rfl).trans <| (mX_iconst d_X8_round_9 ci_4).trans <| (mX_iaload d_X8_round_10 rfl (by decide) (mn_in_iff (by decide +kernel))).trans <| mX_icmp_ge d_X8_round_11 rfl
theorem b_X8_round_14 {x1 x2 : Int32} {w3 : Value} {h h' : mn_H} {r : Option Value} : mn_E 169 14 [.ref 63, .int x1, .int x2, w3] [] h r h' ↔ mn_E 169 16 [.ref 63, .int x1, .int x2, .int 1] [] h r h' :=
  (mX_iconst d_X8_round_14 ci_1).trans <| mX_istore_n (ls' := [.ref 63, .int x1, .int x2, .int 1]) d_X8_round_15 rfl rfl
theorem b_X8_round_16 {x1 x2 x3 : Int32} {h h' : mn_H} {r : Option Value} (hy0 : vp_in ((80 + (3 * x2)) + 1) 96) (hy1 : ¬ (h 65 ((80 + (3 * x2)) + 1).toNatClampNeg) = 0) : mn_E 169 16 [.ref 63, .int x1, .int x2, .int x3] [] h r h' ↔ if ((x1 * x3) - (x1 * x3) / (h 65 ((80 + (3 * x2)) + 1).toNatClampNeg) * (h 65 ((80 + (3 * x2)) + 1).toNatClampNeg)) = 0 then mn_E 169 42 [.ref 63, .int x1, .int x2, .int x3] [] h r h' else mn_E 169 36 [.ref 63, .int x1, .int x2, .int x3] [] h r h' :=
  (mX_iload_n d_X8_round_16 rfl).trans <| (mX_iload_n d_X8_round_17 rfl).trans <| (mX_imul d_X8_round_18).trans <| (mX_aload_n d_X8_round_19 rfl).trans <| (mG_r (b := 65) d_X8_round_20 fr_169_13 rfl (by decide) rfl).trans <| (mX_bipush d_X8_round_23 cb_80).trans <| (mX_iconst d_X8_round_25 ci_3).trans <| (mX_iload_n d_X8_round_26 rfl).trans <| (mX_imul d_X8_round_27).trans <| (mX_iadd d_X8_round_28).trans <| (mX_iconst d_X8_round_29 ci_1).trans <| (mX_iadd d_X8_round_30).trans <| (mX_iaload d_X8_round_31 rfl (by decide) hy0).trans <| (mX_irem d_X8_round_32 hy1).trans <| mX_if_eq d_X8_round_33 rfl
theorem b_X8_round_36 {x1 x2 x3 : Int32} {h h' : mn_H} {r : Option Value} : mn_E 169 36 [.ref 63, .int x1, .int x2, .int x3] [] h r h' ↔ mn_E 169 16 [.ref 63, .int x1, .int x2, .int (x3 + 1)] [] h r h' :=
  (mX_iinc (ls' := [.ref 63, .int x1, .int x2, .int (x3 + 1)]) d_X8_round_36 rfl ci_1 rfl rfl).trans <| mX_goto d_X8_round_39 rfl
theorem b_X8_round_42 {x1 x2 x3 : Int32} {h h' : mn_H} {r : Option Value} : mn_E 169 42 [.ref 63, .int x1, .int x2, .int x3] [] h r h' ↔ mn_E 169 4 [.ref 63, .int (x1 * x3), .int (x2 + 1), .int x3] [] h r h' :=
  (mX_iload_n d_X8_round_42 rfl).trans <| (mX_iload_n d_X8_round_43 rfl).trans <| (mX_imul d_X8_round_44).trans <| (mX_istore_n (ls' := [.ref 63, .int (x1 * x3), .int x2, .int x3]) d_X8_round_45 rfl rfl).trans <| (mX_iinc (ls' := [.ref 63, .int (x1 * x3), .int (x2 + 1), .int x3]) d_X8_round_46 rfl ci_1 rfl rfl).trans <| mX_goto d_X8_round_49 rfl
theorem b_X8_round_52 {x1 x2 : Int32} {w3 : Value} {h h' : mn_H} {r : Option Value} : mn_E 169 52 [.ref 63, .int x1, .int x2, w3] [] h r h' ↔ r = some (.int x1) ∧ h' = h :=
  (mX_iload_n d_X8_round_52 rfl).trans <| mX_iret d_X8_round_53 rfl
-- X8_answers
theorem mo_170 : mO 170 = 8 := rfl
theorem d_X8_answers_0 : decode (mC 170) 0 = .ok (.iload_n 1, 1) := by decide +kernel
theorem d_X8_answers_1 : decode (mC 170) 1 = .ok (.iconst 0, 1) := by decide +kernel
theorem d_X8_answers_2 : decode (mC 170) 2 = .ok (.iconst 1, 1) := by decide +kernel
theorem d_X8_answers_3 : decode (mC 170) 3 = .ok (.invokestatic 46, 3) := by decide +kernel
theorem d_X8_answers_6 : decode (mC 170) 6 = .ok (.ifCond .ne 6, 3) := by decide +kernel
theorem d_X8_answers_9 : decode (mC 170) 9 = .ok (.ldc 50, 2) := by decide +kernel
theorem d_X8_answers_11 : decode (mC 170) 11 = .ok (.ireturn, 1) := by decide +kernel
theorem d_X8_answers_12 : decode (mC 170) 12 = .ok (.aload_n 0, 1) := by decide +kernel
theorem d_X8_answers_13 : decode (mC 170) 13 = .ok (.invokevirtual 107, 3) := by decide +kernel
theorem d_X8_answers_16 : decode (mC 170) 16 = .ok (.aload_n 0, 1) := by decide +kernel
theorem d_X8_answers_17 : decode (mC 170) 17 = .ok (.invokevirtual 197, 3) := by decide +kernel
theorem d_X8_answers_20 : decode (mC 170) 20 = .ok (.istore_n 2, 1) := by decide +kernel
theorem d_X8_answers_21 : decode (mC 170) 21 = .ok (.iconst 0, 1) := by decide +kernel
theorem d_X8_answers_22 : decode (mC 170) 22 = .ok (.istore_n 3, 1) := by decide +kernel
theorem d_X8_answers_23 : decode (mC 170) 23 = .ok (.iload_n 3, 1) := by decide +kernel
theorem d_X8_answers_24 : decode (mC 170) 24 = .ok (.bipush 64, 2) := by decide +kernel
theorem d_X8_answers_26 : decode (mC 170) 26 = .ok (.iload_n 2, 1) := by decide +kernel
theorem d_X8_answers_27 : decode (mC 170) 27 = .ok (.imul, 1) := by decide +kernel
theorem d_X8_answers_28 : decode (mC 170) 28 = .ok (.if_icmp .ge 16, 3) := by decide +kernel
theorem d_X8_answers_31 : decode (mC 170) 31 = .ok (.aload_n 0, 1) := by decide +kernel
theorem d_X8_answers_32 : decode (mC 170) 32 = .ok (.getfield 43, 3) := by decide +kernel
theorem d_X8_answers_35 : decode (mC 170) 35 = .ok (.iload_n 3, 1) := by decide +kernel
theorem d_X8_answers_36 : decode (mC 170) 36 = .ok (.iconst 0, 1) := by decide +kernel
theorem d_X8_answers_37 : decode (mC 170) 37 = .ok (.iastore, 1) := by decide +kernel
theorem d_X8_answers_38 : decode (mC 170) 38 = .ok (.iinc 3 1, 3) := by decide +kernel
theorem d_X8_answers_41 : decode (mC 170) 41 = .ok (.goto (-18), 3) := by decide +kernel
theorem d_X8_answers_44 : decode (mC 170) 44 = .ok (.aload_n 0, 1) := by decide +kernel
theorem d_X8_answers_45 : decode (mC 170) 45 = .ok (.dup, 1) := by decide +kernel
theorem d_X8_answers_46 : decode (mC 170) 46 = .ok (.getfield 149, 3) := by decide +kernel
theorem d_X8_answers_49 : decode (mC 170) 49 = .ok (.iload_n 2, 1) := by decide +kernel
theorem d_X8_answers_50 : decode (mC 170) 50 = .ok (.irem, 1) := by decide +kernel
theorem d_X8_answers_51 : decode (mC 170) 51 = .ok (.putfield 149, 3) := by decide +kernel
theorem d_X8_answers_54 : decode (mC 170) 54 = .ok (.iconst 0, 1) := by decide +kernel
theorem d_X8_answers_55 : decode (mC 170) 55 = .ok (.istore_n 3, 1) := by decide +kernel
theorem d_X8_answers_56 : decode (mC 170) 56 = .ok (.aload_n 0, 1) := by decide +kernel
theorem d_X8_answers_57 : decode (mC 170) 57 = .ok (.getfield 43, 3) := by decide +kernel
theorem d_X8_answers_60 : decode (mC 170) 60 = .ok (.bipush 64, 2) := by decide +kernel
theorem d_X8_answers_62 : decode (mC 170) 62 = .ok (.aload_n 0, 1) := by decide +kernel
theorem d_X8_answers_63 : decode (mC 170) 63 = .ok (.getfield 149, 3) := by decide +kernel
theorem d_X8_answers_66 : decode (mC 170) 66 = .ok (.imul, 1) := by decide +kernel
theorem d_X8_answers_67 : decode (mC 170) 67 = .ok (.aload_n 0, 1) := by decide +kernel
theorem d_X8_answers_68 : decode (mC 170) 68 = .ok (.getfield 146, 3) := by decide +kernel
theorem d_X8_answers_71 : decode (mC 170) 71 = .ok (.iadd, 1) := by decide +kernel
theorem d_X8_answers_72 : decode (mC 170) 72 = .ok (.iaload, 1) := by decide +kernel
theorem d_X8_answers_73 : decode (mC 170) 73 = .ok (.ifCond .ne 53, 3) := by decide +kernel
theorem d_X8_answers_76 : decode (mC 170) 76 = .ok (.iinc 3 1, 3) := by decide +kernel
theorem d_X8_answers_79 : decode (mC 170) 79 = .ok (.aload_n 0, 1) := by decide +kernel
theorem d_X8_answers_80 : decode (mC 170) 80 = .ok (.getfield 43, 3) := by decide +kernel
theorem d_X8_answers_83 : decode (mC 170) 83 = .ok (.bipush 64, 2) := by decide +kernel
theorem d_X8_answers_85 : decode (mC 170) 85 = .ok (.aload_n 0, 1) := by decide +kernel
theorem d_X8_answers_86 : decode (mC 170) 86 = .ok (.getfield 149, 3) := by decide +kernel
theorem d_X8_answers_89 : decode (mC 170) 89 = .ok (.imul, 1) := by decide +kernel
theorem d_X8_answers_90 : decode (mC 170) 90 = .ok (.aload_n 0, 1) := by decide +kernel
theorem d_X8_answers_91 : decode (mC 170) 91 = .ok (.getfield 146, 3) := by decide +kernel
theorem d_X8_answers_94 : decode (mC 170) 94 = .ok (.iadd, 1) := by decide +kernel
theorem d_X8_answers_95 : decode (mC 170) 95 = .ok (.iload_n 3, 1) := by decide +kernel
theorem d_X8_answers_96 : decode (mC 170) 96 = .ok (.iastore, 1) := by decide +kernel
theorem d_X8_answers_97 : decode (mC 170) 97 = .ok (.aload_n 0, 1) := by decide +kernel
theorem d_X8_answers_98 : decode (mC 170) 98 = .ok (.invokevirtual 174, 3) := by decide +kernel
theorem d_X8_answers_101 : decode (mC 170) 101 = .ok (.aload_n 0, 1) := by decide +kernel
theorem d_X8_answers_102 : decode (mC 170) 102 = .ok (.aload_n 0, 1) := by decide +kernel
theorem d_X8_answers_103 : decode (mC 170) 103 = .ok (.getfield 39, 3) := by decide +kernel
theorem d_X8_answers_106 : decode (mC 170) 106 = .ok (.iconst 0, 1) := by decide +kernel
theorem d_X8_answers_107 : decode (mC 170) 107 = .ok (.iaload, 1) := by decide +kernel
theorem d_X8_answers_108 : decode (mC 170) 108 = .ok (.putfield 146, 3) := by decide +kernel
theorem d_X8_answers_111 : decode (mC 170) 111 = .ok (.aload_n 0, 1) := by decide +kernel
theorem d_X8_answers_112 : decode (mC 170) 112 = .ok (.aload_n 0, 1) := by decide +kernel
theorem d_X8_answers_113 : decode (mC 170) 113 = .ok (.getfield 149, 3) := by decide +kernel
theorem d_X8_answers_116 : decode (mC 170) 116 = .ok (.iconst 1, 1) := by decide +kernel
theorem d_X8_answers_117 : decode (mC 170) 117 = .ok (.iadd, 1) := by decide +kernel
theorem d_X8_answers_118 : decode (mC 170) 118 = .ok (.iload_n 2, 1) := by decide +kernel
theorem d_X8_answers_119 : decode (mC 170) 119 = .ok (.irem, 1) := by decide +kernel
theorem d_X8_answers_120 : decode (mC 170) 120 = .ok (.putfield 149, 3) := by decide +kernel
theorem d_X8_answers_123 : decode (mC 170) 123 = .ok (.goto (-67), 3) := by decide +kernel
theorem d_X8_answers_126 : decode (mC 170) 126 = .ok (.aload_n 0, 1) := by decide +kernel
theorem d_X8_answers_127 : decode (mC 170) 127 = .ok (.getfield 43, 3) := by decide +kernel
theorem d_X8_answers_130 : decode (mC 170) 130 = .ok (.bipush 64, 2) := by decide +kernel
theorem d_X8_answers_132 : decode (mC 170) 132 = .ok (.aload_n 0, 1) := by decide +kernel
theorem d_X8_answers_133 : decode (mC 170) 133 = .ok (.getfield 149, 3) := by decide +kernel
theorem d_X8_answers_136 : decode (mC 170) 136 = .ok (.imul, 1) := by decide +kernel
theorem d_X8_answers_137 : decode (mC 170) 137 = .ok (.aload_n 0, 1) := by decide +kernel
theorem d_X8_answers_138 : decode (mC 170) 138 = .ok (.getfield 146, 3) := by decide +kernel
theorem d_X8_answers_141 : decode (mC 170) 141 = .ok (.iadd, 1) := by decide +kernel
theorem d_X8_answers_142 : decode (mC 170) 142 = .ok (.iaload, 1) := by decide +kernel
theorem d_X8_answers_143 : decode (mC 170) 143 = .ok (.iconst 1, 1) := by decide +kernel
theorem d_X8_answers_144 : decode (mC 170) 144 = .ok (.isub, 1) := by decide +kernel
theorem d_X8_answers_145 : decode (mC 170) 145 = .ok (.istore 4, 2) := by decide +kernel
theorem d_X8_answers_147 : decode (mC 170) 147 = .ok (.iload_n 1, 1) := by decide +kernel
theorem d_X8_answers_148 : decode (mC 170) 148 = .ok (.ifCond .ne 8, 3) := by decide +kernel
theorem d_X8_answers_151 : decode (mC 170) 151 = .ok (.iload 4, 2) := by decide +kernel
theorem d_X8_answers_153 : decode (mC 170) 153 = .ok (.goto 7, 3) := by decide +kernel
theorem d_X8_answers_156 : decode (mC 170) 156 = .ok (.iload_n 3, 1) := by decide +kernel
theorem d_X8_answers_157 : decode (mC 170) 157 = .ok (.iload 4, 2) := by decide +kernel
theorem d_X8_answers_159 : decode (mC 170) 159 = .ok (.isub, 1) := by decide +kernel
theorem d_X8_answers_160 : decode (mC 170) 160 = .ok (.ireturn, 1) := by decide +kernel
theorem cs_170_46 : mn_cs 170 8 46 114 = true := by decide +kernel
theorem cv_170_107 : mn_cvt 170 8 107 141 = true := by decide +kernel
theorem cv_170_197 : mn_cvt 170 8 197 169 = true := by decide +kernel
theorem fr_170_43 : mn_fr 170 8 43 8 23 = true := by decide +kernel
theorem fi_170_149 : mn_fi 170 8 149 8 20 = true := by decide +kernel
theorem fi_170_146 : mn_fi 170 8 146 8 19 = true := by decide +kernel
theorem cv_170_174 : mn_cvt 170 8 174 147 = true := by decide +kernel
theorem fr_170_39 : mn_fr 170 8 39 8 21 = true := by decide +kernel
theorem b_X8_answers_0 {x1 : Int32} {h h' : mn_H} {r : Option Value} : mn_E 170 0 [.ref 63, .int x1, .null, .null, .null] [] h r h' ↔ ∃ x h1, mn_X 114 [.int x1, .int 0, .int 1] h (some (.int x)) h1 ∧ mn_E 170 6 [.ref 63, .int x1, .null, .null, .null] [.int x] h1 r h' :=
  (mX_iload_n d_X8_answers_0 rfl).trans <| (mX_iconst d_X8_answers_1 ci_0).trans <| (mX_iconst d_X8_answers_2 ci_1).trans <| mS_i (vs := [.int x1, .int 0, .int 1]) (st' := []) d_X8_answers_3 cs_170_46 (Or.inr (Or.inl rfl)) (Nat.le_of_ble_eq_true rfl) rfl rfl rfl
theorem b_X8_answers_6 {x1 s0 : Int32} {h h' : mn_H} {r : Option Value} : mn_E 170 6 [.ref 63, .int x1, .null, .null, .null] [.int s0] h r h' ↔ if ¬ s0 = 0 then mn_E 170 12 [.ref 63, .int x1, .null, .null, .null] [] h r h' else mn_E 170 9 [.ref 63, .int x1, .null, .null, .null] [] h r h' :=
  mX_if_ne d_X8_answers_6 rfl
theorem b_X8_answers_9 {x1 : Int32} {h h' : mn_H} {r : Option Value} : mn_E 170 9 [.ref 63, .int x1, .null, .null, .null] [] h r h' ↔ r = some (.int (-1000000002)) ∧ h' = h :=
  (mX_ldc d_X8_answers_9 mo_170 kc_8_50 (by decide)).trans <| mX_iret d_X8_answers_11 rfl
theorem b_X8_answers_12 {x1 : Int32} {h h' : mn_H} {r : Option Value} : mn_E 170 12 [.ref 63, .int x1, .null, .null, .null] [] h r h' ↔ ∃ h1, mn_X 141 [.ref 63] h none h1 ∧ mn_E 170 16 [.ref 63, .int x1, .null, .null, .null] [] h1 r h' :=
  (mX_aload_n d_X8_answers_12 rfl).trans <| mV_v (a := 63) (vs := []) (st' := []) d_X8_answers_13 cv_170_107 rfl (Nat.le_of_ble_eq_true rfl) rfl rfl rfl rfl
theorem b_X8_answers_16 {x1 : Int32} {h h' : mn_H} {r : Option Value} : mn_E 170 16 [.ref 63, .int x1, .null, .null, .null] [] h r h' ↔ ∃ x h1, mn_X 169 [.ref 63] h (some (.int x)) h1 ∧ mn_E 170 20 [.ref 63, .int x1, .null, .null, .null] [.int x] h1 r h' :=
  (mX_aload_n d_X8_answers_16 rfl).trans <| mV_i (a := 63) (vs := []) (st' := []) d_X8_answers_17 cv_170_197 (Or.inl rfl) (Nat.le_of_ble_eq_true rfl) rfl rfl rfl rfl
theorem b_X8_answers_20 {x1 s0 : Int32} {h h' : mn_H} {r : Option Value} : mn_E 170 20 [.ref 63, .int x1, .null, .null, .null] [.int s0] h r h' ↔ mn_E 170 23 [.ref 63, .int x1, .int s0, .int 0, .null] [] h r h' :=
  (mX_istore_n (ls' := [.ref 63, .int x1, .int s0, .null, .null]) d_X8_answers_20 rfl rfl).trans <| (mX_iconst d_X8_answers_21 ci_0).trans <| mX_istore_n (ls' := [.ref 63, .int x1, .int s0, .int 0, .null]) d_X8_answers_22 rfl rfl
theorem b_X8_answers_23 {x1 x2 x3 : Int32} {h h' : mn_H} {r : Option Value} : mn_E 170 23 [.ref 63, .int x1, .int x2, .int x3, .null] [] h r h' ↔ if (64 * x2) ≤ x3 then mn_E 170 44 [.ref 63, .int x1, .int x2, .int x3, .null] [] h r h' else mn_E 170 31 [.ref 63, .int x1, .int x2, .int x3, .null] [] h r h' :=
  (mX_iload_n d_X8_answers_23 rfl).trans <| (mX_bipush d_X8_answers_24 cb_64).trans <| (mX_iload_n d_X8_answers_26 rfl).trans <| (mX_imul d_X8_answers_27).trans <| mX_icmp_ge d_X8_answers_28 rfl
theorem b_X8_answers_31 {x1 x2 x3 : Int32} {h h' : mn_H} {r : Option Value} (hy0 : vp_in x3 63360) : mn_E 170 31 [.ref 63, .int x1, .int x2, .int x3, .null] [] h r h' ↔ mn_E 170 23 [.ref 63, .int x1, .int x2, .int (x3 + 1), .null] [] (mn_up h 73 (x3.toNatClampNeg) 0) r h' :=
  (mX_aload_n d_X8_answers_31 rfl).trans <| (mG_r (b := 73) d_X8_answers_32 fr_170_43 rfl (by decide) rfl).trans <| (mX_iload_n d_X8_answers_35 rfl).trans <| (mX_iconst d_X8_answers_36 ci_0).trans <| (mX_iastore d_X8_answers_37 rfl (by decide) hy0).trans <| (mX_iinc (ls' := [.ref 63, .int x1, .int x2, .int (x3 + 1), .null]) d_X8_answers_38 rfl ci_1 rfl rfl).trans <| mX_goto d_X8_answers_41 rfl
theorem b_X8_answers_44 {x1 x2 x3 : Int32} {h h' : mn_H} {r : Option Value} (hy0 : ¬ x2 = 0) : mn_E 170 44 [.ref 63, .int x1, .int x2, .int x3, .null] [] h r h' ↔ mn_E 170 56 [.ref 63, .int x1, .int x2, .int 0, .null] [] (mn_up h 63 20 ((h 63 20) - (h 63 20) / x2 * x2)) r h' :=
  (mX_aload_n d_X8_answers_44 rfl).trans <| (mX_dup d_X8_answers_45 rfl).trans <| (mG_i d_X8_answers_46 fi_170_149 rfl (by decide)).trans <| (mX_iload_n d_X8_answers_49 rfl).trans <| (mX_irem d_X8_answers_50 hy0).trans <| (mP_i d_X8_answers_51 fi_170_149 rfl (by decide) rfl (Or.inl (by decide))).trans <| (mX_iconst d_X8_answers_54 ci_0).trans <| mX_istore_n (ls' := [.ref 63, .int x1, .int x2, .int 0, .null]) d_X8_answers_55 rfl rfl
theorem b_X8_answers_56 {x1 x2 x3 : Int32} {h h' : mn_H} {r : Option Value} (hy0 : vp_in ((64 * (h 63 20)) + (h 63 19)) 63360) : mn_E 170 56 [.ref 63, .int x1, .int x2, .int x3, .null] [] h r h' ↔ if ¬ (h 73 ((64 * (h 63 20)) + (h 63 19)).toNatClampNeg) = 0 then mn_E 170 126 [.ref 63, .int x1, .int x2, .int x3, .null] [] h r h' else mn_E 170 76 [.ref 63, .int x1, .int x2, .int x3, .null] [] h r h' :=
  (mX_aload_n d_X8_answers_56 rfl).trans <| (mG_r (b := 73) d_X8_answers_57 fr_170_43 rfl (by decide) rfl).trans <| (mX_bipush d_X8_answers_60 cb_64).trans <| (mX_aload_n d_X8_answers_62 rfl).trans <| (mG_i d_X8_answers_63 fi_170_149 rfl (by decide)).trans <| (mX_imul d_X8_answers_66).trans <| (mX_aload_n d_X8_answers_67 rfl).trans <| (mG_i d_X8_answers_68 fi_170_146 rfl (by decide)).trans <| (mX_iadd d_X8_answers_71).trans <| (mX_iaload d_X8_answers_72 rfl (by decide) hy0).trans <| mX_if_ne d_X8_answers_73 rfl
theorem b_X8_answers_76 {x1 x2 x3 : Int32} {h h' : mn_H} {r : Option Value} (hy0 : vp_in ((64 * (h 63 20)) + (h 63 19)) 63360) : mn_E 170 76 [.ref 63, .int x1, .int x2, .int x3, .null] [] h r h' ↔ ∃ h1, mn_X 147 [.ref 63] (mn_up h 73 (((64 * (h 63 20)) + (h 63 19)).toNatClampNeg) (x3 + 1)) none h1 ∧ mn_E 170 101 [.ref 63, .int x1, .int x2, .int (x3 + 1), .null] [] h1 r h' :=
  (mX_iinc (ls' := [.ref 63, .int x1, .int x2, .int (x3 + 1), .null]) d_X8_answers_76 rfl ci_1 rfl rfl).trans <| (mX_aload_n d_X8_answers_79 rfl).trans <| (mG_r (b := 73) d_X8_answers_80 fr_170_43 rfl (by decide) rfl).trans <| (mX_bipush d_X8_answers_83 cb_64).trans <| (mX_aload_n d_X8_answers_85 rfl).trans <| (mG_i d_X8_answers_86 fi_170_149 rfl (by decide)).trans <| (mX_imul d_X8_answers_89).trans <| (mX_aload_n d_X8_answers_90 rfl).trans <| (mG_i d_X8_answers_91 fi_170_146 rfl (by decide)).trans <| (mX_iadd d_X8_answers_94).trans <| (mX_iload_n d_X8_answers_95 rfl).trans <| (mX_iastore d_X8_answers_96 rfl (by decide) hy0).trans <| (mX_aload_n d_X8_answers_97 rfl).trans <| mV_v (a := 63) (vs := []) (st' := []) d_X8_answers_98 cv_170_174 rfl (Nat.le_of_ble_eq_true rfl) rfl rfl rfl rfl
theorem b_X8_answers_101 {x1 x2 x3 : Int32} {h h' : mn_H} {r : Option Value} (hy0 : ¬ x2 = 0) : mn_E 170 101 [.ref 63, .int x1, .int x2, .int x3, .null] [] h r h' ↔ mn_E 170 56 [.ref 63, .int x1, .int x2, .int x3, .null] [] (mn_up (mn_up h 63 19 (h 72 (0 : Int32).toNatClampNeg)) 63 20 ((((mn_up h 63 19 (h 72 (0 : Int32).toNatClampNeg)) 63 20) + 1) - (((mn_up h 63 19 (h 72 (0 : Int32).toNatClampNeg)) 63 20) + 1) / x2 * x2)) r h' :=
  (mX_aload_n d_X8_answers_101 rfl).trans <| (mX_aload_n d_X8_answers_102 rfl).trans <| (mG_r (b := 72) d_X8_answers_103 fr_170_39 rfl (by decide) rfl).trans <| (mX_iconst d_X8_answers_106 ci_0).trans <| (mX_iaload d_X8_answers_107 rfl (by decide) (mn_in_iff (by decide +kernel))).trans <| (mP_i d_X8_answers_108 fi_170_146 rfl (by decide) rfl (Or.inl (by decide))).trans <| (mX_aload_n d_X8_answers_111 rfl).trans <| (mX_aload_n d_X8_answers_112 rfl).trans <| (mG_i d_X8_answers_113 fi_170_149 rfl (by decide)).trans <| (mX_iconst d_X8_answers_116 ci_1).trans <| (mX_iadd d_X8_answers_117).trans <| (mX_iload_n d_X8_answers_118 rfl).trans <| (mX_irem d_X8_answers_119 hy0).trans <| (mP_i d_X8_answers_120 fi_170_149 rfl (by decide) rfl (Or.inl (by decide))).trans <| mX_goto d_X8_answers_123 rfl
theorem b_X8_answers_126 {x1 x2 x3 : Int32} {h h' : mn_H} {r : Option Value} (hy0 : vp_in ((64 * (h 63 20)) + (h 63 19)) 63360) : mn_E 170 126 [.ref 63, .int x1, .int x2, .int x3, .null] [] h r h' ↔ if ¬ x1 = 0 then mn_E 170 156 [.ref 63, .int x1, .int x2, .int x3, .int ((h 73 ((64 * (h 63 20)) + (h 63 19)).toNatClampNeg) - 1)] [] h r h' else mn_E 170 151 [.ref 63, .int x1, .int x2, .int x3, .int ((h 73 ((64 * (h 63 20)) + (h 63 19)).toNatClampNeg) - 1)] [] h r h' :=
  (mX_aload_n d_X8_answers_126 rfl).trans <| (mG_r (b := 73) d_X8_answers_127 fr_170_43 rfl (by decide) rfl).trans <| (mX_bipush d_X8_answers_130 cb_64).trans <| (mX_aload_n d_X8_answers_132 rfl).trans <| (mG_i d_X8_answers_133 fi_170_149 rfl (by decide)).trans <| (mX_imul d_X8_answers_136).trans <| (mX_aload_n d_X8_answers_137 rfl).trans <| (mG_i d_X8_answers_138 fi_170_146 rfl (by decide)).trans <| (mX_iadd d_X8_answers_141).trans <| (mX_iaload d_X8_answers_142 rfl (by decide) hy0).trans <| (mX_iconst d_X8_answers_143 ci_1).trans <| (mX_isub d_X8_answers_144).trans <| (mX_istore (ls' := [.ref 63, .int x1, .int x2, .int x3, .int ((h 73 ((64 * (h 63 20)) + (h 63 19)).toNatClampNeg) - 1)]) d_X8_answers_145 rfl rfl).trans <| (mX_iload_n d_X8_answers_147 rfl).trans <| mX_if_ne d_X8_answers_148 rfl
theorem b_X8_answers_151 {x1 x2 x3 x4 : Int32} {h h' : mn_H} {r : Option Value} : mn_E 170 151 [.ref 63, .int x1, .int x2, .int x3, .int x4] [] h r h' ↔ mn_E 170 160 [.ref 63, .int x1, .int x2, .int x3, .int x4] [.int x4] h r h' :=
  (mX_iload d_X8_answers_151 rfl).trans <| mX_goto d_X8_answers_153 rfl
theorem b_X8_answers_156 {x1 x2 x3 x4 : Int32} {h h' : mn_H} {r : Option Value} : mn_E 170 156 [.ref 63, .int x1, .int x2, .int x3, .int x4] [] h r h' ↔ mn_E 170 160 [.ref 63, .int x1, .int x2, .int x3, .int x4] [.int (x3 - x4)] h r h' :=
  (mX_iload_n d_X8_answers_156 rfl).trans <| (mX_iload d_X8_answers_157 rfl).trans <| mX_isub d_X8_answers_159
theorem b_X8_answers_160 {x1 x2 x3 x4 s0 : Int32} {h h' : mn_H} {r : Option Value} : mn_E 170 160 [.ref 63, .int x1, .int x2, .int x3, .int x4] [.int s0] h r h' ↔ r = some (.int s0) ∧ h' = h :=
  mX_iret d_X8_answers_160 rfl
-- X8_send
theorem mo_171 : mO 171 = 8 := rfl
theorem d_X8_send_0 : decode (mC 171) 0 = .ok (.iload_n 1, 1) := by decide +kernel
theorem d_X8_send_1 : decode (mC 171) 1 = .ok (.iconst 0, 1) := by decide +kernel
theorem d_X8_send_2 : decode (mC 171) 2 = .ok (.bipush 99, 2) := by decide +kernel
theorem d_X8_send_4 : decode (mC 171) 4 = .ok (.invokestatic 46, 3) := by decide +kernel
theorem d_X8_send_7 : decode (mC 171) 7 = .ok (.ifCond .eq 12, 3) := by decide +kernel
theorem d_X8_send_10 : decode (mC 171) 10 = .ok (.iload_n 2, 1) := by decide +kernel
theorem d_X8_send_11 : decode (mC 171) 11 = .ok (.iconst 0, 1) := by decide +kernel
theorem d_X8_send_12 : decode (mC 171) 12 = .ok (.iconst 5, 1) := by decide +kernel
theorem d_X8_send_13 : decode (mC 171) 13 = .ok (.invokestatic 46, 3) := by decide +kernel
theorem d_X8_send_16 : decode (mC 171) 16 = .ok (.ifCond .ne 6, 3) := by decide +kernel
theorem d_X8_send_19 : decode (mC 171) 19 = .ok (.ldc 50, 2) := by decide +kernel
theorem d_X8_send_21 : decode (mC 171) 21 = .ok (.ireturn, 1) := by decide +kernel
theorem d_X8_send_22 : decode (mC 171) 22 = .ok (.aload_n 0, 1) := by decide +kernel
theorem d_X8_send_23 : decode (mC 171) 23 = .ok (.invokevirtual 107, 3) := by decide +kernel
theorem d_X8_send_26 : decode (mC 171) 26 = .ok (.aload_n 0, 1) := by decide +kernel
theorem d_X8_send_27 : decode (mC 171) 27 = .ok (.invokevirtual 174, 3) := by decide +kernel
theorem d_X8_send_30 : decode (mC 171) 30 = .ok (.iconst 0, 1) := by decide +kernel
theorem d_X8_send_31 : decode (mC 171) 31 = .ok (.istore_n 3, 1) := by decide +kernel
theorem d_X8_send_32 : decode (mC 171) 32 = .ok (.iload_n 1, 1) := by decide +kernel
theorem d_X8_send_33 : decode (mC 171) 33 = .ok (.istore 4, 2) := by decide +kernel
theorem d_X8_send_35 : decode (mC 171) 35 = .ok (.iconst 0, 1) := by decide +kernel
theorem d_X8_send_36 : decode (mC 171) 36 = .ok (.istore 5, 2) := by decide +kernel
theorem d_X8_send_38 : decode (mC 171) 38 = .ok (.iload 5, 2) := by decide +kernel
theorem d_X8_send_40 : decode (mC 171) 40 = .ok (.bipush 6, 2) := by decide +kernel
theorem d_X8_send_42 : decode (mC 171) 42 = .ok (.if_icmp .ge 18, 3) := by decide +kernel
theorem d_X8_send_45 : decode (mC 171) 45 = .ok (.iload_n 3, 1) := by decide +kernel
theorem d_X8_send_46 : decode (mC 171) 46 = .ok (.aload_n 0, 1) := by decide +kernel
theorem d_X8_send_47 : decode (mC 171) 47 = .ok (.iload 5, 2) := by decide +kernel
theorem d_X8_send_49 : decode (mC 171) 49 = .ok (.invokevirtual 200, 3) := by decide +kernel
theorem d_X8_send_52 : decode (mC 171) 52 = .ok (.iadd, 1) := by decide +kernel
theorem d_X8_send_53 : decode (mC 171) 53 = .ok (.istore_n 3, 1) := by decide +kernel
theorem d_X8_send_54 : decode (mC 171) 54 = .ok (.iinc 5 1, 3) := by decide +kernel
theorem d_X8_send_57 : decode (mC 171) 57 = .ok (.goto (-19), 3) := by decide +kernel
theorem d_X8_send_60 : decode (mC 171) 60 = .ok (.iload_n 3, 1) := by decide +kernel
theorem d_X8_send_61 : decode (mC 171) 61 = .ok (.ifCond .ne 5, 3) := by decide +kernel
theorem d_X8_send_64 : decode (mC 171) 64 = .ok (.iconst 0, 1) := by decide +kernel
theorem d_X8_send_65 : decode (mC 171) 65 = .ok (.ireturn, 1) := by decide +kernel
theorem d_X8_send_66 : decode (mC 171) 66 = .ok (.iconst 0, 1) := by decide +kernel
theorem d_X8_send_67 : decode (mC 171) 67 = .ok (.istore 5, 2) := by decide +kernel
theorem d_X8_send_69 : decode (mC 171) 69 = .ok (.iload 5, 2) := by decide +kernel
theorem d_X8_send_71 : decode (mC 171) 71 = .ok (.bipush 6, 2) := by decide +kernel
theorem d_X8_send_73 : decode (mC 171) 73 = .ok (.if_icmp .ge 24, 3) := by decide +kernel
theorem d_X8_send_76 : decode (mC 171) 76 = .ok (.iload 4, 2) := by decide +kernel
theorem d_X8_send_78 : decode (mC 171) 78 = .ok (.aload_n 0, 1) := by decide +kernel
theorem d_X8_send_79 : decode (mC 171) 79 = .ok (.iload 5, 2) := by decide +kernel
theorem d_X8_send_81 : decode (mC 171) 81 = .ok (.invokevirtual 200, 3) := by decide +kernel
theorem d_X8_send_84 : decode (mC 171) 84 = .ok (.iload_n 1, 1) := by decide +kernel
theorem d_X8_send_85 : decode (mC 171) 85 = .ok (.imul, 1) := by decide +kernel
theorem d_X8_send_86 : decode (mC 171) 86 = .ok (.iload_n 3, 1) := by decide +kernel
theorem d_X8_send_87 : decode (mC 171) 87 = .ok (.idiv, 1) := by decide +kernel
theorem d_X8_send_88 : decode (mC 171) 88 = .ok (.isub, 1) := by decide +kernel
theorem d_X8_send_89 : decode (mC 171) 89 = .ok (.istore 4, 2) := by decide +kernel
theorem d_X8_send_91 : decode (mC 171) 91 = .ok (.iinc 5 1, 3) := by decide +kernel
theorem d_X8_send_94 : decode (mC 171) 94 = .ok (.goto (-25), 3) := by decide +kernel
theorem d_X8_send_97 : decode (mC 171) 97 = .ok (.iconst 0, 1) := by decide +kernel
theorem d_X8_send_98 : decode (mC 171) 98 = .ok (.istore 5, 2) := by decide +kernel
theorem d_X8_send_100 : decode (mC 171) 100 = .ok (.aload_n 0, 1) := by decide +kernel
theorem d_X8_send_101 : decode (mC 171) 101 = .ok (.iload_n 2, 1) := by decide +kernel
theorem d_X8_send_102 : decode (mC 171) 102 = .ok (.invokevirtual 200, 3) := by decide +kernel
theorem d_X8_send_105 : decode (mC 171) 105 = .ok (.iload_n 1, 1) := by decide +kernel
theorem d_X8_send_106 : decode (mC 171) 106 = .ok (.imul, 1) := by decide +kernel
theorem d_X8_send_107 : decode (mC 171) 107 = .ok (.iload_n 3, 1) := by decide +kernel
theorem d_X8_send_108 : decode (mC 171) 108 = .ok (.irem, 1) := by decide +kernel
theorem d_X8_send_109 : decode (mC 171) 109 = .ok (.istore 6, 2) := by decide +kernel
theorem d_X8_send_111 : decode (mC 171) 111 = .ok (.iconst 0, 1) := by decide +kernel
theorem d_X8_send_112 : decode (mC 171) 112 = .ok (.istore 7, 2) := by decide +kernel
theorem d_X8_send_114 : decode (mC 171) 114 = .ok (.iload 7, 2) := by decide +kernel
theorem d_X8_send_116 : decode (mC 171) 116 = .ok (.bipush 6, 2) := by decide +kernel
theorem d_X8_send_118 : decode (mC 171) 118 = .ok (.if_icmp .ge 51, 3) := by decide +kernel
theorem d_X8_send_121 : decode (mC 171) 121 = .ok (.aload_n 0, 1) := by decide +kernel
theorem d_X8_send_122 : decode (mC 171) 122 = .ok (.iload 7, 2) := by decide +kernel
theorem d_X8_send_124 : decode (mC 171) 124 = .ok (.invokevirtual 200, 3) := by decide +kernel
theorem d_X8_send_127 : decode (mC 171) 127 = .ok (.iload_n 1, 1) := by decide +kernel
theorem d_X8_send_128 : decode (mC 171) 128 = .ok (.imul, 1) := by decide +kernel
theorem d_X8_send_129 : decode (mC 171) 129 = .ok (.iload_n 3, 1) := by decide +kernel
theorem d_X8_send_130 : decode (mC 171) 130 = .ok (.irem, 1) := by decide +kernel
theorem d_X8_send_131 : decode (mC 171) 131 = .ok (.istore 8, 2) := by decide +kernel
theorem d_X8_send_133 : decode (mC 171) 133 = .ok (.iload 5, 2) := by decide +kernel
theorem d_X8_send_135 : decode (mC 171) 135 = .ok (.iload 8, 2) := by decide +kernel
theorem d_X8_send_137 : decode (mC 171) 137 = .ok (.iload 6, 2) := by decide +kernel
theorem d_X8_send_139 : decode (mC 171) 139 = .ok (.if_icmp .gt 16, 3) := by decide +kernel
theorem d_X8_send_142 : decode (mC 171) 142 = .ok (.iload 8, 2) := by decide +kernel
theorem d_X8_send_144 : decode (mC 171) 144 = .ok (.iload 6, 2) := by decide +kernel
theorem d_X8_send_146 : decode (mC 171) 146 = .ok (.if_icmp .ne 13, 3) := by decide +kernel
theorem d_X8_send_149 : decode (mC 171) 149 = .ok (.iload 7, 2) := by decide +kernel
theorem d_X8_send_151 : decode (mC 171) 151 = .ok (.iload_n 2, 1) := by decide +kernel
theorem d_X8_send_152 : decode (mC 171) 152 = .ok (.if_icmp .ge 7, 3) := by decide +kernel
theorem d_X8_send_155 : decode (mC 171) 155 = .ok (.iconst 1, 1) := by decide +kernel
theorem d_X8_send_156 : decode (mC 171) 156 = .ok (.goto 4, 3) := by decide +kernel
theorem d_X8_send_159 : decode (mC 171) 159 = .ok (.iconst 0, 1) := by decide +kernel
theorem d_X8_send_160 : decode (mC 171) 160 = .ok (.iadd, 1) := by decide +kernel
theorem d_X8_send_161 : decode (mC 171) 161 = .ok (.istore 5, 2) := by decide +kernel
theorem d_X8_send_163 : decode (mC 171) 163 = .ok (.iinc 7 1, 3) := by decide +kernel
theorem d_X8_send_166 : decode (mC 171) 166 = .ok (.goto (-52), 3) := by decide +kernel
theorem d_X8_send_169 : decode (mC 171) 169 = .ok (.aload_n 0, 1) := by decide +kernel
theorem d_X8_send_170 : decode (mC 171) 170 = .ok (.iload_n 2, 1) := by decide +kernel
theorem d_X8_send_171 : decode (mC 171) 171 = .ok (.invokevirtual 200, 3) := by decide +kernel
theorem d_X8_send_174 : decode (mC 171) 174 = .ok (.iload_n 1, 1) := by decide +kernel
theorem d_X8_send_175 : decode (mC 171) 175 = .ok (.imul, 1) := by decide +kernel
theorem d_X8_send_176 : decode (mC 171) 176 = .ok (.iload_n 3, 1) := by decide +kernel
theorem d_X8_send_177 : decode (mC 171) 177 = .ok (.idiv, 1) := by decide +kernel
theorem d_X8_send_178 : decode (mC 171) 178 = .ok (.iload 5, 2) := by decide +kernel
theorem d_X8_send_180 : decode (mC 171) 180 = .ok (.iload 4, 2) := by decide +kernel
theorem d_X8_send_182 : decode (mC 171) 182 = .ok (.if_icmp .ge 7, 3) := by decide +kernel
theorem d_X8_send_185 : decode (mC 171) 185 = .ok (.iconst 1, 1) := by decide +kernel
theorem d_X8_send_186 : decode (mC 171) 186 = .ok (.goto 4, 3) := by decide +kernel
theorem d_X8_send_189 : decode (mC 171) 189 = .ok (.iconst 0, 1) := by decide +kernel
theorem d_X8_send_190 : decode (mC 171) 190 = .ok (.iadd, 1) := by decide +kernel
theorem d_X8_send_191 : decode (mC 171) 191 = .ok (.ireturn, 1) := by decide +kernel
theorem cs_171_46 : mn_cs 171 8 46 114 = true := by decide +kernel
theorem cv_171_107 : mn_cvt 171 8 107 141 = true := by decide +kernel
theorem cv_171_174 : mn_cvt 171 8 174 147 = true := by decide +kernel
theorem cv_171_200 : mn_cvt 171 8 200 172 = true := by decide +kernel
theorem b_X8_send_0 {x1 x2 : Int32} {h h' : mn_H} {r : Option Value} : mn_E 171 0 [.ref 63, .int x1, .int x2, .null, .null, .null, .null, .null, .null] [] h r h' ↔ ∃ x h1, mn_X 114 [.int x1, .int 0, .int 99] h (some (.int x)) h1 ∧ mn_E 171 7 [.ref 63, .int x1, .int x2, .null, .null, .null, .null, .null, .null] [.int x] h1 r h' :=
  (mX_iload_n d_X8_send_0 rfl).trans <| (mX_iconst d_X8_send_1 ci_0).trans <| (mX_bipush d_X8_send_2 cb_99).trans <| mS_i (vs := [.int x1, .int 0, .int 99]) (st' := []) d_X8_send_4 cs_171_46 (Or.inr (Or.inl rfl)) (Nat.le_of_ble_eq_true rfl) rfl rfl rfl
theorem b_X8_send_7 {x1 x2 s0 : Int32} {h h' : mn_H} {r : Option Value} : mn_E 171 7 [.ref 63, .int x1, .int x2, .null, .null, .null, .null, .null, .null] [.int s0] h r h' ↔ if s0 = 0 then mn_E 171 19 [.ref 63, .int x1, .int x2, .null, .null, .null, .null, .null, .null] [] h r h' else mn_E 171 10 [.ref 63, .int x1, .int x2, .null, .null, .null, .null, .null, .null] [] h r h' :=
  mX_if_eq d_X8_send_7 rfl
theorem b_X8_send_10 {x1 x2 : Int32} {h h' : mn_H} {r : Option Value} : mn_E 171 10 [.ref 63, .int x1, .int x2, .null, .null, .null, .null, .null, .null] [] h r h' ↔ ∃ x h1, mn_X 114 [.int x2, .int 0, .int 5] h (some (.int x)) h1 ∧ mn_E 171 16 [.ref 63, .int x1, .int x2, .null, .null, .null, .null, .null, .null] [.int x] h1 r h' :=
  (mX_iload_n d_X8_send_10 rfl).trans <| (mX_iconst d_X8_send_11 ci_0).trans <| (mX_iconst d_X8_send_12 ci_5).trans <| mS_i (vs := [.int x2, .int 0, .int 5]) (st' := []) d_X8_send_13 cs_171_46 (Or.inr (Or.inl rfl)) (Nat.le_of_ble_eq_true rfl) rfl rfl rfl
theorem b_X8_send_16 {x1 x2 s0 : Int32} {h h' : mn_H} {r : Option Value} : mn_E 171 16 [.ref 63, .int x1, .int x2, .null, .null, .null, .null, .null, .null] [.int s0] h r h' ↔ if ¬ s0 = 0 then mn_E 171 22 [.ref 63, .int x1, .int x2, .null, .null, .null, .null, .null, .null] [] h r h' else mn_E 171 19 [.ref 63, .int x1, .int x2, .null, .null, .null, .null, .null, .null] [] h r h' :=
  mX_if_ne d_X8_send_16 rfl
theorem b_X8_send_19 {x1 x2 : Int32} {h h' : mn_H} {r : Option Value} : mn_E 171 19 [.ref 63, .int x1, .int x2, .null, .null, .null, .null, .null, .null] [] h r h' ↔ r = some (.int (-1000000002)) ∧ h' = h :=
  (mX_ldc d_X8_send_19 mo_171 kc_8_50 (by decide)).trans <| mX_iret d_X8_send_21 rfl
theorem b_X8_send_22 {x1 x2 : Int32} {h h' : mn_H} {r : Option Value} : mn_E 171 22 [.ref 63, .int x1, .int x2, .null, .null, .null, .null, .null, .null] [] h r h' ↔ ∃ h1, mn_X 141 [.ref 63] h none h1 ∧ mn_E 171 26 [.ref 63, .int x1, .int x2, .null, .null, .null, .null, .null, .null] [] h1 r h' :=
  (mX_aload_n d_X8_send_22 rfl).trans <| mV_v (a := 63) (vs := []) (st' := []) d_X8_send_23 cv_171_107 rfl (Nat.le_of_ble_eq_true rfl) rfl rfl rfl rfl
theorem b_X8_send_26 {x1 x2 : Int32} {h h' : mn_H} {r : Option Value} : mn_E 171 26 [.ref 63, .int x1, .int x2, .null, .null, .null, .null, .null, .null] [] h r h' ↔ ∃ h1, mn_X 147 [.ref 63] h none h1 ∧ mn_E 171 30 [.ref 63, .int x1, .int x2, .null, .null, .null, .null, .null, .null] [] h1 r h' :=
  (mX_aload_n d_X8_send_26 rfl).trans <| mV_v (a := 63) (vs := []) (st' := []) d_X8_send_27 cv_171_174 rfl (Nat.le_of_ble_eq_true rfl) rfl rfl rfl rfl
theorem b_X8_send_30 {x1 x2 : Int32} {h h' : mn_H} {r : Option Value} : mn_E 171 30 [.ref 63, .int x1, .int x2, .null, .null, .null, .null, .null, .null] [] h r h' ↔ mn_E 171 38 [.ref 63, .int x1, .int x2, .int 0, .int x1, .int 0, .null, .null, .null] [] h r h' :=
  (mX_iconst d_X8_send_30 ci_0).trans <| (mX_istore_n (ls' := [.ref 63, .int x1, .int x2, .int 0, .null, .null, .null, .null, .null]) d_X8_send_31 rfl rfl).trans <| (mX_iload_n d_X8_send_32 rfl).trans <| (mX_istore (ls' := [.ref 63, .int x1, .int x2, .int 0, .int x1, .null, .null, .null, .null]) d_X8_send_33 rfl rfl).trans <| (mX_iconst d_X8_send_35 ci_0).trans <| mX_istore (ls' := [.ref 63, .int x1, .int x2, .int 0, .int x1, .int 0, .null, .null, .null]) d_X8_send_36 rfl rfl
theorem b_X8_send_38 {x1 x2 x3 x4 x5 : Int32} {h h' : mn_H} {r : Option Value} : mn_E 171 38 [.ref 63, .int x1, .int x2, .int x3, .int x4, .int x5, .null, .null, .null] [] h r h' ↔ if (6 : Int32) ≤ x5 then mn_E 171 60 [.ref 63, .int x1, .int x2, .int x3, .int x4, .int x5, .null, .null, .null] [] h r h' else mn_E 171 45 [.ref 63, .int x1, .int x2, .int x3, .int x4, .int x5, .null, .null, .null] [] h r h' :=
  (mX_iload d_X8_send_38 rfl).trans <| (mX_bipush d_X8_send_40 cb_6).trans <| mX_icmp_ge d_X8_send_42 rfl
theorem b_X8_send_45 {x1 x2 x3 x4 x5 : Int32} {h h' : mn_H} {r : Option Value} : mn_E 171 45 [.ref 63, .int x1, .int x2, .int x3, .int x4, .int x5, .null, .null, .null] [] h r h' ↔ ∃ x h1, mn_X 172 [.ref 63, .int x5] h (some (.int x)) h1 ∧ mn_E 171 52 [.ref 63, .int x1, .int x2, .int x3, .int x4, .int x5, .null, .null, .null] [.int x, .int x3] h1 r h' :=
  (mX_iload_n d_X8_send_45 rfl).trans <| (mX_aload_n d_X8_send_46 rfl).trans <| (mX_iload d_X8_send_47 rfl).trans <| mV_i (a := 63) (vs := [.int x5]) (st' := [.int x3]) d_X8_send_49 cv_171_200 (Or.inl rfl) (Nat.le_of_ble_eq_true rfl) rfl rfl rfl rfl
theorem b_X8_send_52 {x1 x2 x3 x4 x5 s0 s1 : Int32} {h h' : mn_H} {r : Option Value} : mn_E 171 52 [.ref 63, .int x1, .int x2, .int x3, .int x4, .int x5, .null, .null, .null] [.int s0, .int s1] h r h' ↔ mn_E 171 38 [.ref 63, .int x1, .int x2, .int (s1 + s0), .int x4, .int (x5 + 1), .null, .null, .null] [] h r h' :=
  (mX_iadd d_X8_send_52).trans <| (mX_istore_n (ls' := [.ref 63, .int x1, .int x2, .int (s1 + s0), .int x4, .int x5, .null, .null, .null]) d_X8_send_53 rfl rfl).trans <| (mX_iinc (ls' := [.ref 63, .int x1, .int x2, .int (s1 + s0), .int x4, .int (x5 + 1), .null, .null, .null]) d_X8_send_54 rfl ci_1 rfl rfl).trans <| mX_goto d_X8_send_57 rfl
theorem b_X8_send_60 {x1 x2 x3 x4 x5 : Int32} {h h' : mn_H} {r : Option Value} : mn_E 171 60 [.ref 63, .int x1, .int x2, .int x3, .int x4, .int x5, .null, .null, .null] [] h r h' ↔ if ¬ x3 = 0 then mn_E 171 66 [.ref 63, .int x1, .int x2, .int x3, .int x4, .int x5, .null, .null, .null] [] h r h' else mn_E 171 64 [.ref 63, .int x1, .int x2, .int x3, .int x4, .int x5, .null, .null, .null] [] h r h' :=
  (mX_iload_n d_X8_send_60 rfl).trans <| mX_if_ne d_X8_send_61 rfl
theorem b_X8_send_64 {x1 x2 x3 x4 x5 : Int32} {h h' : mn_H} {r : Option Value} : mn_E 171 64 [.ref 63, .int x1, .int x2, .int x3, .int x4, .int x5, .null, .null, .null] [] h r h' ↔ r = some (.int 0) ∧ h' = h :=
  (mX_iconst d_X8_send_64 ci_0).trans <| mX_iret d_X8_send_65 rfl
theorem b_X8_send_66 {x1 x2 x3 x4 x5 : Int32} {h h' : mn_H} {r : Option Value} : mn_E 171 66 [.ref 63, .int x1, .int x2, .int x3, .int x4, .int x5, .null, .null, .null] [] h r h' ↔ mn_E 171 69 [.ref 63, .int x1, .int x2, .int x3, .int x4, .int 0, .null, .null, .null] [] h r h' :=
  (mX_iconst d_X8_send_66 ci_0).trans <| mX_istore (ls' := [.ref 63, .int x1, .int x2, .int x3, .int x4, .int 0, .null, .null, .null]) d_X8_send_67 rfl rfl
theorem b_X8_send_69 {x1 x2 x3 x4 x5 : Int32} {h h' : mn_H} {r : Option Value} : mn_E 171 69 [.ref 63, .int x1, .int x2, .int x3, .int x4, .int x5, .null, .null, .null] [] h r h' ↔ if (6 : Int32) ≤ x5 then mn_E 171 97 [.ref 63, .int x1, .int x2, .int x3, .int x4, .int x5, .null, .null, .null] [] h r h' else mn_E 171 76 [.ref 63, .int x1, .int x2, .int x3, .int x4, .int x5, .null, .null, .null] [] h r h' :=
  (mX_iload d_X8_send_69 rfl).trans <| (mX_bipush d_X8_send_71 cb_6).trans <| mX_icmp_ge d_X8_send_73 rfl
theorem b_X8_send_76 {x1 x2 x3 x4 x5 : Int32} {h h' : mn_H} {r : Option Value} : mn_E 171 76 [.ref 63, .int x1, .int x2, .int x3, .int x4, .int x5, .null, .null, .null] [] h r h' ↔ ∃ x h1, mn_X 172 [.ref 63, .int x5] h (some (.int x)) h1 ∧ mn_E 171 84 [.ref 63, .int x1, .int x2, .int x3, .int x4, .int x5, .null, .null, .null] [.int x, .int x4] h1 r h' :=
  (mX_iload d_X8_send_76 rfl).trans <| (mX_aload_n d_X8_send_78 rfl).trans <| (mX_iload d_X8_send_79 rfl).trans <| mV_i (a := 63) (vs := [.int x5]) (st' := [.int x4]) d_X8_send_81 cv_171_200 (Or.inl rfl) (Nat.le_of_ble_eq_true rfl) rfl rfl rfl rfl
theorem b_X8_send_84 {x1 x2 x3 x4 x5 s0 s1 : Int32} {h h' : mn_H} {r : Option Value} (hy0 : ¬ x3 = 0) : mn_E 171 84 [.ref 63, .int x1, .int x2, .int x3, .int x4, .int x5, .null, .null, .null] [.int s0, .int s1] h r h' ↔ mn_E 171 69 [.ref 63, .int x1, .int x2, .int x3, .int (s1 - ((s0 * x1) / x3)), .int (x5 + 1), .null, .null, .null] [] h r h' :=
  (mX_iload_n d_X8_send_84 rfl).trans <| (mX_imul d_X8_send_85).trans <| (mX_iload_n d_X8_send_86 rfl).trans <| (mX_idiv d_X8_send_87 hy0).trans <| (mX_isub d_X8_send_88).trans <| (mX_istore (ls' := [.ref 63, .int x1, .int x2, .int x3, .int (s1 - ((s0 * x1) / x3)), .int x5, .null, .null, .null]) d_X8_send_89 rfl rfl).trans <| (mX_iinc (ls' := [.ref 63, .int x1, .int x2, .int x3, .int (s1 - ((s0 * x1) / x3)), .int (x5 + 1), .null, .null, .null]) d_X8_send_91 rfl ci_1 rfl rfl).trans <| mX_goto d_X8_send_94 rfl
theorem b_X8_send_97 {x1 x2 x3 x4 x5 : Int32} {h h' : mn_H} {r : Option Value} : mn_E 171 97 [.ref 63, .int x1, .int x2, .int x3, .int x4, .int x5, .null, .null, .null] [] h r h' ↔ ∃ x h1, mn_X 172 [.ref 63, .int x2] h (some (.int x)) h1 ∧ mn_E 171 105 [.ref 63, .int x1, .int x2, .int x3, .int x4, .int 0, .null, .null, .null] [.int x] h1 r h' :=
  (mX_iconst d_X8_send_97 ci_0).trans <| (mX_istore (ls' := [.ref 63, .int x1, .int x2, .int x3, .int x4, .int 0, .null, .null, .null]) d_X8_send_98 rfl rfl).trans <| (mX_aload_n d_X8_send_100 rfl).trans <| (mX_iload_n d_X8_send_101 rfl).trans <| mV_i (a := 63) (vs := [.int x2]) (st' := []) d_X8_send_102 cv_171_200 (Or.inl rfl) (Nat.le_of_ble_eq_true rfl) rfl rfl rfl rfl
theorem b_X8_send_105 {x1 x2 x3 x4 x5 s0 : Int32} {h h' : mn_H} {r : Option Value} (hy0 : ¬ x3 = 0) : mn_E 171 105 [.ref 63, .int x1, .int x2, .int x3, .int x4, .int x5, .null, .null, .null] [.int s0] h r h' ↔ mn_E 171 114 [.ref 63, .int x1, .int x2, .int x3, .int x4, .int x5, .int ((s0 * x1) - (s0 * x1) / x3 * x3), .int 0, .null] [] h r h' :=
  (mX_iload_n d_X8_send_105 rfl).trans <| (mX_imul d_X8_send_106).trans <| (mX_iload_n d_X8_send_107 rfl).trans <| (mX_irem d_X8_send_108 hy0).trans <| (mX_istore (ls' := [.ref 63, .int x1, .int x2, .int x3, .int x4, .int x5, .int ((s0 * x1) - (s0 * x1) / x3 * x3), .null, .null]) d_X8_send_109 rfl rfl).trans <| (mX_iconst d_X8_send_111 ci_0).trans <| mX_istore (ls' := [.ref 63, .int x1, .int x2, .int x3, .int x4, .int x5, .int ((s0 * x1) - (s0 * x1) / x3 * x3), .int 0, .null]) d_X8_send_112 rfl rfl
theorem b_X8_send_114 {x1 x2 x3 x4 x5 x6 x7 : Int32} {w8 : Value} {h h' : mn_H} {r : Option Value} : mn_E 171 114 [.ref 63, .int x1, .int x2, .int x3, .int x4, .int x5, .int x6, .int x7, w8] [] h r h' ↔ if (6 : Int32) ≤ x7 then mn_E 171 169 [.ref 63, .int x1, .int x2, .int x3, .int x4, .int x5, .int x6, .int x7, w8] [] h r h' else mn_E 171 121 [.ref 63, .int x1, .int x2, .int x3, .int x4, .int x5, .int x6, .int x7, w8] [] h r h' :=
  (mX_iload d_X8_send_114 rfl).trans <| (mX_bipush d_X8_send_116 cb_6).trans <| mX_icmp_ge d_X8_send_118 rfl
theorem b_X8_send_121 {x1 x2 x3 x4 x5 x6 x7 : Int32} {w8 : Value} {h h' : mn_H} {r : Option Value} : mn_E 171 121 [.ref 63, .int x1, .int x2, .int x3, .int x4, .int x5, .int x6, .int x7, w8] [] h r h' ↔ ∃ x h1, mn_X 172 [.ref 63, .int x7] h (some (.int x)) h1 ∧ mn_E 171 127 [.ref 63, .int x1, .int x2, .int x3, .int x4, .int x5, .int x6, .int x7, w8] [.int x] h1 r h' :=
  (mX_aload_n d_X8_send_121 rfl).trans <| (mX_iload d_X8_send_122 rfl).trans <| mV_i (a := 63) (vs := [.int x7]) (st' := []) d_X8_send_124 cv_171_200 (Or.inl rfl) (Nat.le_of_ble_eq_true rfl) rfl rfl rfl rfl
theorem b_X8_send_127 {x1 x2 x3 x4 x5 x6 x7 s0 : Int32} {w8 : Value} {h h' : mn_H} {r : Option Value} (hy0 : ¬ x3 = 0) : mn_E 171 127 [.ref 63, .int x1, .int x2, .int x3, .int x4, .int x5, .int x6, .int x7, w8] [.int s0] h r h' ↔ if x6 < ((s0 * x1) - (s0 * x1) / x3 * x3) then mn_E 171 155 [.ref 63, .int x1, .int x2, .int x3, .int x4, .int x5, .int x6, .int x7, .int ((s0 * x1) - (s0 * x1) / x3 * x3)] [.int x5] h r h' else mn_E 171 142 [.ref 63, .int x1, .int x2, .int x3, .int x4, .int x5, .int x6, .int x7, .int ((s0 * x1) - (s0 * x1) / x3 * x3)] [.int x5] h r h' :=
  (mX_iload_n d_X8_send_127 rfl).trans <| (mX_imul d_X8_send_128).trans <| (mX_iload_n d_X8_send_129 rfl).trans <| (mX_irem d_X8_send_130 hy0).trans <| (mX_istore (ls' := [.ref 63, .int x1, .int x2, .int x3, .int x4, .int x5, .int x6, .int x7, .int ((s0 * x1) - (s0 * x1) / x3 * x3)]) d_X8_send_131 rfl rfl).trans <| (mX_iload d_X8_send_133 rfl).trans <| (mX_iload d_X8_send_135 rfl).trans <| (mX_iload d_X8_send_137 rfl).trans <| mX_icmp_gt d_X8_send_139 rfl
theorem b_X8_send_142 {x1 x2 x3 x4 x5 x6 x7 x8 s0 : Int32} {h h' : mn_H} {r : Option Value} : mn_E 171 142 [.ref 63, .int x1, .int x2, .int x3, .int x4, .int x5, .int x6, .int x7, .int x8] [.int s0] h r h' ↔ if ¬ x8 = x6 then mn_E 171 159 [.ref 63, .int x1, .int x2, .int x3, .int x4, .int x5, .int x6, .int x7, .int x8] [.int s0] h r h' else mn_E 171 149 [.ref 63, .int x1, .int x2, .int x3, .int x4, .int x5, .int x6, .int x7, .int x8] [.int s0] h r h' :=
  (mX_iload d_X8_send_142 rfl).trans <| (mX_iload d_X8_send_144 rfl).trans <| mX_icmp_ne d_X8_send_146 rfl
theorem b_X8_send_149 {x1 x2 x3 x4 x5 x6 x7 x8 s0 : Int32} {h h' : mn_H} {r : Option Value} : mn_E 171 149 [.ref 63, .int x1, .int x2, .int x3, .int x4, .int x5, .int x6, .int x7, .int x8] [.int s0] h r h' ↔ if x2 ≤ x7 then mn_E 171 159 [.ref 63, .int x1, .int x2, .int x3, .int x4, .int x5, .int x6, .int x7, .int x8] [.int s0] h r h' else mn_E 171 155 [.ref 63, .int x1, .int x2, .int x3, .int x4, .int x5, .int x6, .int x7, .int x8] [.int s0] h r h' :=
  (mX_iload d_X8_send_149 rfl).trans <| (mX_iload_n d_X8_send_151 rfl).trans <| mX_icmp_ge d_X8_send_152 rfl
theorem b_X8_send_155 {x1 x2 x3 x4 x5 x6 x7 x8 s0 : Int32} {h h' : mn_H} {r : Option Value} : mn_E 171 155 [.ref 63, .int x1, .int x2, .int x3, .int x4, .int x5, .int x6, .int x7, .int x8] [.int s0] h r h' ↔ mn_E 171 160 [.ref 63, .int x1, .int x2, .int x3, .int x4, .int x5, .int x6, .int x7, .int x8] [.int 1, .int s0] h r h' :=
  (mX_iconst d_X8_send_155 ci_1).trans <| mX_goto d_X8_send_156 rfl
theorem b_X8_send_159 {x1 x2 x3 x4 x5 x6 x7 x8 s0 : Int32} {h h' : mn_H} {r : Option Value} : mn_E 171 159 [.ref 63, .int x1, .int x2, .int x3, .int x4, .int x5, .int x6, .int x7, .int x8] [.int s0] h r h' ↔ mn_E 171 160 [.ref 63, .int x1, .int x2, .int x3, .int x4, .int x5, .int x6, .int x7, .int x8] [.int 0, .int s0] h r h' :=
  mX_iconst d_X8_send_159 ci_0
theorem b_X8_send_160 {x1 x2 x3 x4 x5 x6 x7 x8 s0 s1 : Int32} {h h' : mn_H} {r : Option Value} : mn_E 171 160 [.ref 63, .int x1, .int x2, .int x3, .int x4, .int x5, .int x6, .int x7, .int x8] [.int s0, .int s1] h r h' ↔ mn_E 171 114 [.ref 63, .int x1, .int x2, .int x3, .int x4, .int (s1 + s0), .int x6, .int (x7 + 1), .int x8] [] h r h' :=
  (mX_iadd d_X8_send_160).trans <| (mX_istore (ls' := [.ref 63, .int x1, .int x2, .int x3, .int x4, .int (s1 + s0), .int x6, .int x7, .int x8]) d_X8_send_161 rfl rfl).trans <| (mX_iinc (ls' := [.ref 63, .int x1, .int x2, .int x3, .int x4, .int (s1 + s0), .int x6, .int (x7 + 1), .int x8]) d_X8_send_163 rfl ci_1 rfl rfl).trans <| mX_goto d_X8_send_166 rfl
theorem b_X8_send_169 {x1 x2 x3 x4 x5 x6 x7 : Int32} {w8 : Value} {h h' : mn_H} {r : Option Value} : mn_E 171 169 [.ref 63, .int x1, .int x2, .int x3, .int x4, .int x5, .int x6, .int x7, w8] [] h r h' ↔ ∃ x h1, mn_X 172 [.ref 63, .int x2] h (some (.int x)) h1 ∧ mn_E 171 174 [.ref 63, .int x1, .int x2, .int x3, .int x4, .int x5, .int x6, .int x7, w8] [.int x] h1 r h' :=
  (mX_aload_n d_X8_send_169 rfl).trans <| (mX_iload_n d_X8_send_170 rfl).trans <| mV_i (a := 63) (vs := [.int x2]) (st' := []) d_X8_send_171 cv_171_200 (Or.inl rfl) (Nat.le_of_ble_eq_true rfl) rfl rfl rfl rfl
theorem b_X8_send_174 {x1 x2 x3 x4 x5 x6 x7 s0 : Int32} {w8 : Value} {h h' : mn_H} {r : Option Value} (hy0 : ¬ x3 = 0) : mn_E 171 174 [.ref 63, .int x1, .int x2, .int x3, .int x4, .int x5, .int x6, .int x7, w8] [.int s0] h r h' ↔ if x4 ≤ x5 then mn_E 171 189 [.ref 63, .int x1, .int x2, .int x3, .int x4, .int x5, .int x6, .int x7, w8] [.int ((s0 * x1) / x3)] h r h' else mn_E 171 185 [.ref 63, .int x1, .int x2, .int x3, .int x4, .int x5, .int x6, .int x7, w8] [.int ((s0 * x1) / x3)] h r h' :=
  (mX_iload_n d_X8_send_174 rfl).trans <| (mX_imul d_X8_send_175).trans <| (mX_iload_n d_X8_send_176 rfl).trans <| (mX_idiv d_X8_send_177 hy0).trans <| (mX_iload d_X8_send_178 rfl).trans <| (mX_iload d_X8_send_180 rfl).trans <| mX_icmp_ge d_X8_send_182 rfl
theorem b_X8_send_185 {x1 x2 x3 x4 x5 x6 x7 s0 : Int32} {w8 : Value} {h h' : mn_H} {r : Option Value} : mn_E 171 185 [.ref 63, .int x1, .int x2, .int x3, .int x4, .int x5, .int x6, .int x7, w8] [.int s0] h r h' ↔ mn_E 171 190 [.ref 63, .int x1, .int x2, .int x3, .int x4, .int x5, .int x6, .int x7, w8] [.int 1, .int s0] h r h' :=
  (mX_iconst d_X8_send_185 ci_1).trans <| mX_goto d_X8_send_186 rfl
theorem b_X8_send_189 {x1 x2 x3 x4 x5 x6 x7 s0 : Int32} {w8 : Value} {h h' : mn_H} {r : Option Value} : mn_E 171 189 [.ref 63, .int x1, .int x2, .int x3, .int x4, .int x5, .int x6, .int x7, w8] [.int s0] h r h' ↔ mn_E 171 190 [.ref 63, .int x1, .int x2, .int x3, .int x4, .int x5, .int x6, .int x7, w8] [.int 0, .int s0] h r h' :=
  mX_iconst d_X8_send_189 ci_0
theorem b_X8_send_190 {x1 x2 x3 x4 x5 x6 x7 s0 s1 : Int32} {w8 : Value} {h h' : mn_H} {r : Option Value} : mn_E 171 190 [.ref 63, .int x1, .int x2, .int x3, .int x4, .int x5, .int x6, .int x7, w8] [.int s0, .int s1] h r h' ↔ r = some (.int (s1 + s0)) ∧ h' = h :=
  (mX_iadd d_X8_send_190).trans <| mX_iret d_X8_send_191 rfl
-- X8_days
theorem mo_172 : mO 172 = 8 := rfl
theorem d_X8_days_0 : decode (mC 172) 0 = .ok (.iconst 0, 1) := by decide +kernel
theorem d_X8_days_1 : decode (mC 172) 1 = .ok (.istore_n 2, 1) := by decide +kernel
theorem d_X8_days_2 : decode (mC 172) 2 = .ok (.iconst 0, 1) := by decide +kernel
theorem d_X8_days_3 : decode (mC 172) 3 = .ok (.istore_n 3, 1) := by decide +kernel
theorem d_X8_days_4 : decode (mC 172) 4 = .ok (.iload_n 3, 1) := by decide +kernel
theorem d_X8_days_5 : decode (mC 172) 5 = .ok (.aload_n 0, 1) := by decide +kernel
theorem d_X8_days_6 : decode (mC 172) 6 = .ok (.getfield 168, 3) := by decide +kernel
theorem d_X8_days_9 : decode (mC 172) 9 = .ok (.if_icmp .ge 22, 3) := by decide +kernel
theorem d_X8_days_12 : decode (mC 172) 12 = .ok (.iload_n 2, 1) := by decide +kernel
theorem d_X8_days_13 : decode (mC 172) 13 = .ok (.aload_n 0, 1) := by decide +kernel
theorem d_X8_days_14 : decode (mC 172) 14 = .ok (.getfield 39, 3) := by decide +kernel
theorem d_X8_days_17 : decode (mC 172) 17 = .ok (.iload_n 3, 1) := by decide +kernel
theorem d_X8_days_18 : decode (mC 172) 18 = .ok (.iaload, 1) := by decide +kernel
theorem d_X8_days_19 : decode (mC 172) 19 = .ok (.iload_n 1, 1) := by decide +kernel
theorem d_X8_days_20 : decode (mC 172) 20 = .ok (.ishr, 1) := by decide +kernel
theorem d_X8_days_21 : decode (mC 172) 21 = .ok (.iconst 1, 1) := by decide +kernel
theorem d_X8_days_22 : decode (mC 172) 22 = .ok (.iand, 1) := by decide +kernel
theorem d_X8_days_23 : decode (mC 172) 23 = .ok (.iadd, 1) := by decide +kernel
theorem d_X8_days_24 : decode (mC 172) 24 = .ok (.istore_n 2, 1) := by decide +kernel
theorem d_X8_days_25 : decode (mC 172) 25 = .ok (.iinc 3 1, 3) := by decide +kernel
theorem d_X8_days_28 : decode (mC 172) 28 = .ok (.goto (-24), 3) := by decide +kernel
theorem d_X8_days_31 : decode (mC 172) 31 = .ok (.iload_n 2, 1) := by decide +kernel
theorem d_X8_days_32 : decode (mC 172) 32 = .ok (.ireturn, 1) := by decide +kernel
theorem fi_172_168 : mn_fi 172 8 168 8 22 = true := by decide +kernel
theorem fr_172_39 : mn_fr 172 8 39 8 21 = true := by decide +kernel
theorem b_X8_days_0 {x1 : Int32} {h h' : mn_H} {r : Option Value} : mn_E 172 0 [.ref 63, .int x1, .null, .null] [] h r h' ↔ mn_E 172 4 [.ref 63, .int x1, .int 0, .int 0] [] h r h' :=
  (mX_iconst d_X8_days_0 ci_0).trans <| (mX_istore_n (ls' := [.ref 63, .int x1, .int 0, .null]) d_X8_days_1 rfl rfl).trans <| (mX_iconst d_X8_days_2 ci_0).trans <| mX_istore_n (ls' := [.ref 63, .int x1, .int 0, .int 0]) d_X8_days_3 rfl rfl
theorem b_X8_days_4 {x1 x2 x3 : Int32} {h h' : mn_H} {r : Option Value} : mn_E 172 4 [.ref 63, .int x1, .int x2, .int x3] [] h r h' ↔ if (h 63 22) ≤ x3 then mn_E 172 31 [.ref 63, .int x1, .int x2, .int x3] [] h r h' else mn_E 172 12 [.ref 63, .int x1, .int x2, .int x3] [] h r h' :=
  (mX_iload_n d_X8_days_4 rfl).trans <| (mX_aload_n d_X8_days_5 rfl).trans <| (mG_i d_X8_days_6 fi_172_168 rfl (by decide)).trans <| mX_icmp_ge d_X8_days_9 rfl
theorem b_X8_days_12 {x1 x2 x3 : Int32} {h h' : mn_H} {r : Option Value} (hy0 : vp_in x3 64) : mn_E 172 12 [.ref 63, .int x1, .int x2, .int x3] [] h r h' ↔ mn_E 172 4 [.ref 63, .int x1, .int (x2 + (((h 72 x3.toNatClampNeg) >>> (x1 &&& 31)) &&& 1)), .int (x3 + 1)] [] h r h' :=
  (mX_iload_n d_X8_days_12 rfl).trans <| (mX_aload_n d_X8_days_13 rfl).trans <| (mG_r (b := 72) d_X8_days_14 fr_172_39 rfl (by decide) rfl).trans <| (mX_iload_n d_X8_days_17 rfl).trans <| (mX_iaload d_X8_days_18 rfl (by decide) hy0).trans <| (mX_iload_n d_X8_days_19 rfl).trans <| (mX_ishr d_X8_days_20).trans <| (mX_iconst d_X8_days_21 ci_1).trans <| (mX_iand d_X8_days_22).trans <| (mX_iadd d_X8_days_23).trans <| (mX_istore_n (ls' := [.ref 63, .int x1, .int (x2 + (((h 72 x3.toNatClampNeg) >>> (x1 &&& 31)) &&& 1)), .int x3]) d_X8_days_24 rfl rfl).trans <| (mX_iinc (ls' := [.ref 63, .int x1, .int (x2 + (((h 72 x3.toNatClampNeg) >>> (x1 &&& 31)) &&& 1)), .int (x3 + 1)]) d_X8_days_25 rfl ci_1 rfl rfl).trans <| mX_goto d_X8_days_28 rfl
theorem b_X8_days_31 {x1 x2 x3 : Int32} {h h' : mn_H} {r : Option Value} : mn_E 172 31 [.ref 63, .int x1, .int x2, .int x3] [] h r h' ↔ r = some (.int x2) ∧ h' = h :=
  (mX_iload_n d_X8_days_31 rfl).trans <| mX_iret d_X8_days_32 rfl
-- X8_see
theorem mo_173 : mO 173 = 8 := rfl
theorem d_X8_see_0 : decode (mC 173) 0 = .ok (.aload_n 0, 1) := by decide +kernel
theorem d_X8_see_1 : decode (mC 173) 1 = .ok (.iload_n 1, 1) := by decide +kernel
theorem d_X8_see_2 : decode (mC 173) 2 = .ok (.invokevirtual 120, 3) := by decide +kernel
theorem d_X8_see_5 : decode (mC 173) 5 = .ok (.ifCond .ne 6, 3) := by decide +kernel
theorem d_X8_see_8 : decode (mC 173) 8 = .ok (.ldc 124, 2) := by decide +kernel
theorem d_X8_see_10 : decode (mC 173) 10 = .ok (.ireturn, 1) := by decide +kernel
theorem d_X8_see_11 : decode (mC 173) 11 = .ok (.iload_n 3, 1) := by decide +kernel
theorem d_X8_see_12 : decode (mC 173) 12 = .ok (.invokestatic 128, 3) := by decide +kernel
theorem d_X8_see_15 : decode (mC 173) 15 = .ok (.ifCond .eq 11, 3) := by decide +kernel
theorem d_X8_see_18 : decode (mC 173) 18 = .ok (.iload 4, 2) := by decide +kernel
theorem d_X8_see_20 : decode (mC 173) 20 = .ok (.invokestatic 128, 3) := by decide +kernel
theorem d_X8_see_23 : decode (mC 173) 23 = .ok (.ifCond .ne 6, 3) := by decide +kernel
theorem d_X8_see_26 : decode (mC 173) 26 = .ok (.ldc 50, 2) := by decide +kernel
theorem d_X8_see_28 : decode (mC 173) 28 = .ok (.ireturn, 1) := by decide +kernel
theorem d_X8_see_29 : decode (mC 173) 29 = .ok (.aload_n 0, 1) := by decide +kernel
theorem d_X8_see_30 : decode (mC 173) 30 = .ok (.getfield 29, 3) := by decide +kernel
theorem d_X8_see_33 : decode (mC 173) 33 = .ok (.iload_n 1, 1) := by decide +kernel
theorem d_X8_see_34 : decode (mC 173) 34 = .ok (.iaload, 1) := by decide +kernel
theorem d_X8_see_35 : decode (mC 173) 35 = .ok (.bipush 12, 2) := by decide +kernel
theorem d_X8_see_37 : decode (mC 173) 37 = .ok (.if_icmp .ne 6, 3) := by decide +kernel
theorem d_X8_see_40 : decode (mC 173) 40 = .ok (.ldc 54, 2) := by decide +kernel
theorem d_X8_see_42 : decode (mC 173) 42 = .ok (.ireturn, 1) := by decide +kernel
theorem d_X8_see_43 : decode (mC 173) 43 = .ok (.aload_n 0, 1) := by decide +kernel
theorem d_X8_see_44 : decode (mC 173) 44 = .ok (.getfield 32, 3) := by decide +kernel
theorem d_X8_see_47 : decode (mC 173) 47 = .ok (.bipush 12, 2) := by decide +kernel
theorem d_X8_see_49 : decode (mC 173) 49 = .ok (.iload_n 1, 1) := by decide +kernel
theorem d_X8_see_50 : decode (mC 173) 50 = .ok (.imul, 1) := by decide +kernel
theorem d_X8_see_51 : decode (mC 173) 51 = .ok (.aload_n 0, 1) := by decide +kernel
theorem d_X8_see_52 : decode (mC 173) 52 = .ok (.getfield 29, 3) := by decide +kernel
theorem d_X8_see_55 : decode (mC 173) 55 = .ok (.iload_n 1, 1) := by decide +kernel
theorem d_X8_see_56 : decode (mC 173) 56 = .ok (.iaload, 1) := by decide +kernel
theorem d_X8_see_57 : decode (mC 173) 57 = .ok (.iadd, 1) := by decide +kernel
theorem d_X8_see_58 : decode (mC 173) 58 = .ok (.iload_n 2, 1) := by decide +kernel
theorem d_X8_see_59 : decode (mC 173) 59 = .ok (.ifCond .eq 9, 3) := by decide +kernel
theorem d_X8_see_62 : decode (mC 173) 62 = .ok (.sipush 4096, 3) := by decide +kernel
theorem d_X8_see_65 : decode (mC 173) 65 = .ok (.goto 4, 3) := by decide +kernel
theorem d_X8_see_68 : decode (mC 173) 68 = .ok (.iconst 0, 1) := by decide +kernel
theorem d_X8_see_69 : decode (mC 173) 69 = .ok (.bipush 64, 2) := by decide +kernel
theorem d_X8_see_71 : decode (mC 173) 71 = .ok (.iload_n 3, 1) := by decide +kernel
theorem d_X8_see_72 : decode (mC 173) 72 = .ok (.imul, 1) := by decide +kernel
theorem d_X8_see_73 : decode (mC 173) 73 = .ok (.iadd, 1) := by decide +kernel
theorem d_X8_see_74 : decode (mC 173) 74 = .ok (.iload 4, 2) := by decide +kernel
theorem d_X8_see_76 : decode (mC 173) 76 = .ok (.iadd, 1) := by decide +kernel
theorem d_X8_see_77 : decode (mC 173) 77 = .ok (.iastore, 1) := by decide +kernel
theorem d_X8_see_78 : decode (mC 173) 78 = .ok (.aload_n 0, 1) := by decide +kernel
theorem d_X8_see_79 : decode (mC 173) 79 = .ok (.getfield 29, 3) := by decide +kernel
theorem d_X8_see_82 : decode (mC 173) 82 = .ok (.iload_n 1, 1) := by decide +kernel
theorem d_X8_see_83 : decode (mC 173) 83 = .ok (.dup2, 1) := by decide +kernel
theorem d_X8_see_84 : decode (mC 173) 84 = .ok (.iaload, 1) := by decide +kernel
theorem d_X8_see_85 : decode (mC 173) 85 = .ok (.iconst 1, 1) := by decide +kernel
theorem d_X8_see_86 : decode (mC 173) 86 = .ok (.iadd, 1) := by decide +kernel
theorem d_X8_see_87 : decode (mC 173) 87 = .ok (.iastore, 1) := by decide +kernel
theorem d_X8_see_88 : decode (mC 173) 88 = .ok (.aload_n 0, 1) := by decide +kernel
theorem d_X8_see_89 : decode (mC 173) 89 = .ok (.getfield 29, 3) := by decide +kernel
theorem d_X8_see_92 : decode (mC 173) 92 = .ok (.iload_n 1, 1) := by decide +kernel
theorem d_X8_see_93 : decode (mC 173) 93 = .ok (.iaload, 1) := by decide +kernel
theorem d_X8_see_94 : decode (mC 173) 94 = .ok (.ireturn, 1) := by decide +kernel
theorem cv_173_120 : mn_cvt 173 8 120 115 = true := by decide +kernel
theorem cs_173_128 : mn_cs 173 8 128 117 = true := by decide +kernel
theorem fr_173_29 : mn_fr 173 8 29 8 7 = true := by decide +kernel
theorem fr_173_32 : mn_fr 173 8 32 8 8 = true := by decide +kernel
theorem b_X8_see_0 {x1 x2 x3 x4 : Int32} {h h' : mn_H} {r : Option Value} : mn_E 173 0 [.ref 63, .int x1, .int x2, .int x3, .int x4] [] h r h' ↔ ∃ x h1, mn_X 115 [.ref 63, .int x1] h (some (.int x)) h1 ∧ mn_E 173 5 [.ref 63, .int x1, .int x2, .int x3, .int x4] [.int x] h1 r h' :=
  (mX_aload_n d_X8_see_0 rfl).trans <| (mX_iload_n d_X8_see_1 rfl).trans <| mV_i (a := 63) (vs := [.int x1]) (st' := []) d_X8_see_2 cv_173_120 (Or.inr (Or.inl rfl)) (Nat.le_of_ble_eq_true rfl) rfl rfl rfl rfl
theorem b_X8_see_5 {x1 x2 x3 x4 s0 : Int32} {h h' : mn_H} {r : Option Value} : mn_E 173 5 [.ref 63, .int x1, .int x2, .int x3, .int x4] [.int s0] h r h' ↔ if ¬ s0 = 0 then mn_E 173 11 [.ref 63, .int x1, .int x2, .int x3, .int x4] [] h r h' else mn_E 173 8 [.ref 63, .int x1, .int x2, .int x3, .int x4] [] h r h' :=
  mX_if_ne d_X8_see_5 rfl
theorem b_X8_see_8 {x1 x2 x3 x4 : Int32} {h h' : mn_H} {r : Option Value} : mn_E 173 8 [.ref 63, .int x1, .int x2, .int x3, .int x4] [] h r h' ↔ r = some (.int (-1000000001)) ∧ h' = h :=
  (mX_ldc d_X8_see_8 mo_173 kc_8_124 (by decide)).trans <| mX_iret d_X8_see_10 rfl
theorem b_X8_see_11 {x1 x2 x3 x4 : Int32} {h h' : mn_H} {r : Option Value} : mn_E 173 11 [.ref 63, .int x1, .int x2, .int x3, .int x4] [] h r h' ↔ ∃ x h1, mn_X 117 [.int x3] h (some (.int x)) h1 ∧ mn_E 173 15 [.ref 63, .int x1, .int x2, .int x3, .int x4] [.int x] h1 r h' :=
  (mX_iload_n d_X8_see_11 rfl).trans <| mS_i (vs := [.int x3]) (st' := []) d_X8_see_12 cs_173_128 (Or.inr (Or.inl rfl)) (Nat.le_of_ble_eq_true rfl) rfl rfl rfl
theorem b_X8_see_15 {x1 x2 x3 x4 s0 : Int32} {h h' : mn_H} {r : Option Value} : mn_E 173 15 [.ref 63, .int x1, .int x2, .int x3, .int x4] [.int s0] h r h' ↔ if s0 = 0 then mn_E 173 26 [.ref 63, .int x1, .int x2, .int x3, .int x4] [] h r h' else mn_E 173 18 [.ref 63, .int x1, .int x2, .int x3, .int x4] [] h r h' :=
  mX_if_eq d_X8_see_15 rfl
theorem b_X8_see_18 {x1 x2 x3 x4 : Int32} {h h' : mn_H} {r : Option Value} : mn_E 173 18 [.ref 63, .int x1, .int x2, .int x3, .int x4] [] h r h' ↔ ∃ x h1, mn_X 117 [.int x4] h (some (.int x)) h1 ∧ mn_E 173 23 [.ref 63, .int x1, .int x2, .int x3, .int x4] [.int x] h1 r h' :=
  (mX_iload d_X8_see_18 rfl).trans <| mS_i (vs := [.int x4]) (st' := []) d_X8_see_20 cs_173_128 (Or.inr (Or.inl rfl)) (Nat.le_of_ble_eq_true rfl) rfl rfl rfl
theorem b_X8_see_23 {x1 x2 x3 x4 s0 : Int32} {h h' : mn_H} {r : Option Value} : mn_E 173 23 [.ref 63, .int x1, .int x2, .int x3, .int x4] [.int s0] h r h' ↔ if ¬ s0 = 0 then mn_E 173 29 [.ref 63, .int x1, .int x2, .int x3, .int x4] [] h r h' else mn_E 173 26 [.ref 63, .int x1, .int x2, .int x3, .int x4] [] h r h' :=
  mX_if_ne d_X8_see_23 rfl
theorem b_X8_see_26 {x1 x2 x3 x4 : Int32} {h h' : mn_H} {r : Option Value} : mn_E 173 26 [.ref 63, .int x1, .int x2, .int x3, .int x4] [] h r h' ↔ r = some (.int (-1000000002)) ∧ h' = h :=
  (mX_ldc d_X8_see_26 mo_173 kc_8_50 (by decide)).trans <| mX_iret d_X8_see_28 rfl
theorem b_X8_see_29 {x1 x2 x3 x4 : Int32} {h h' : mn_H} {r : Option Value} (hy0 : vp_in x1 5) : mn_E 173 29 [.ref 63, .int x1, .int x2, .int x3, .int x4] [] h r h' ↔ if ¬ (h 70 x1.toNatClampNeg) = 12 then mn_E 173 43 [.ref 63, .int x1, .int x2, .int x3, .int x4] [] h r h' else mn_E 173 40 [.ref 63, .int x1, .int x2, .int x3, .int x4] [] h r h' :=
  (mX_aload_n d_X8_see_29 rfl).trans <| (mG_r (b := 70) d_X8_see_30 fr_173_29 rfl (by decide) rfl).trans <| (mX_iload_n d_X8_see_33 rfl).trans <| (mX_iaload d_X8_see_34 rfl (by decide) hy0).trans <| (mX_bipush d_X8_see_35 cb_12).trans <| mX_icmp_ne d_X8_see_37 rfl
theorem b_X8_see_40 {x1 x2 x3 x4 : Int32} {h h' : mn_H} {r : Option Value} : mn_E 173 40 [.ref 63, .int x1, .int x2, .int x3, .int x4] [] h r h' ↔ r = some (.int (-1000000004)) ∧ h' = h :=
  (mX_ldc d_X8_see_40 mo_173 kc_8_54 (by decide)).trans <| mX_iret d_X8_see_42 rfl
theorem b_X8_see_43 {x1 x2 x3 x4 : Int32} {h h' : mn_H} {r : Option Value} (hy0 : vp_in x1 5) : mn_E 173 43 [.ref 63, .int x1, .int x2, .int x3, .int x4] [] h r h' ↔ if x2 = 0 then mn_E 173 68 [.ref 63, .int x1, .int x2, .int x3, .int x4] [.int ((12 * x1) + (h 70 x1.toNatClampNeg)), .ref 71] h r h' else mn_E 173 62 [.ref 63, .int x1, .int x2, .int x3, .int x4] [.int ((12 * x1) + (h 70 x1.toNatClampNeg)), .ref 71] h r h' :=
  (mX_aload_n d_X8_see_43 rfl).trans <| (mG_r (b := 71) d_X8_see_44 fr_173_32 rfl (by decide) rfl).trans <| (mX_bipush d_X8_see_47 cb_12).trans <| (mX_iload_n d_X8_see_49 rfl).trans <| (mX_imul d_X8_see_50).trans <| (mX_aload_n d_X8_see_51 rfl).trans <| (mG_r (b := 70) d_X8_see_52 fr_173_29 rfl (by decide) rfl).trans <| (mX_iload_n d_X8_see_55 rfl).trans <| (mX_iaload d_X8_see_56 rfl (by decide) hy0).trans <| (mX_iadd d_X8_see_57).trans <| (mX_iload_n d_X8_see_58 rfl).trans <| mX_if_eq d_X8_see_59 rfl
theorem b_X8_see_62 {x1 x2 x3 x4 s0 : Int32} {h h' : mn_H} {r : Option Value} : mn_E 173 62 [.ref 63, .int x1, .int x2, .int x3, .int x4] [.int s0, .ref 71] h r h' ↔ mn_E 173 69 [.ref 63, .int x1, .int x2, .int x3, .int x4] [.int 4096, .int s0, .ref 71] h r h' :=
  (mX_sipush d_X8_see_62 cs_4096).trans <| mX_goto d_X8_see_65 rfl
theorem b_X8_see_68 {x1 x2 x3 x4 s0 : Int32} {h h' : mn_H} {r : Option Value} : mn_E 173 68 [.ref 63, .int x1, .int x2, .int x3, .int x4] [.int s0, .ref 71] h r h' ↔ mn_E 173 69 [.ref 63, .int x1, .int x2, .int x3, .int x4] [.int 0, .int s0, .ref 71] h r h' :=
  mX_iconst d_X8_see_68 ci_0
theorem b_X8_see_69 {x1 x2 x3 x4 s0 s1 : Int32} {h h' : mn_H} {r : Option Value} (hy0 : vp_in s1 60) (hy1 : vp_in x1 5) : mn_E 173 69 [.ref 63, .int x1, .int x2, .int x3, .int x4] [.int s0, .int s1, .ref 71] h r h' ↔ r = some (.int ((mn_up (mn_up h 71 (s1.toNatClampNeg) ((s0 + (64 * x3)) + x4)) 70 (x1.toNatClampNeg) (((mn_up h 71 (s1.toNatClampNeg) ((s0 + (64 * x3)) + x4)) 70 x1.toNatClampNeg) + 1)) 70 x1.toNatClampNeg)) ∧ h' = mn_up (mn_up h 71 (s1.toNatClampNeg) ((s0 + (64 * x3)) + x4)) 70 (x1.toNatClampNeg) (((mn_up h 71 (s1.toNatClampNeg) ((s0 + (64 * x3)) + x4)) 70 x1.toNatClampNeg) + 1) :=
  (mX_bipush d_X8_see_69 cb_64).trans <| (mX_iload_n d_X8_see_71 rfl).trans <| (mX_imul d_X8_see_72).trans <| (mX_iadd d_X8_see_73).trans <| (mX_iload d_X8_see_74 rfl).trans <| (mX_iadd d_X8_see_76).trans <| (mX_iastore d_X8_see_77 rfl (by decide) hy0).trans <| (mX_aload_n d_X8_see_78 rfl).trans <| (mG_r (b := 70) d_X8_see_79 fr_173_29 rfl (by decide) rfl).trans <| (mX_iload_n d_X8_see_82 rfl).trans <| (mX_dup2 d_X8_see_83 ⟨rfl, rfl⟩).trans <| (mX_iaload d_X8_see_84 rfl (by decide) hy1).trans <| (mX_iconst d_X8_see_85 ci_1).trans <| (mX_iadd d_X8_see_86).trans <| (mX_iastore d_X8_see_87 rfl (by decide) hy1).trans <| (mX_aload_n d_X8_see_88 rfl).trans <| (mG_r (b := 70) d_X8_see_89 fr_173_29 rfl (by decide) rfl).trans <| (mX_iload_n d_X8_see_92 rfl).trans <| (mX_iaload d_X8_see_93 rfl (by decide) hy1).trans <| mX_iret d_X8_see_94 rfl
-- X8_isSign
theorem mo_174 : mO 174 = 8 := rfl
theorem d_X8_isSign_0 : decode (mC 174) 0 = .ok (.iload_n 0, 1) := by decide +kernel
theorem d_X8_isSign_1 : decode (mC 174) 1 = .ok (.bipush 36, 2) := by decide +kernel
theorem d_X8_isSign_3 : decode (mC 174) 3 = .ok (.idiv, 1) := by decide +kernel
theorem d_X8_isSign_4 : decode (mC 174) 4 = .ok (.istore_n 1, 1) := by decide +kernel
theorem d_X8_isSign_5 : decode (mC 174) 5 = .ok (.iload_n 0, 1) := by decide +kernel
theorem d_X8_isSign_6 : decode (mC 174) 6 = .ok (.bipush 6, 2) := by decide +kernel
theorem d_X8_isSign_8 : decode (mC 174) 8 = .ok (.idiv, 1) := by decide +kernel
theorem d_X8_isSign_9 : decode (mC 174) 9 = .ok (.bipush 6, 2) := by decide +kernel
theorem d_X8_isSign_11 : decode (mC 174) 11 = .ok (.irem, 1) := by decide +kernel
theorem d_X8_isSign_12 : decode (mC 174) 12 = .ok (.istore_n 2, 1) := by decide +kernel
theorem d_X8_isSign_13 : decode (mC 174) 13 = .ok (.iload_n 0, 1) := by decide +kernel
theorem d_X8_isSign_14 : decode (mC 174) 14 = .ok (.bipush 6, 2) := by decide +kernel
theorem d_X8_isSign_16 : decode (mC 174) 16 = .ok (.irem, 1) := by decide +kernel
theorem d_X8_isSign_17 : decode (mC 174) 17 = .ok (.istore_n 3, 1) := by decide +kernel
theorem d_X8_isSign_18 : decode (mC 174) 18 = .ok (.iload_n 1, 1) := by decide +kernel
theorem d_X8_isSign_19 : decode (mC 174) 19 = .ok (.iconst 2, 1) := by decide +kernel
theorem d_X8_isSign_20 : decode (mC 174) 20 = .ok (.if_icmp .eq 8, 3) := by decide +kernel
theorem d_X8_isSign_23 : decode (mC 174) 23 = .ok (.iload_n 1, 1) := by decide +kernel
theorem d_X8_isSign_24 : decode (mC 174) 24 = .ok (.iconst 3, 1) := by decide +kernel
theorem d_X8_isSign_25 : decode (mC 174) 25 = .ok (.if_icmp .ne 16, 3) := by decide +kernel
theorem d_X8_isSign_28 : decode (mC 174) 28 = .ok (.iload_n 3, 1) := by decide +kernel
theorem d_X8_isSign_29 : decode (mC 174) 29 = .ok (.iload_n 2, 1) := by decide +kernel
theorem d_X8_isSign_30 : decode (mC 174) 30 = .ok (.if_icmp .le 7, 3) := by decide +kernel
theorem d_X8_isSign_33 : decode (mC 174) 33 = .ok (.iconst 1, 1) := by decide +kernel
theorem d_X8_isSign_34 : decode (mC 174) 34 = .ok (.goto 16, 3) := by decide +kernel
theorem d_X8_isSign_37 : decode (mC 174) 37 = .ok (.iconst 0, 1) := by decide +kernel
theorem d_X8_isSign_38 : decode (mC 174) 38 = .ok (.goto 12, 3) := by decide +kernel
theorem d_X8_isSign_41 : decode (mC 174) 41 = .ok (.iload_n 3, 1) := by decide +kernel
theorem d_X8_isSign_42 : decode (mC 174) 42 = .ok (.ifCond .ne 7, 3) := by decide +kernel
theorem d_X8_isSign_45 : decode (mC 174) 45 = .ok (.iconst 1, 1) := by decide +kernel
theorem d_X8_isSign_46 : decode (mC 174) 46 = .ok (.goto 4, 3) := by decide +kernel
theorem d_X8_isSign_49 : decode (mC 174) 49 = .ok (.iconst 0, 1) := by decide +kernel
theorem d_X8_isSign_50 : decode (mC 174) 50 = .ok (.ireturn, 1) := by decide +kernel
theorem b_X8_isSign_0 {x0 : Int32} {h h' : mn_H} {r : Option Value} : mn_E 174 0 [.int x0, .null, .null, .null] [] h r h' ↔ if (x0 / 36) = 2 then mn_E 174 28 [.int x0, .int (x0 / 36), .int ((x0 / 6) - (x0 / 6) / 6 * 6), .int (x0 - x0 / 6 * 6)] [] h r h' else mn_E 174 23 [.int x0, .int (x0 / 36), .int ((x0 / 6) - (x0 / 6) / 6 * 6), .int (x0 - x0 / 6 * 6)] [] h r h' :=
  (mX_iload_n d_X8_isSign_0 rfl).trans <| (mX_bipush d_X8_isSign_1 cb_36).trans <| (mX_idiv d_X8_isSign_3 (by decide)).trans <| (mX_istore_n (ls' := [.int x0, .int (x0 / 36), .null, .null]) d_X8_isSign_4 rfl rfl).trans <| (mX_iload_n d_X8_isSign_5 rfl).trans <| (mX_bipush d_X8_isSign_6 cb_6).trans <| (mX_idiv d_X8_isSign_8 (by decide)).trans <| (mX_bipush d_X8_isSign_9 cb_6).trans <| (mX_irem d_X8_isSign_11 (by decide)).trans <| (mX_istore_n (ls' := [.int x0, .int (x0 / 36), .int ((x0 / 6) - (x0 / 6) / 6 * 6), .null]) d_X8_isSign_12 rfl rfl).trans <| (mX_iload_n d_X8_isSign_13 rfl).trans <| (mX_bipush d_X8_isSign_14 cb_6).trans <| (mX_irem d_X8_isSign_16 (by decide)).trans <| (mX_istore_n (ls' := [.int x0, .int (x0 / 36), .int ((x0 / 6) - (x0 / 6) / 6 * 6), .int (x0 - x0 / 6 * 6)]) d_X8_isSign_17 rfl rfl).trans <| (mX_iload_n d_X8_isSign_18 rfl).trans <| (mX_iconst d_X8_isSign_19 ci_2).trans <| mX_icmp_eq d_X8_isSign_20 rfl
theorem b_X8_isSign_23 {x0 x1 x2 x3 : Int32} {h h' : mn_H} {r : Option Value} : mn_E 174 23 [.int x0, .int x1, .int x2, .int x3] [] h r h' ↔ if ¬ x1 = 3 then mn_E 174 41 [.int x0, .int x1, .int x2, .int x3] [] h r h' else mn_E 174 28 [.int x0, .int x1, .int x2, .int x3] [] h r h' :=
  (mX_iload_n d_X8_isSign_23 rfl).trans <| (mX_iconst d_X8_isSign_24 ci_3).trans <| mX_icmp_ne d_X8_isSign_25 rfl
theorem b_X8_isSign_28 {x0 x1 x2 x3 : Int32} {h h' : mn_H} {r : Option Value} : mn_E 174 28 [.int x0, .int x1, .int x2, .int x3] [] h r h' ↔ if x3 ≤ x2 then mn_E 174 37 [.int x0, .int x1, .int x2, .int x3] [] h r h' else mn_E 174 33 [.int x0, .int x1, .int x2, .int x3] [] h r h' :=
  (mX_iload_n d_X8_isSign_28 rfl).trans <| (mX_iload_n d_X8_isSign_29 rfl).trans <| mX_icmp_le d_X8_isSign_30 rfl
theorem b_X8_isSign_33 {x0 x1 x2 x3 : Int32} {h h' : mn_H} {r : Option Value} : mn_E 174 33 [.int x0, .int x1, .int x2, .int x3] [] h r h' ↔ mn_E 174 50 [.int x0, .int x1, .int x2, .int x3] [.int 1] h r h' :=
  (mX_iconst d_X8_isSign_33 ci_1).trans <| mX_goto d_X8_isSign_34 rfl
theorem b_X8_isSign_37 {x0 x1 x2 x3 : Int32} {h h' : mn_H} {r : Option Value} : mn_E 174 37 [.int x0, .int x1, .int x2, .int x3] [] h r h' ↔ mn_E 174 50 [.int x0, .int x1, .int x2, .int x3] [.int 0] h r h' :=
  (mX_iconst d_X8_isSign_37 ci_0).trans <| mX_goto d_X8_isSign_38 rfl
theorem b_X8_isSign_41 {x0 x1 x2 x3 : Int32} {h h' : mn_H} {r : Option Value} : mn_E 174 41 [.int x0, .int x1, .int x2, .int x3] [] h r h' ↔ if ¬ x3 = 0 then mn_E 174 49 [.int x0, .int x1, .int x2, .int x3] [] h r h' else mn_E 174 45 [.int x0, .int x1, .int x2, .int x3] [] h r h' :=
  (mX_iload_n d_X8_isSign_41 rfl).trans <| mX_if_ne d_X8_isSign_42 rfl
theorem b_X8_isSign_45 {x0 x1 x2 x3 : Int32} {h h' : mn_H} {r : Option Value} : mn_E 174 45 [.int x0, .int x1, .int x2, .int x3] [] h r h' ↔ mn_E 174 50 [.int x0, .int x1, .int x2, .int x3] [.int 1] h r h' :=
  (mX_iconst d_X8_isSign_45 ci_1).trans <| mX_goto d_X8_isSign_46 rfl
theorem b_X8_isSign_49 {x0 x1 x2 x3 : Int32} {h h' : mn_H} {r : Option Value} : mn_E 174 49 [.int x0, .int x1, .int x2, .int x3] [] h r h' ↔ mn_E 174 50 [.int x0, .int x1, .int x2, .int x3] [.int 0] h r h' :=
  mX_iconst d_X8_isSign_49 ci_0
theorem b_X8_isSign_50 {x0 x1 x2 x3 s0 : Int32} {h h' : mn_H} {r : Option Value} (hy0 : s0 = 0 ∨ s0 = 1) : mn_E 174 50 [.int x0, .int x1, .int x2, .int x3] [.int s0] h r h' ↔ r = some (.int s0) ∧ h' = h :=
  mX_zret d_X8_isSign_50 rfl hy0
-- X8_isSo
theorem mo_175 : mO 175 = 8 := rfl
theorem d_X8_isSo_0 : decode (mC 175) 0 = .ok (.iload_n 2, 1) := by decide +kernel
theorem d_X8_isSo_1 : decode (mC 175) 1 = .ok (.invokestatic 203, 3) := by decide +kernel
theorem d_X8_isSo_4 : decode (mC 175) 4 = .ok (.istore_n 3, 1) := by decide +kernel
theorem d_X8_isSo_5 : decode (mC 175) 5 = .ok (.iconst 0, 1) := by decide +kernel
theorem d_X8_isSo_6 : decode (mC 175) 6 = .ok (.istore 4, 2) := by decide +kernel
theorem d_X8_isSo_8 : decode (mC 175) 8 = .ok (.iload 4, 2) := by decide +kernel
theorem d_X8_isSo_10 : decode (mC 175) 10 = .ok (.aload_n 0, 1) := by decide +kernel
theorem d_X8_isSo_11 : decode (mC 175) 11 = .ok (.getfield 29, 3) := by decide +kernel
theorem d_X8_isSo_14 : decode (mC 175) 14 = .ok (.iload_n 1, 1) := by decide +kernel
theorem d_X8_isSo_15 : decode (mC 175) 15 = .ok (.iaload, 1) := by decide +kernel
theorem d_X8_isSo_16 : decode (mC 175) 16 = .ok (.if_icmp .ge 80, 3) := by decide +kernel
theorem d_X8_isSo_19 : decode (mC 175) 19 = .ok (.iload_n 3, 1) := by decide +kernel
theorem d_X8_isSo_20 : decode (mC 175) 20 = .ok (.ifCond .eq 76, 3) := by decide +kernel
theorem d_X8_isSo_23 : decode (mC 175) 23 = .ok (.aload_n 0, 1) := by decide +kernel
theorem d_X8_isSo_24 : decode (mC 175) 24 = .ok (.getfield 32, 3) := by decide +kernel
theorem d_X8_isSo_27 : decode (mC 175) 27 = .ok (.bipush 12, 2) := by decide +kernel
theorem d_X8_isSo_29 : decode (mC 175) 29 = .ok (.iload_n 1, 1) := by decide +kernel
theorem d_X8_isSo_30 : decode (mC 175) 30 = .ok (.imul, 1) := by decide +kernel
theorem d_X8_isSo_31 : decode (mC 175) 31 = .ok (.iload 4, 2) := by decide +kernel
theorem d_X8_isSo_33 : decode (mC 175) 33 = .ok (.iadd, 1) := by decide +kernel
theorem d_X8_isSo_34 : decode (mC 175) 34 = .ok (.iaload, 1) := by decide +kernel
theorem d_X8_isSo_35 : decode (mC 175) 35 = .ok (.istore 5, 2) := by decide +kernel
theorem d_X8_isSo_37 : decode (mC 175) 37 = .ok (.iload_n 2, 1) := by decide +kernel
theorem d_X8_isSo_38 : decode (mC 175) 38 = .ok (.bipush 36, 2) := by decide +kernel
theorem d_X8_isSo_40 : decode (mC 175) 40 = .ok (.idiv, 1) := by decide +kernel
theorem d_X8_isSo_41 : decode (mC 175) 41 = .ok (.iload_n 2, 1) := by decide +kernel
theorem d_X8_isSo_42 : decode (mC 175) 42 = .ok (.bipush 6, 2) := by decide +kernel
theorem d_X8_isSo_44 : decode (mC 175) 44 = .ok (.idiv, 1) := by decide +kernel
theorem d_X8_isSo_45 : decode (mC 175) 45 = .ok (.bipush 6, 2) := by decide +kernel
theorem d_X8_isSo_47 : decode (mC 175) 47 = .ok (.irem, 1) := by decide +kernel
theorem d_X8_isSo_48 : decode (mC 175) 48 = .ok (.iload_n 2, 1) := by decide +kernel
theorem d_X8_isSo_49 : decode (mC 175) 49 = .ok (.bipush 6, 2) := by decide +kernel
theorem d_X8_isSo_51 : decode (mC 175) 51 = .ok (.irem, 1) := by decide +kernel
theorem d_X8_isSo_52 : decode (mC 175) 52 = .ok (.iload 5, 2) := by decide +kernel
theorem d_X8_isSo_54 : decode (mC 175) 54 = .ok (.bipush 64, 2) := by decide +kernel
theorem d_X8_isSo_56 : decode (mC 175) 56 = .ok (.idiv, 1) := by decide +kernel
theorem d_X8_isSo_57 : decode (mC 175) 57 = .ok (.bipush 64, 2) := by decide +kernel
theorem d_X8_isSo_59 : decode (mC 175) 59 = .ok (.irem, 1) := by decide +kernel
theorem d_X8_isSo_60 : decode (mC 175) 60 = .ok (.iload 5, 2) := by decide +kernel
theorem d_X8_isSo_62 : decode (mC 175) 62 = .ok (.bipush 64, 2) := by decide +kernel
theorem d_X8_isSo_64 : decode (mC 175) 64 = .ok (.irem, 1) := by decide +kernel
theorem d_X8_isSo_65 : decode (mC 175) 65 = .ok (.invokestatic 154, 3) := by decide +kernel
theorem d_X8_isSo_68 : decode (mC 175) 68 = .ok (.iload 5, 2) := by decide +kernel
theorem d_X8_isSo_70 : decode (mC 175) 70 = .ok (.sipush 4095, 3) := by decide +kernel
theorem d_X8_isSo_73 : decode (mC 175) 73 = .ok (.if_icmp .le 7, 3) := by decide +kernel
theorem d_X8_isSo_76 : decode (mC 175) 76 = .ok (.iconst 1, 1) := by decide +kernel
theorem d_X8_isSo_77 : decode (mC 175) 77 = .ok (.goto 4, 3) := by decide +kernel
theorem d_X8_isSo_80 : decode (mC 175) 80 = .ok (.iconst 0, 1) := by decide +kernel
theorem d_X8_isSo_81 : decode (mC 175) 81 = .ok (.if_icmp .ne 7, 3) := by decide +kernel
theorem d_X8_isSo_84 : decode (mC 175) 84 = .ok (.iconst 1, 1) := by decide +kernel
theorem d_X8_isSo_85 : decode (mC 175) 85 = .ok (.goto 4, 3) := by decide +kernel
theorem d_X8_isSo_88 : decode (mC 175) 88 = .ok (.iconst 0, 1) := by decide +kernel
theorem d_X8_isSo_89 : decode (mC 175) 89 = .ok (.istore_n 3, 1) := by decide +kernel
theorem d_X8_isSo_90 : decode (mC 175) 90 = .ok (.iinc 4 1, 3) := by decide +kernel
theorem d_X8_isSo_93 : decode (mC 175) 93 = .ok (.goto (-85), 3) := by decide +kernel
theorem d_X8_isSo_96 : decode (mC 175) 96 = .ok (.iload_n 3, 1) := by decide +kernel
theorem d_X8_isSo_97 : decode (mC 175) 97 = .ok (.ireturn, 1) := by decide +kernel
theorem cs_175_203 : mn_cs 175 8 203 174 = true := by decide +kernel
theorem fr_175_29 : mn_fr 175 8 29 8 7 = true := by decide +kernel
theorem fr_175_32 : mn_fr 175 8 32 8 8 = true := by decide +kernel
theorem cs_175_154 : mn_cs 175 8 154 142 = true := by decide +kernel
theorem b_X8_isSo_0 {x1 x2 : Int32} {h h' : mn_H} {r : Option Value} : mn_E 175 0 [.ref 63, .int x1, .int x2, .null, .null, .null] [] h r h' ↔ ∃ x h1, mn_X 174 [.int x2] h (some (.int x)) h1 ∧ mn_E 175 4 [.ref 63, .int x1, .int x2, .null, .null, .null] [.int x] h1 r h' :=
  (mX_iload_n d_X8_isSo_0 rfl).trans <| mS_i (vs := [.int x2]) (st' := []) d_X8_isSo_1 cs_175_203 (Or.inr (Or.inl rfl)) (Nat.le_of_ble_eq_true rfl) rfl rfl rfl
theorem b_X8_isSo_4 {x1 x2 s0 : Int32} {h h' : mn_H} {r : Option Value} : mn_E 175 4 [.ref 63, .int x1, .int x2, .null, .null, .null] [.int s0] h r h' ↔ mn_E 175 8 [.ref 63, .int x1, .int x2, .int s0, .int 0, .null] [] h r h' :=
  (mX_istore_n (ls' := [.ref 63, .int x1, .int x2, .int s0, .null, .null]) d_X8_isSo_4 rfl rfl).trans <| (mX_iconst d_X8_isSo_5 ci_0).trans <| mX_istore (ls' := [.ref 63, .int x1, .int x2, .int s0, .int 0, .null]) d_X8_isSo_6 rfl rfl
theorem b_X8_isSo_8 {x1 x2 x3 x4 : Int32} {w5 : Value} {h h' : mn_H} {r : Option Value} (hy0 : vp_in x1 5) : mn_E 175 8 [.ref 63, .int x1, .int x2, .int x3, .int x4, w5] [] h r h' ↔ if (h 70 x1.toNatClampNeg) ≤ x4 then mn_E 175 96 [.ref 63, .int x1, .int x2, .int x3, .int x4, w5] [] h r h' else mn_E 175 19 [.ref 63, .int x1, .int x2, .int x3, .int x4, w5] [] h r h' :=
  (mX_iload d_X8_isSo_8 rfl).trans <| (mX_aload_n d_X8_isSo_10 rfl).trans <| (mG_r (b := 70) d_X8_isSo_11 fr_175_29 rfl (by decide) rfl).trans <| (mX_iload_n d_X8_isSo_14 rfl).trans <| (mX_iaload d_X8_isSo_15 rfl (by decide) hy0).trans <| mX_icmp_ge d_X8_isSo_16 rfl
theorem b_X8_isSo_19 {x1 x2 x3 x4 : Int32} {w5 : Value} {h h' : mn_H} {r : Option Value} : mn_E 175 19 [.ref 63, .int x1, .int x2, .int x3, .int x4, w5] [] h r h' ↔ if x3 = 0 then mn_E 175 96 [.ref 63, .int x1, .int x2, .int x3, .int x4, w5] [] h r h' else mn_E 175 23 [.ref 63, .int x1, .int x2, .int x3, .int x4, w5] [] h r h' :=
  (mX_iload_n d_X8_isSo_19 rfl).trans <| mX_if_eq d_X8_isSo_20 rfl
theorem b_X8_isSo_23 {x1 x2 x3 x4 : Int32} {w5 : Value} {h h' : mn_H} {r : Option Value} (hy0 : vp_in ((12 * x1) + x4) 60) : mn_E 175 23 [.ref 63, .int x1, .int x2, .int x3, .int x4, w5] [] h r h' ↔ ∃ x h1, mn_X 142 [.int (x2 / 36), .int ((x2 / 6) - (x2 / 6) / 6 * 6), .int (x2 - x2 / 6 * 6), .int (((h 71 ((12 * x1) + x4).toNatClampNeg) / 64) - ((h 71 ((12 * x1) + x4).toNatClampNeg) / 64) / 64 * 64), .int ((h 71 ((12 * x1) + x4).toNatClampNeg) - (h 71 ((12 * x1) + x4).toNatClampNeg) / 64 * 64)] h (some (.int x)) h1 ∧ mn_E 175 68 [.ref 63, .int x1, .int x2, .int x3, .int x4, .int (h 71 ((12 * x1) + x4).toNatClampNeg)] [.int x] h1 r h' :=
  (mX_aload_n d_X8_isSo_23 rfl).trans <| (mG_r (b := 71) d_X8_isSo_24 fr_175_32 rfl (by decide) rfl).trans <| (mX_bipush d_X8_isSo_27 cb_12).trans <| (mX_iload_n d_X8_isSo_29 rfl).trans <| (mX_imul d_X8_isSo_30).trans <| (mX_iload d_X8_isSo_31 rfl).trans <| (mX_iadd d_X8_isSo_33).trans <| (mX_iaload d_X8_isSo_34 rfl (by decide) hy0).trans <| (mX_istore (ls' := [.ref 63, .int x1, .int x2, .int x3, .int x4, .int (h 71 ((12 * x1) + x4).toNatClampNeg)]) d_X8_isSo_35 rfl rfl).trans <| (mX_iload_n d_X8_isSo_37 rfl).trans <| (mX_bipush d_X8_isSo_38 cb_36).trans <| (mX_idiv d_X8_isSo_40 (by decide)).trans <| (mX_iload_n d_X8_isSo_41 rfl).trans <| (mX_bipush d_X8_isSo_42 cb_6).trans <| (mX_idiv d_X8_isSo_44 (by decide)).trans <| (mX_bipush d_X8_isSo_45 cb_6).trans <| (mX_irem d_X8_isSo_47 (by decide)).trans <| (mX_iload_n d_X8_isSo_48 rfl).trans <| (mX_bipush d_X8_isSo_49 cb_6).trans <| (mX_irem d_X8_isSo_51 (by decide)).trans <| (mX_iload d_X8_isSo_52 rfl).trans <| (mX_bipush d_X8_isSo_54 cb_64).trans <| (mX_idiv d_X8_isSo_56 (by decide)).trans <| (mX_bipush d_X8_isSo_57 cb_64).trans <| (mX_irem d_X8_isSo_59 (by decide)).trans <| (mX_iload d_X8_isSo_60 rfl).trans <| (mX_bipush d_X8_isSo_62 cb_64).trans <| (mX_irem d_X8_isSo_64 (by decide)).trans <| mS_i (vs := [.int (x2 / 36), .int ((x2 / 6) - (x2 / 6) / 6 * 6), .int (x2 - x2 / 6 * 6), .int (((h 71 ((12 * x1) + x4).toNatClampNeg) / 64) - ((h 71 ((12 * x1) + x4).toNatClampNeg) / 64) / 64 * 64), .int ((h 71 ((12 * x1) + x4).toNatClampNeg) - (h 71 ((12 * x1) + x4).toNatClampNeg) / 64 * 64)]) (st' := []) d_X8_isSo_65 cs_175_154 (Or.inr (Or.inl rfl)) (Nat.le_of_ble_eq_true rfl) rfl rfl rfl
theorem b_X8_isSo_68 {x1 x2 x3 x4 x5 s0 : Int32} {h h' : mn_H} {r : Option Value} : mn_E 175 68 [.ref 63, .int x1, .int x2, .int x3, .int x4, .int x5] [.int s0] h r h' ↔ if x5 ≤ 4095 then mn_E 175 80 [.ref 63, .int x1, .int x2, .int x3, .int x4, .int x5] [.int s0] h r h' else mn_E 175 76 [.ref 63, .int x1, .int x2, .int x3, .int x4, .int x5] [.int s0] h r h' :=
  (mX_iload d_X8_isSo_68 rfl).trans <| (mX_sipush d_X8_isSo_70 cs_4095).trans <| mX_icmp_le d_X8_isSo_73 rfl
theorem b_X8_isSo_76 {x1 x2 x3 x4 x5 s0 : Int32} {h h' : mn_H} {r : Option Value} : mn_E 175 76 [.ref 63, .int x1, .int x2, .int x3, .int x4, .int x5] [.int s0] h r h' ↔ mn_E 175 81 [.ref 63, .int x1, .int x2, .int x3, .int x4, .int x5] [.int 1, .int s0] h r h' :=
  (mX_iconst d_X8_isSo_76 ci_1).trans <| mX_goto d_X8_isSo_77 rfl
theorem b_X8_isSo_80 {x1 x2 x3 x4 x5 s0 : Int32} {h h' : mn_H} {r : Option Value} : mn_E 175 80 [.ref 63, .int x1, .int x2, .int x3, .int x4, .int x5] [.int s0] h r h' ↔ mn_E 175 81 [.ref 63, .int x1, .int x2, .int x3, .int x4, .int x5] [.int 0, .int s0] h r h' :=
  mX_iconst d_X8_isSo_80 ci_0
theorem b_X8_isSo_81 {x1 x2 x3 x4 x5 s0 s1 : Int32} {h h' : mn_H} {r : Option Value} : mn_E 175 81 [.ref 63, .int x1, .int x2, .int x3, .int x4, .int x5] [.int s0, .int s1] h r h' ↔ if ¬ s1 = s0 then mn_E 175 88 [.ref 63, .int x1, .int x2, .int x3, .int x4, .int x5] [] h r h' else mn_E 175 84 [.ref 63, .int x1, .int x2, .int x3, .int x4, .int x5] [] h r h' :=
  mX_icmp_ne d_X8_isSo_81 rfl
theorem b_X8_isSo_84 {x1 x2 x3 x4 x5 : Int32} {h h' : mn_H} {r : Option Value} : mn_E 175 84 [.ref 63, .int x1, .int x2, .int x3, .int x4, .int x5] [] h r h' ↔ mn_E 175 89 [.ref 63, .int x1, .int x2, .int x3, .int x4, .int x5] [.int 1] h r h' :=
  (mX_iconst d_X8_isSo_84 ci_1).trans <| mX_goto d_X8_isSo_85 rfl
theorem b_X8_isSo_88 {x1 x2 x3 x4 x5 : Int32} {h h' : mn_H} {r : Option Value} : mn_E 175 88 [.ref 63, .int x1, .int x2, .int x3, .int x4, .int x5] [] h r h' ↔ mn_E 175 89 [.ref 63, .int x1, .int x2, .int x3, .int x4, .int x5] [.int 0] h r h' :=
  mX_iconst d_X8_isSo_88 ci_0
theorem b_X8_isSo_89 {x1 x2 x3 x4 x5 s0 : Int32} {h h' : mn_H} {r : Option Value} : mn_E 175 89 [.ref 63, .int x1, .int x2, .int x3, .int x4, .int x5] [.int s0] h r h' ↔ mn_E 175 8 [.ref 63, .int x1, .int x2, .int s0, .int (x4 + 1), .int x5] [] h r h' :=
  (mX_istore_n (ls' := [.ref 63, .int x1, .int x2, .int s0, .int x4, .int x5]) d_X8_isSo_89 rfl rfl).trans <| (mX_iinc (ls' := [.ref 63, .int x1, .int x2, .int s0, .int (x4 + 1), .int x5]) d_X8_isSo_90 rfl ci_1 rfl rfl).trans <| mX_goto d_X8_isSo_93 rfl
theorem b_X8_isSo_96 {x1 x2 x3 x4 : Int32} {w5 : Value} {h h' : mn_H} {r : Option Value} (hy0 : x3 = 0 ∨ x3 = 1) : mn_E 175 96 [.ref 63, .int x1, .int x2, .int x3, .int x4, w5] [] h r h' ↔ r = some (.int x3) ∧ h' = h :=
  (mX_iload_n d_X8_isSo_96 rfl).trans <| mX_zret d_X8_isSo_97 rfl hy0
-- X8_means
theorem mo_176 : mO 176 = 8 := rfl
theorem d_X8_means_0 : decode (mC 176) 0 = .ok (.aload_n 0, 1) := by decide +kernel
theorem d_X8_means_1 : decode (mC 176) 1 = .ok (.iload_n 1, 1) := by decide +kernel
theorem d_X8_means_2 : decode (mC 176) 2 = .ok (.invokevirtual 120, 3) := by decide +kernel
theorem d_X8_means_5 : decode (mC 176) 5 = .ok (.ifCond .ne 6, 3) := by decide +kernel
theorem d_X8_means_8 : decode (mC 176) 8 = .ok (.ldc 124, 2) := by decide +kernel
theorem d_X8_means_10 : decode (mC 176) 10 = .ok (.ireturn, 1) := by decide +kernel
theorem d_X8_means_11 : decode (mC 176) 11 = .ok (.iconst 0, 1) := by decide +kernel
theorem d_X8_means_12 : decode (mC 176) 12 = .ok (.istore_n 3, 1) := by decide +kernel
theorem d_X8_means_13 : decode (mC 176) 13 = .ok (.iconst (-1), 1) := by decide +kernel
theorem d_X8_means_14 : decode (mC 176) 14 = .ok (.istore 4, 2) := by decide +kernel
theorem d_X8_means_16 : decode (mC 176) 16 = .ok (.iconst 0, 1) := by decide +kernel
theorem d_X8_means_17 : decode (mC 176) 17 = .ok (.istore 5, 2) := by decide +kernel
theorem d_X8_means_19 : decode (mC 176) 19 = .ok (.iload 5, 2) := by decide +kernel
theorem d_X8_means_21 : decode (mC 176) 21 = .ok (.sipush 180, 3) := by decide +kernel
theorem d_X8_means_24 : decode (mC 176) 24 = .ok (.if_icmp .ge 60, 3) := by decide +kernel
theorem d_X8_means_27 : decode (mC 176) 27 = .ok (.aload_n 0, 1) := by decide +kernel
theorem d_X8_means_28 : decode (mC 176) 28 = .ok (.iload_n 1, 1) := by decide +kernel
theorem d_X8_means_29 : decode (mC 176) 29 = .ok (.iload 5, 2) := by decide +kernel
theorem d_X8_means_31 : decode (mC 176) 31 = .ok (.invokevirtual 206, 3) := by decide +kernel
theorem d_X8_means_34 : decode (mC 176) 34 = .ok (.ifCond .eq 44, 3) := by decide +kernel
theorem d_X8_means_37 : decode (mC 176) 37 = .ok (.iload_n 3, 1) := by decide +kernel
theorem d_X8_means_38 : decode (mC 176) 38 = .ok (.iload_n 2, 1) := by decide +kernel
theorem d_X8_means_39 : decode (mC 176) 39 = .ok (.if_icmp .ne 32, 3) := by decide +kernel
theorem d_X8_means_42 : decode (mC 176) 42 = .ok (.bipush 100, 2) := by decide +kernel
theorem d_X8_means_44 : decode (mC 176) 44 = .ok (.iload 5, 2) := by decide +kernel
theorem d_X8_means_46 : decode (mC 176) 46 = .ok (.bipush 36, 2) := by decide +kernel
theorem d_X8_means_48 : decode (mC 176) 48 = .ok (.idiv, 1) := by decide +kernel
theorem d_X8_means_49 : decode (mC 176) 49 = .ok (.imul, 1) := by decide +kernel
theorem d_X8_means_50 : decode (mC 176) 50 = .ok (.bipush 10, 2) := by decide +kernel
theorem d_X8_means_52 : decode (mC 176) 52 = .ok (.iload 5, 2) := by decide +kernel
theorem d_X8_means_54 : decode (mC 176) 54 = .ok (.bipush 6, 2) := by decide +kernel
theorem d_X8_means_56 : decode (mC 176) 56 = .ok (.idiv, 1) := by decide +kernel
theorem d_X8_means_57 : decode (mC 176) 57 = .ok (.bipush 6, 2) := by decide +kernel
theorem d_X8_means_59 : decode (mC 176) 59 = .ok (.irem, 1) := by decide +kernel
theorem d_X8_means_60 : decode (mC 176) 60 = .ok (.imul, 1) := by decide +kernel
theorem d_X8_means_61 : decode (mC 176) 61 = .ok (.iadd, 1) := by decide +kernel
theorem d_X8_means_62 : decode (mC 176) 62 = .ok (.iload 5, 2) := by decide +kernel
theorem d_X8_means_64 : decode (mC 176) 64 = .ok (.bipush 6, 2) := by decide +kernel
theorem d_X8_means_66 : decode (mC 176) 66 = .ok (.irem, 1) := by decide +kernel
theorem d_X8_means_67 : decode (mC 176) 67 = .ok (.iadd, 1) := by decide +kernel
theorem d_X8_means_68 : decode (mC 176) 68 = .ok (.goto 5, 3) := by decide +kernel
theorem d_X8_means_71 : decode (mC 176) 71 = .ok (.iload 4, 2) := by decide +kernel
theorem d_X8_means_73 : decode (mC 176) 73 = .ok (.istore 4, 2) := by decide +kernel
theorem d_X8_means_75 : decode (mC 176) 75 = .ok (.iinc 3 1, 3) := by decide +kernel
theorem d_X8_means_78 : decode (mC 176) 78 = .ok (.iinc 5 1, 3) := by decide +kernel
theorem d_X8_means_81 : decode (mC 176) 81 = .ok (.goto (-62), 3) := by decide +kernel
theorem d_X8_means_84 : decode (mC 176) 84 = .ok (.iload_n 2, 1) := by decide +kernel
theorem d_X8_means_85 : decode (mC 176) 85 = .ok (.iconst (-1), 1) := by decide +kernel
theorem d_X8_means_86 : decode (mC 176) 86 = .ok (.if_icmp .ne 7, 3) := by decide +kernel
theorem d_X8_means_89 : decode (mC 176) 89 = .ok (.iload_n 3, 1) := by decide +kernel
theorem d_X8_means_90 : decode (mC 176) 90 = .ok (.goto 5, 3) := by decide +kernel
theorem d_X8_means_93 : decode (mC 176) 93 = .ok (.iload 4, 2) := by decide +kernel
theorem d_X8_means_95 : decode (mC 176) 95 = .ok (.ireturn, 1) := by decide +kernel
theorem cv_176_120 : mn_cvt 176 8 120 115 = true := by decide +kernel
theorem cv_176_206 : mn_cvt 176 8 206 175 = true := by decide +kernel
theorem b_X8_means_0 {x1 x2 : Int32} {h h' : mn_H} {r : Option Value} : mn_E 176 0 [.ref 63, .int x1, .int x2, .null, .null, .null] [] h r h' ↔ ∃ x h1, mn_X 115 [.ref 63, .int x1] h (some (.int x)) h1 ∧ mn_E 176 5 [.ref 63, .int x1, .int x2, .null, .null, .null] [.int x] h1 r h' :=
  (mX_aload_n d_X8_means_0 rfl).trans <| (mX_iload_n d_X8_means_1 rfl).trans <| mV_i (a := 63) (vs := [.int x1]) (st' := []) d_X8_means_2 cv_176_120 (Or.inr (Or.inl rfl)) (Nat.le_of_ble_eq_true rfl) rfl rfl rfl rfl
theorem b_X8_means_5 {x1 x2 s0 : Int32} {h h' : mn_H} {r : Option Value} : mn_E 176 5 [.ref 63, .int x1, .int x2, .null, .null, .null] [.int s0] h r h' ↔ if ¬ s0 = 0 then mn_E 176 11 [.ref 63, .int x1, .int x2, .null, .null, .null] [] h r h' else mn_E 176 8 [.ref 63, .int x1, .int x2, .null, .null, .null] [] h r h' :=
  mX_if_ne d_X8_means_5 rfl
theorem b_X8_means_8 {x1 x2 : Int32} {h h' : mn_H} {r : Option Value} : mn_E 176 8 [.ref 63, .int x1, .int x2, .null, .null, .null] [] h r h' ↔ r = some (.int (-1000000001)) ∧ h' = h :=
  (mX_ldc d_X8_means_8 mo_176 kc_8_124 (by decide)).trans <| mX_iret d_X8_means_10 rfl
theorem b_X8_means_11 {x1 x2 : Int32} {h h' : mn_H} {r : Option Value} : mn_E 176 11 [.ref 63, .int x1, .int x2, .null, .null, .null] [] h r h' ↔ mn_E 176 19 [.ref 63, .int x1, .int x2, .int 0, .int (-1), .int 0] [] h r h' :=
  (mX_iconst d_X8_means_11 ci_0).trans <| (mX_istore_n (ls' := [.ref 63, .int x1, .int x2, .int 0, .null, .null]) d_X8_means_12 rfl rfl).trans <| (mX_iconst d_X8_means_13 ci_m1).trans <| (mX_istore (ls' := [.ref 63, .int x1, .int x2, .int 0, .int (-1), .null]) d_X8_means_14 rfl rfl).trans <| (mX_iconst d_X8_means_16 ci_0).trans <| mX_istore (ls' := [.ref 63, .int x1, .int x2, .int 0, .int (-1), .int 0]) d_X8_means_17 rfl rfl
theorem b_X8_means_19 {x1 x2 x3 x4 x5 : Int32} {h h' : mn_H} {r : Option Value} : mn_E 176 19 [.ref 63, .int x1, .int x2, .int x3, .int x4, .int x5] [] h r h' ↔ if (180 : Int32) ≤ x5 then mn_E 176 84 [.ref 63, .int x1, .int x2, .int x3, .int x4, .int x5] [] h r h' else mn_E 176 27 [.ref 63, .int x1, .int x2, .int x3, .int x4, .int x5] [] h r h' :=
  (mX_iload d_X8_means_19 rfl).trans <| (mX_sipush d_X8_means_21 cs_180).trans <| mX_icmp_ge d_X8_means_24 rfl
theorem b_X8_means_27 {x1 x2 x3 x4 x5 : Int32} {h h' : mn_H} {r : Option Value} : mn_E 176 27 [.ref 63, .int x1, .int x2, .int x3, .int x4, .int x5] [] h r h' ↔ ∃ x h1, mn_X 175 [.ref 63, .int x1, .int x5] h (some (.int x)) h1 ∧ mn_E 176 34 [.ref 63, .int x1, .int x2, .int x3, .int x4, .int x5] [.int x] h1 r h' :=
  (mX_aload_n d_X8_means_27 rfl).trans <| (mX_iload_n d_X8_means_28 rfl).trans <| (mX_iload d_X8_means_29 rfl).trans <| mV_i (a := 63) (vs := [.int x1, .int x5]) (st' := []) d_X8_means_31 cv_176_206 (Or.inr (Or.inl rfl)) (Nat.le_of_ble_eq_true rfl) rfl rfl rfl rfl
theorem b_X8_means_34 {x1 x2 x3 x4 x5 s0 : Int32} {h h' : mn_H} {r : Option Value} : mn_E 176 34 [.ref 63, .int x1, .int x2, .int x3, .int x4, .int x5] [.int s0] h r h' ↔ if s0 = 0 then mn_E 176 78 [.ref 63, .int x1, .int x2, .int x3, .int x4, .int x5] [] h r h' else mn_E 176 37 [.ref 63, .int x1, .int x2, .int x3, .int x4, .int x5] [] h r h' :=
  mX_if_eq d_X8_means_34 rfl
theorem b_X8_means_37 {x1 x2 x3 x4 x5 : Int32} {h h' : mn_H} {r : Option Value} : mn_E 176 37 [.ref 63, .int x1, .int x2, .int x3, .int x4, .int x5] [] h r h' ↔ if ¬ x3 = x2 then mn_E 176 71 [.ref 63, .int x1, .int x2, .int x3, .int x4, .int x5] [] h r h' else mn_E 176 42 [.ref 63, .int x1, .int x2, .int x3, .int x4, .int x5] [] h r h' :=
  (mX_iload_n d_X8_means_37 rfl).trans <| (mX_iload_n d_X8_means_38 rfl).trans <| mX_icmp_ne d_X8_means_39 rfl
theorem b_X8_means_42 {x1 x2 x3 x4 x5 : Int32} {h h' : mn_H} {r : Option Value} : mn_E 176 42 [.ref 63, .int x1, .int x2, .int x3, .int x4, .int x5] [] h r h' ↔ mn_E 176 73 [.ref 63, .int x1, .int x2, .int x3, .int x4, .int x5] [.int (((100 * (x5 / 36)) + (10 * ((x5 / 6) - (x5 / 6) / 6 * 6))) + (x5 - x5 / 6 * 6))] h r h' :=
  (mX_bipush d_X8_means_42 cb_100).trans <| (mX_iload d_X8_means_44 rfl).trans <| (mX_bipush d_X8_means_46 cb_36).trans <| (mX_idiv d_X8_means_48 (by decide)).trans <| (mX_imul d_X8_means_49).trans <| (mX_bipush d_X8_means_50 cb_10).trans <| (mX_iload d_X8_means_52 rfl).trans <| (mX_bipush d_X8_means_54 cb_6).trans <| (mX_idiv d_X8_means_56 (by decide)).trans <| (mX_bipush d_X8_means_57 cb_6).trans <| (mX_irem d_X8_means_59 (by decide)).trans <| (mX_imul d_X8_means_60).trans <| (mX_iadd d_X8_means_61).trans <| (mX_iload d_X8_means_62 rfl).trans <| (mX_bipush d_X8_means_64 cb_6).trans <| (mX_irem d_X8_means_66 (by decide)).trans <| (mX_iadd d_X8_means_67).trans <| mX_goto d_X8_means_68 rfl
theorem b_X8_means_71 {x1 x2 x3 x4 x5 : Int32} {h h' : mn_H} {r : Option Value} : mn_E 176 71 [.ref 63, .int x1, .int x2, .int x3, .int x4, .int x5] [] h r h' ↔ mn_E 176 73 [.ref 63, .int x1, .int x2, .int x3, .int x4, .int x5] [.int x4] h r h' :=
  mX_iload d_X8_means_71 rfl
theorem b_X8_means_73 {x1 x2 x3 x4 x5 s0 : Int32} {h h' : mn_H} {r : Option Value} : mn_E 176 73 [.ref 63, .int x1, .int x2, .int x3, .int x4, .int x5] [.int s0] h r h' ↔ mn_E 176 78 [.ref 63, .int x1, .int x2, .int (x3 + 1), .int s0, .int x5] [] h r h' :=
  (mX_istore (ls' := [.ref 63, .int x1, .int x2, .int x3, .int s0, .int x5]) d_X8_means_73 rfl rfl).trans <| mX_iinc (ls' := [.ref 63, .int x1, .int x2, .int (x3 + 1), .int s0, .int x5]) d_X8_means_75 rfl ci_1 rfl rfl
theorem b_X8_means_78 {x1 x2 x3 x4 x5 : Int32} {h h' : mn_H} {r : Option Value} : mn_E 176 78 [.ref 63, .int x1, .int x2, .int x3, .int x4, .int x5] [] h r h' ↔ mn_E 176 19 [.ref 63, .int x1, .int x2, .int x3, .int x4, .int (x5 + 1)] [] h r h' :=
  (mX_iinc (ls' := [.ref 63, .int x1, .int x2, .int x3, .int x4, .int (x5 + 1)]) d_X8_means_78 rfl ci_1 rfl rfl).trans <| mX_goto d_X8_means_81 rfl
theorem b_X8_means_84 {x1 x2 x3 x4 x5 : Int32} {h h' : mn_H} {r : Option Value} : mn_E 176 84 [.ref 63, .int x1, .int x2, .int x3, .int x4, .int x5] [] h r h' ↔ if ¬ x2 = (-1) then mn_E 176 93 [.ref 63, .int x1, .int x2, .int x3, .int x4, .int x5] [] h r h' else mn_E 176 89 [.ref 63, .int x1, .int x2, .int x3, .int x4, .int x5] [] h r h' :=
  (mX_iload_n d_X8_means_84 rfl).trans <| (mX_iconst d_X8_means_85 ci_m1).trans <| mX_icmp_ne d_X8_means_86 rfl
theorem b_X8_means_89 {x1 x2 x3 x4 x5 : Int32} {h h' : mn_H} {r : Option Value} : mn_E 176 89 [.ref 63, .int x1, .int x2, .int x3, .int x4, .int x5] [] h r h' ↔ mn_E 176 95 [.ref 63, .int x1, .int x2, .int x3, .int x4, .int x5] [.int x3] h r h' :=
  (mX_iload_n d_X8_means_89 rfl).trans <| mX_goto d_X8_means_90 rfl
theorem b_X8_means_93 {x1 x2 x3 x4 x5 : Int32} {h h' : mn_H} {r : Option Value} : mn_E 176 93 [.ref 63, .int x1, .int x2, .int x3, .int x4, .int x5] [] h r h' ↔ mn_E 176 95 [.ref 63, .int x1, .int x2, .int x3, .int x4, .int x5] [.int x4] h r h' :=
  mX_iload d_X8_means_93 rfl
theorem b_X8_means_95 {x1 x2 x3 x4 x5 s0 : Int32} {h h' : mn_H} {r : Option Value} : mn_E 176 95 [.ref 63, .int x1, .int x2, .int x3, .int x4, .int x5] [.int s0] h r h' ↔ r = some (.int s0) ∧ h' = h :=
  mX_iret d_X8_means_95 rfl
-- X8_watch
theorem mo_177 : mO 177 = 8 := rfl
theorem d_X8_watch_0 : decode (mC 177) 0 = .ok (.aload_n 0, 1) := by decide +kernel
theorem d_X8_watch_1 : decode (mC 177) 1 = .ok (.iload_n 1, 1) := by decide +kernel
theorem d_X8_watch_2 : decode (mC 177) 2 = .ok (.invokevirtual 120, 3) := by decide +kernel
theorem d_X8_watch_5 : decode (mC 177) 5 = .ok (.ifCond .ne 6, 3) := by decide +kernel
theorem d_X8_watch_8 : decode (mC 177) 8 = .ok (.ldc 124, 2) := by decide +kernel
theorem d_X8_watch_10 : decode (mC 177) 10 = .ok (.ireturn, 1) := by decide +kernel
theorem d_X8_watch_11 : decode (mC 177) 11 = .ok (.aload_n 0, 1) := by decide +kernel
theorem d_X8_watch_12 : decode (mC 177) 12 = .ok (.iload_n 1, 1) := by decide +kernel
theorem d_X8_watch_13 : decode (mC 177) 13 = .ok (.iconst (-1), 1) := by decide +kernel
theorem d_X8_watch_14 : decode (mC 177) 14 = .ok (.invokevirtual 209, 3) := by decide +kernel
theorem d_X8_watch_17 : decode (mC 177) 17 = .ok (.istore_n 2, 1) := by decide +kernel
theorem d_X8_watch_18 : decode (mC 177) 18 = .ok (.iload_n 2, 1) := by decide +kernel
theorem d_X8_watch_19 : decode (mC 177) 19 = .ok (.istore_n 3, 1) := by decide +kernel
theorem d_X8_watch_20 : decode (mC 177) 20 = .ok (.iconst (-1), 1) := by decide +kernel
theorem d_X8_watch_21 : decode (mC 177) 21 = .ok (.istore 4, 2) := by decide +kernel
theorem d_X8_watch_23 : decode (mC 177) 23 = .ok (.iconst 0, 1) := by decide +kernel
theorem d_X8_watch_24 : decode (mC 177) 24 = .ok (.istore 5, 2) := by decide +kernel
theorem d_X8_watch_26 : decode (mC 177) 26 = .ok (.iload 5, 2) := by decide +kernel
theorem d_X8_watch_28 : decode (mC 177) 28 = .ok (.bipush 64, 2) := by decide +kernel
theorem d_X8_watch_30 : decode (mC 177) 30 = .ok (.if_icmp .ge 124, 3) := by decide +kernel
theorem d_X8_watch_33 : decode (mC 177) 33 = .ok (.iconst 0, 1) := by decide +kernel
theorem d_X8_watch_34 : decode (mC 177) 34 = .ok (.istore 6, 2) := by decide +kernel
theorem d_X8_watch_36 : decode (mC 177) 36 = .ok (.iconst 0, 1) := by decide +kernel
theorem d_X8_watch_37 : decode (mC 177) 37 = .ok (.istore 7, 2) := by decide +kernel
theorem d_X8_watch_39 : decode (mC 177) 39 = .ok (.iload 7, 2) := by decide +kernel
theorem d_X8_watch_41 : decode (mC 177) 41 = .ok (.sipush 180, 3) := by decide +kernel
theorem d_X8_watch_44 : decode (mC 177) 44 = .ok (.if_icmp .ge 56, 3) := by decide +kernel
theorem d_X8_watch_47 : decode (mC 177) 47 = .ok (.iload 6, 2) := by decide +kernel
theorem d_X8_watch_49 : decode (mC 177) 49 = .ok (.aload_n 0, 1) := by decide +kernel
theorem d_X8_watch_50 : decode (mC 177) 50 = .ok (.iload_n 1, 1) := by decide +kernel
theorem d_X8_watch_51 : decode (mC 177) 51 = .ok (.iload 7, 2) := by decide +kernel
theorem d_X8_watch_53 : decode (mC 177) 53 = .ok (.invokevirtual 206, 3) := by decide +kernel
theorem d_X8_watch_56 : decode (mC 177) 56 = .ok (.ifCond .eq 34, 3) := by decide +kernel
theorem d_X8_watch_59 : decode (mC 177) 59 = .ok (.iload 7, 2) := by decide +kernel
theorem d_X8_watch_61 : decode (mC 177) 61 = .ok (.bipush 36, 2) := by decide +kernel
theorem d_X8_watch_63 : decode (mC 177) 63 = .ok (.idiv, 1) := by decide +kernel
theorem d_X8_watch_64 : decode (mC 177) 64 = .ok (.iload 7, 2) := by decide +kernel
theorem d_X8_watch_66 : decode (mC 177) 66 = .ok (.bipush 6, 2) := by decide +kernel
theorem d_X8_watch_68 : decode (mC 177) 68 = .ok (.idiv, 1) := by decide +kernel
theorem d_X8_watch_69 : decode (mC 177) 69 = .ok (.bipush 6, 2) := by decide +kernel
theorem d_X8_watch_71 : decode (mC 177) 71 = .ok (.irem, 1) := by decide +kernel
theorem d_X8_watch_72 : decode (mC 177) 72 = .ok (.iload 7, 2) := by decide +kernel
theorem d_X8_watch_74 : decode (mC 177) 74 = .ok (.bipush 6, 2) := by decide +kernel
theorem d_X8_watch_76 : decode (mC 177) 76 = .ok (.irem, 1) := by decide +kernel
theorem d_X8_watch_77 : decode (mC 177) 77 = .ok (.iconst 0, 1) := by decide +kernel
theorem d_X8_watch_78 : decode (mC 177) 78 = .ok (.iload 5, 2) := by decide +kernel
theorem d_X8_watch_80 : decode (mC 177) 80 = .ok (.invokestatic 154, 3) := by decide +kernel
theorem d_X8_watch_83 : decode (mC 177) 83 = .ok (.ifCond .eq 7, 3) := by decide +kernel
theorem d_X8_watch_86 : decode (mC 177) 86 = .ok (.iconst 1, 1) := by decide +kernel
theorem d_X8_watch_87 : decode (mC 177) 87 = .ok (.goto 4, 3) := by decide +kernel
theorem d_X8_watch_90 : decode (mC 177) 90 = .ok (.iconst 0, 1) := by decide +kernel
theorem d_X8_watch_91 : decode (mC 177) 91 = .ok (.iadd, 1) := by decide +kernel
theorem d_X8_watch_92 : decode (mC 177) 92 = .ok (.istore 6, 2) := by decide +kernel
theorem d_X8_watch_94 : decode (mC 177) 94 = .ok (.iinc 7 1, 3) := by decide +kernel
theorem d_X8_watch_97 : decode (mC 177) 97 = .ok (.goto (-58), 3) := by decide +kernel
theorem d_X8_watch_100 : decode (mC 177) 100 = .ok (.iload 6, 2) := by decide +kernel
theorem d_X8_watch_102 : decode (mC 177) 102 = .ok (.iload_n 2, 1) := by decide +kernel
theorem d_X8_watch_103 : decode (mC 177) 103 = .ok (.iload 6, 2) := by decide +kernel
theorem d_X8_watch_105 : decode (mC 177) 105 = .ok (.isub, 1) := by decide +kernel
theorem d_X8_watch_106 : decode (mC 177) 106 = .ok (.if_icmp .le 8, 3) := by decide +kernel
theorem d_X8_watch_109 : decode (mC 177) 109 = .ok (.iload 6, 2) := by decide +kernel
theorem d_X8_watch_111 : decode (mC 177) 111 = .ok (.goto 7, 3) := by decide +kernel
theorem d_X8_watch_114 : decode (mC 177) 114 = .ok (.iload_n 2, 1) := by decide +kernel
theorem d_X8_watch_115 : decode (mC 177) 115 = .ok (.iload 6, 2) := by decide +kernel
theorem d_X8_watch_117 : decode (mC 177) 117 = .ok (.isub, 1) := by decide +kernel
theorem d_X8_watch_118 : decode (mC 177) 118 = .ok (.istore 7, 2) := by decide +kernel
theorem d_X8_watch_120 : decode (mC 177) 120 = .ok (.iload 7, 2) := by decide +kernel
theorem d_X8_watch_122 : decode (mC 177) 122 = .ok (.iload_n 3, 1) := by decide +kernel
theorem d_X8_watch_123 : decode (mC 177) 123 = .ok (.if_icmp .ge 8, 3) := by decide +kernel
theorem d_X8_watch_126 : decode (mC 177) 126 = .ok (.iload 5, 2) := by decide +kernel
theorem d_X8_watch_128 : decode (mC 177) 128 = .ok (.goto 5, 3) := by decide +kernel
theorem d_X8_watch_131 : decode (mC 177) 131 = .ok (.iload 4, 2) := by decide +kernel
theorem d_X8_watch_133 : decode (mC 177) 133 = .ok (.istore 4, 2) := by decide +kernel
theorem d_X8_watch_135 : decode (mC 177) 135 = .ok (.iload 7, 2) := by decide +kernel
theorem d_X8_watch_137 : decode (mC 177) 137 = .ok (.iload_n 3, 1) := by decide +kernel
theorem d_X8_watch_138 : decode (mC 177) 138 = .ok (.if_icmp .ge 8, 3) := by decide +kernel
theorem d_X8_watch_141 : decode (mC 177) 141 = .ok (.iload 7, 2) := by decide +kernel
theorem d_X8_watch_143 : decode (mC 177) 143 = .ok (.goto 4, 3) := by decide +kernel
theorem d_X8_watch_146 : decode (mC 177) 146 = .ok (.iload_n 3, 1) := by decide +kernel
theorem d_X8_watch_147 : decode (mC 177) 147 = .ok (.istore_n 3, 1) := by decide +kernel
theorem d_X8_watch_148 : decode (mC 177) 148 = .ok (.iinc 5 1, 3) := by decide +kernel
theorem d_X8_watch_151 : decode (mC 177) 151 = .ok (.goto (-125), 3) := by decide +kernel
theorem d_X8_watch_154 : decode (mC 177) 154 = .ok (.iload 4, 2) := by decide +kernel
theorem d_X8_watch_156 : decode (mC 177) 156 = .ok (.ireturn, 1) := by decide +kernel
theorem cv_177_120 : mn_cvt 177 8 120 115 = true := by decide +kernel
theorem cv_177_209 : mn_cvt 177 8 209 176 = true := by decide +kernel
theorem cv_177_206 : mn_cvt 177 8 206 175 = true := by decide +kernel
theorem cs_177_154 : mn_cs 177 8 154 142 = true := by decide +kernel
theorem b_X8_watch_0 {x1 : Int32} {h h' : mn_H} {r : Option Value} : mn_E 177 0 [.ref 63, .int x1, .null, .null, .null, .null, .null, .null] [] h r h' ↔ ∃ x h1, mn_X 115 [.ref 63, .int x1] h (some (.int x)) h1 ∧ mn_E 177 5 [.ref 63, .int x1, .null, .null, .null, .null, .null, .null] [.int x] h1 r h' :=
  (mX_aload_n d_X8_watch_0 rfl).trans <| (mX_iload_n d_X8_watch_1 rfl).trans <| mV_i (a := 63) (vs := [.int x1]) (st' := []) d_X8_watch_2 cv_177_120 (Or.inr (Or.inl rfl)) (Nat.le_of_ble_eq_true rfl) rfl rfl rfl rfl
theorem b_X8_watch_5 {x1 s0 : Int32} {h h' : mn_H} {r : Option Value} : mn_E 177 5 [.ref 63, .int x1, .null, .null, .null, .null, .null, .null] [.int s0] h r h' ↔ if ¬ s0 = 0 then mn_E 177 11 [.ref 63, .int x1, .null, .null, .null, .null, .null, .null] [] h r h' else mn_E 177 8 [.ref 63, .int x1, .null, .null, .null, .null, .null, .null] [] h r h' :=
  mX_if_ne d_X8_watch_5 rfl
theorem b_X8_watch_8 {x1 : Int32} {h h' : mn_H} {r : Option Value} : mn_E 177 8 [.ref 63, .int x1, .null, .null, .null, .null, .null, .null] [] h r h' ↔ r = some (.int (-1000000001)) ∧ h' = h :=
  (mX_ldc d_X8_watch_8 mo_177 kc_8_124 (by decide)).trans <| mX_iret d_X8_watch_10 rfl
theorem b_X8_watch_11 {x1 : Int32} {h h' : mn_H} {r : Option Value} : mn_E 177 11 [.ref 63, .int x1, .null, .null, .null, .null, .null, .null] [] h r h' ↔ ∃ x h1, mn_X 176 [.ref 63, .int x1, .int (-1)] h (some (.int x)) h1 ∧ mn_E 177 17 [.ref 63, .int x1, .null, .null, .null, .null, .null, .null] [.int x] h1 r h' :=
  (mX_aload_n d_X8_watch_11 rfl).trans <| (mX_iload_n d_X8_watch_12 rfl).trans <| (mX_iconst d_X8_watch_13 ci_m1).trans <| mV_i (a := 63) (vs := [.int x1, .int (-1)]) (st' := []) d_X8_watch_14 cv_177_209 (Or.inl rfl) (Nat.le_of_ble_eq_true rfl) rfl rfl rfl rfl
theorem b_X8_watch_17 {x1 s0 : Int32} {h h' : mn_H} {r : Option Value} : mn_E 177 17 [.ref 63, .int x1, .null, .null, .null, .null, .null, .null] [.int s0] h r h' ↔ mn_E 177 26 [.ref 63, .int x1, .int s0, .int s0, .int (-1), .int 0, .null, .null] [] h r h' :=
  (mX_istore_n (ls' := [.ref 63, .int x1, .int s0, .null, .null, .null, .null, .null]) d_X8_watch_17 rfl rfl).trans <| (mX_iload_n d_X8_watch_18 rfl).trans <| (mX_istore_n (ls' := [.ref 63, .int x1, .int s0, .int s0, .null, .null, .null, .null]) d_X8_watch_19 rfl rfl).trans <| (mX_iconst d_X8_watch_20 ci_m1).trans <| (mX_istore (ls' := [.ref 63, .int x1, .int s0, .int s0, .int (-1), .null, .null, .null]) d_X8_watch_21 rfl rfl).trans <| (mX_iconst d_X8_watch_23 ci_0).trans <| mX_istore (ls' := [.ref 63, .int x1, .int s0, .int s0, .int (-1), .int 0, .null, .null]) d_X8_watch_24 rfl rfl
theorem b_X8_watch_26 {x1 x2 x3 x4 x5 : Int32} {w6 w7 : Value} {h h' : mn_H} {r : Option Value} : mn_E 177 26 [.ref 63, .int x1, .int x2, .int x3, .int x4, .int x5, w6, w7] [] h r h' ↔ if (64 : Int32) ≤ x5 then mn_E 177 154 [.ref 63, .int x1, .int x2, .int x3, .int x4, .int x5, w6, w7] [] h r h' else mn_E 177 33 [.ref 63, .int x1, .int x2, .int x3, .int x4, .int x5, w6, w7] [] h r h' :=
  (mX_iload d_X8_watch_26 rfl).trans <| (mX_bipush d_X8_watch_28 cb_64).trans <| mX_icmp_ge d_X8_watch_30 rfl
theorem b_X8_watch_33 {x1 x2 x3 x4 x5 : Int32} {w6 w7 : Value} {h h' : mn_H} {r : Option Value} : mn_E 177 33 [.ref 63, .int x1, .int x2, .int x3, .int x4, .int x5, w6, w7] [] h r h' ↔ mn_E 177 39 [.ref 63, .int x1, .int x2, .int x3, .int x4, .int x5, .int 0, .int 0] [] h r h' :=
  (mX_iconst d_X8_watch_33 ci_0).trans <| (mX_istore (ls' := [.ref 63, .int x1, .int x2, .int x3, .int x4, .int x5, .int 0, w7]) d_X8_watch_34 rfl rfl).trans <| (mX_iconst d_X8_watch_36 ci_0).trans <| mX_istore (ls' := [.ref 63, .int x1, .int x2, .int x3, .int x4, .int x5, .int 0, .int 0]) d_X8_watch_37 rfl rfl
theorem b_X8_watch_39 {x1 x2 x3 x4 x5 x6 x7 : Int32} {h h' : mn_H} {r : Option Value} : mn_E 177 39 [.ref 63, .int x1, .int x2, .int x3, .int x4, .int x5, .int x6, .int x7] [] h r h' ↔ if (180 : Int32) ≤ x7 then mn_E 177 100 [.ref 63, .int x1, .int x2, .int x3, .int x4, .int x5, .int x6, .int x7] [] h r h' else mn_E 177 47 [.ref 63, .int x1, .int x2, .int x3, .int x4, .int x5, .int x6, .int x7] [] h r h' :=
  (mX_iload d_X8_watch_39 rfl).trans <| (mX_sipush d_X8_watch_41 cs_180).trans <| mX_icmp_ge d_X8_watch_44 rfl
theorem b_X8_watch_47 {x1 x2 x3 x4 x5 x6 x7 : Int32} {h h' : mn_H} {r : Option Value} : mn_E 177 47 [.ref 63, .int x1, .int x2, .int x3, .int x4, .int x5, .int x6, .int x7] [] h r h' ↔ ∃ x h1, mn_X 175 [.ref 63, .int x1, .int x7] h (some (.int x)) h1 ∧ mn_E 177 56 [.ref 63, .int x1, .int x2, .int x3, .int x4, .int x5, .int x6, .int x7] [.int x, .int x6] h1 r h' :=
  (mX_iload d_X8_watch_47 rfl).trans <| (mX_aload_n d_X8_watch_49 rfl).trans <| (mX_iload_n d_X8_watch_50 rfl).trans <| (mX_iload d_X8_watch_51 rfl).trans <| mV_i (a := 63) (vs := [.int x1, .int x7]) (st' := [.int x6]) d_X8_watch_53 cv_177_206 (Or.inr (Or.inl rfl)) (Nat.le_of_ble_eq_true rfl) rfl rfl rfl rfl
theorem b_X8_watch_56 {x1 x2 x3 x4 x5 x6 x7 s0 s1 : Int32} {h h' : mn_H} {r : Option Value} : mn_E 177 56 [.ref 63, .int x1, .int x2, .int x3, .int x4, .int x5, .int x6, .int x7] [.int s0, .int s1] h r h' ↔ if s0 = 0 then mn_E 177 90 [.ref 63, .int x1, .int x2, .int x3, .int x4, .int x5, .int x6, .int x7] [.int s1] h r h' else mn_E 177 59 [.ref 63, .int x1, .int x2, .int x3, .int x4, .int x5, .int x6, .int x7] [.int s1] h r h' :=
  mX_if_eq d_X8_watch_56 rfl
theorem b_X8_watch_59 {x1 x2 x3 x4 x5 x6 x7 s0 : Int32} {h h' : mn_H} {r : Option Value} : mn_E 177 59 [.ref 63, .int x1, .int x2, .int x3, .int x4, .int x5, .int x6, .int x7] [.int s0] h r h' ↔ ∃ x h1, mn_X 142 [.int (x7 / 36), .int ((x7 / 6) - (x7 / 6) / 6 * 6), .int (x7 - x7 / 6 * 6), .int 0, .int x5] h (some (.int x)) h1 ∧ mn_E 177 83 [.ref 63, .int x1, .int x2, .int x3, .int x4, .int x5, .int x6, .int x7] [.int x, .int s0] h1 r h' :=
  (mX_iload d_X8_watch_59 rfl).trans <| (mX_bipush d_X8_watch_61 cb_36).trans <| (mX_idiv d_X8_watch_63 (by decide)).trans <| (mX_iload d_X8_watch_64 rfl).trans <| (mX_bipush d_X8_watch_66 cb_6).trans <| (mX_idiv d_X8_watch_68 (by decide)).trans <| (mX_bipush d_X8_watch_69 cb_6).trans <| (mX_irem d_X8_watch_71 (by decide)).trans <| (mX_iload d_X8_watch_72 rfl).trans <| (mX_bipush d_X8_watch_74 cb_6).trans <| (mX_irem d_X8_watch_76 (by decide)).trans <| (mX_iconst d_X8_watch_77 ci_0).trans <| (mX_iload d_X8_watch_78 rfl).trans <| mS_i (vs := [.int (x7 / 36), .int ((x7 / 6) - (x7 / 6) / 6 * 6), .int (x7 - x7 / 6 * 6), .int 0, .int x5]) (st' := [.int s0]) d_X8_watch_80 cs_177_154 (Or.inr (Or.inl rfl)) (Nat.le_of_ble_eq_true rfl) rfl rfl rfl
theorem b_X8_watch_83 {x1 x2 x3 x4 x5 x6 x7 s0 s1 : Int32} {h h' : mn_H} {r : Option Value} : mn_E 177 83 [.ref 63, .int x1, .int x2, .int x3, .int x4, .int x5, .int x6, .int x7] [.int s0, .int s1] h r h' ↔ if s0 = 0 then mn_E 177 90 [.ref 63, .int x1, .int x2, .int x3, .int x4, .int x5, .int x6, .int x7] [.int s1] h r h' else mn_E 177 86 [.ref 63, .int x1, .int x2, .int x3, .int x4, .int x5, .int x6, .int x7] [.int s1] h r h' :=
  mX_if_eq d_X8_watch_83 rfl
theorem b_X8_watch_86 {x1 x2 x3 x4 x5 x6 x7 s0 : Int32} {h h' : mn_H} {r : Option Value} : mn_E 177 86 [.ref 63, .int x1, .int x2, .int x3, .int x4, .int x5, .int x6, .int x7] [.int s0] h r h' ↔ mn_E 177 91 [.ref 63, .int x1, .int x2, .int x3, .int x4, .int x5, .int x6, .int x7] [.int 1, .int s0] h r h' :=
  (mX_iconst d_X8_watch_86 ci_1).trans <| mX_goto d_X8_watch_87 rfl
theorem b_X8_watch_90 {x1 x2 x3 x4 x5 x6 x7 s0 : Int32} {h h' : mn_H} {r : Option Value} : mn_E 177 90 [.ref 63, .int x1, .int x2, .int x3, .int x4, .int x5, .int x6, .int x7] [.int s0] h r h' ↔ mn_E 177 91 [.ref 63, .int x1, .int x2, .int x3, .int x4, .int x5, .int x6, .int x7] [.int 0, .int s0] h r h' :=
  mX_iconst d_X8_watch_90 ci_0
theorem b_X8_watch_91 {x1 x2 x3 x4 x5 x6 x7 s0 s1 : Int32} {h h' : mn_H} {r : Option Value} : mn_E 177 91 [.ref 63, .int x1, .int x2, .int x3, .int x4, .int x5, .int x6, .int x7] [.int s0, .int s1] h r h' ↔ mn_E 177 39 [.ref 63, .int x1, .int x2, .int x3, .int x4, .int x5, .int (s1 + s0), .int (x7 + 1)] [] h r h' :=
  (mX_iadd d_X8_watch_91).trans <| (mX_istore (ls' := [.ref 63, .int x1, .int x2, .int x3, .int x4, .int x5, .int (s1 + s0), .int x7]) d_X8_watch_92 rfl rfl).trans <| (mX_iinc (ls' := [.ref 63, .int x1, .int x2, .int x3, .int x4, .int x5, .int (s1 + s0), .int (x7 + 1)]) d_X8_watch_94 rfl ci_1 rfl rfl).trans <| mX_goto d_X8_watch_97 rfl
theorem b_X8_watch_100 {x1 x2 x3 x4 x5 x6 x7 : Int32} {h h' : mn_H} {r : Option Value} : mn_E 177 100 [.ref 63, .int x1, .int x2, .int x3, .int x4, .int x5, .int x6, .int x7] [] h r h' ↔ if x6 ≤ (x2 - x6) then mn_E 177 114 [.ref 63, .int x1, .int x2, .int x3, .int x4, .int x5, .int x6, .int x7] [] h r h' else mn_E 177 109 [.ref 63, .int x1, .int x2, .int x3, .int x4, .int x5, .int x6, .int x7] [] h r h' :=
  (mX_iload d_X8_watch_100 rfl).trans <| (mX_iload_n d_X8_watch_102 rfl).trans <| (mX_iload d_X8_watch_103 rfl).trans <| (mX_isub d_X8_watch_105).trans <| mX_icmp_le d_X8_watch_106 rfl
theorem b_X8_watch_109 {x1 x2 x3 x4 x5 x6 x7 : Int32} {h h' : mn_H} {r : Option Value} : mn_E 177 109 [.ref 63, .int x1, .int x2, .int x3, .int x4, .int x5, .int x6, .int x7] [] h r h' ↔ mn_E 177 118 [.ref 63, .int x1, .int x2, .int x3, .int x4, .int x5, .int x6, .int x7] [.int x6] h r h' :=
  (mX_iload d_X8_watch_109 rfl).trans <| mX_goto d_X8_watch_111 rfl
theorem b_X8_watch_114 {x1 x2 x3 x4 x5 x6 x7 : Int32} {h h' : mn_H} {r : Option Value} : mn_E 177 114 [.ref 63, .int x1, .int x2, .int x3, .int x4, .int x5, .int x6, .int x7] [] h r h' ↔ mn_E 177 118 [.ref 63, .int x1, .int x2, .int x3, .int x4, .int x5, .int x6, .int x7] [.int (x2 - x6)] h r h' :=
  (mX_iload_n d_X8_watch_114 rfl).trans <| (mX_iload d_X8_watch_115 rfl).trans <| mX_isub d_X8_watch_117
theorem b_X8_watch_118 {x1 x2 x3 x4 x5 x6 x7 s0 : Int32} {h h' : mn_H} {r : Option Value} : mn_E 177 118 [.ref 63, .int x1, .int x2, .int x3, .int x4, .int x5, .int x6, .int x7] [.int s0] h r h' ↔ if x3 ≤ s0 then mn_E 177 131 [.ref 63, .int x1, .int x2, .int x3, .int x4, .int x5, .int x6, .int s0] [] h r h' else mn_E 177 126 [.ref 63, .int x1, .int x2, .int x3, .int x4, .int x5, .int x6, .int s0] [] h r h' :=
  (mX_istore (ls' := [.ref 63, .int x1, .int x2, .int x3, .int x4, .int x5, .int x6, .int s0]) d_X8_watch_118 rfl rfl).trans <| (mX_iload d_X8_watch_120 rfl).trans <| (mX_iload_n d_X8_watch_122 rfl).trans <| mX_icmp_ge d_X8_watch_123 rfl
theorem b_X8_watch_126 {x1 x2 x3 x4 x5 x6 x7 : Int32} {h h' : mn_H} {r : Option Value} : mn_E 177 126 [.ref 63, .int x1, .int x2, .int x3, .int x4, .int x5, .int x6, .int x7] [] h r h' ↔ mn_E 177 133 [.ref 63, .int x1, .int x2, .int x3, .int x4, .int x5, .int x6, .int x7] [.int x5] h r h' :=
  (mX_iload d_X8_watch_126 rfl).trans <| mX_goto d_X8_watch_128 rfl
theorem b_X8_watch_131 {x1 x2 x3 x4 x5 x6 x7 : Int32} {h h' : mn_H} {r : Option Value} : mn_E 177 131 [.ref 63, .int x1, .int x2, .int x3, .int x4, .int x5, .int x6, .int x7] [] h r h' ↔ mn_E 177 133 [.ref 63, .int x1, .int x2, .int x3, .int x4, .int x5, .int x6, .int x7] [.int x4] h r h' :=
  mX_iload d_X8_watch_131 rfl
theorem b_X8_watch_133 {x1 x2 x3 x4 x5 x6 x7 s0 : Int32} {h h' : mn_H} {r : Option Value} : mn_E 177 133 [.ref 63, .int x1, .int x2, .int x3, .int x4, .int x5, .int x6, .int x7] [.int s0] h r h' ↔ if x3 ≤ x7 then mn_E 177 146 [.ref 63, .int x1, .int x2, .int x3, .int s0, .int x5, .int x6, .int x7] [] h r h' else mn_E 177 141 [.ref 63, .int x1, .int x2, .int x3, .int s0, .int x5, .int x6, .int x7] [] h r h' :=
  (mX_istore (ls' := [.ref 63, .int x1, .int x2, .int x3, .int s0, .int x5, .int x6, .int x7]) d_X8_watch_133 rfl rfl).trans <| (mX_iload d_X8_watch_135 rfl).trans <| (mX_iload_n d_X8_watch_137 rfl).trans <| mX_icmp_ge d_X8_watch_138 rfl
theorem b_X8_watch_141 {x1 x2 x3 x4 x5 x6 x7 : Int32} {h h' : mn_H} {r : Option Value} : mn_E 177 141 [.ref 63, .int x1, .int x2, .int x3, .int x4, .int x5, .int x6, .int x7] [] h r h' ↔ mn_E 177 147 [.ref 63, .int x1, .int x2, .int x3, .int x4, .int x5, .int x6, .int x7] [.int x7] h r h' :=
  (mX_iload d_X8_watch_141 rfl).trans <| mX_goto d_X8_watch_143 rfl
theorem b_X8_watch_146 {x1 x2 x3 x4 x5 x6 x7 : Int32} {h h' : mn_H} {r : Option Value} : mn_E 177 146 [.ref 63, .int x1, .int x2, .int x3, .int x4, .int x5, .int x6, .int x7] [] h r h' ↔ mn_E 177 147 [.ref 63, .int x1, .int x2, .int x3, .int x4, .int x5, .int x6, .int x7] [.int x3] h r h' :=
  mX_iload_n d_X8_watch_146 rfl
theorem b_X8_watch_147 {x1 x2 x3 x4 x5 x6 x7 s0 : Int32} {h h' : mn_H} {r : Option Value} : mn_E 177 147 [.ref 63, .int x1, .int x2, .int x3, .int x4, .int x5, .int x6, .int x7] [.int s0] h r h' ↔ mn_E 177 26 [.ref 63, .int x1, .int x2, .int s0, .int x4, .int (x5 + 1), .int x6, .int x7] [] h r h' :=
  (mX_istore_n (ls' := [.ref 63, .int x1, .int x2, .int s0, .int x4, .int x5, .int x6, .int x7]) d_X8_watch_147 rfl rfl).trans <| (mX_iinc (ls' := [.ref 63, .int x1, .int x2, .int s0, .int x4, .int (x5 + 1), .int x6, .int x7]) d_X8_watch_148 rfl ci_1 rfl rfl).trans <| mX_goto d_X8_watch_151 rfl
theorem b_X8_watch_154 {x1 x2 x3 x4 x5 : Int32} {w6 w7 : Value} {h h' : mn_H} {r : Option Value} : mn_E 177 154 [.ref 63, .int x1, .int x2, .int x3, .int x4, .int x5, w6, w7] [] h r h' ↔ r = some (.int x4) ∧ h' = h :=
  (mX_iload d_X8_watch_154 rfl).trans <| mX_iret d_X8_watch_156 rfl
-- X8_tear
theorem mo_178 : mO 178 = 8 := rfl
theorem d_X8_tear_0 : decode (mC 178) 0 = .ok (.iconst 0, 1) := by decide +kernel
theorem d_X8_tear_1 : decode (mC 178) 1 = .ok (.istore_n 1, 1) := by decide +kernel
theorem d_X8_tear_2 : decode (mC 178) 2 = .ok (.iconst 0, 1) := by decide +kernel
theorem d_X8_tear_3 : decode (mC 178) 3 = .ok (.istore_n 2, 1) := by decide +kernel
theorem d_X8_tear_4 : decode (mC 178) 4 = .ok (.iload_n 2, 1) := by decide +kernel
theorem d_X8_tear_5 : decode (mC 178) 5 = .ok (.iconst 5, 1) := by decide +kernel
theorem d_X8_tear_6 : decode (mC 178) 6 = .ok (.if_icmp .ge 25, 3) := by decide +kernel
theorem d_X8_tear_9 : decode (mC 178) 9 = .ok (.iload_n 1, 1) := by decide +kernel
theorem d_X8_tear_10 : decode (mC 178) 10 = .ok (.aload_n 0, 1) := by decide +kernel
theorem d_X8_tear_11 : decode (mC 178) 11 = .ok (.getfield 29, 3) := by decide +kernel
theorem d_X8_tear_14 : decode (mC 178) 14 = .ok (.iload_n 2, 1) := by decide +kernel
theorem d_X8_tear_15 : decode (mC 178) 15 = .ok (.iaload, 1) := by decide +kernel
theorem d_X8_tear_16 : decode (mC 178) 16 = .ok (.iadd, 1) := by decide +kernel
theorem d_X8_tear_17 : decode (mC 178) 17 = .ok (.istore_n 1, 1) := by decide +kernel
theorem d_X8_tear_18 : decode (mC 178) 18 = .ok (.aload_n 0, 1) := by decide +kernel
theorem d_X8_tear_19 : decode (mC 178) 19 = .ok (.getfield 29, 3) := by decide +kernel
theorem d_X8_tear_22 : decode (mC 178) 22 = .ok (.iload_n 2, 1) := by decide +kernel
theorem d_X8_tear_23 : decode (mC 178) 23 = .ok (.iconst 0, 1) := by decide +kernel
theorem d_X8_tear_24 : decode (mC 178) 24 = .ok (.iastore, 1) := by decide +kernel
theorem d_X8_tear_25 : decode (mC 178) 25 = .ok (.iinc 2 1, 3) := by decide +kernel
theorem d_X8_tear_28 : decode (mC 178) 28 = .ok (.goto (-24), 3) := by decide +kernel
theorem d_X8_tear_31 : decode (mC 178) 31 = .ok (.iload_n 1, 1) := by decide +kernel
theorem d_X8_tear_32 : decode (mC 178) 32 = .ok (.ireturn, 1) := by decide +kernel
theorem fr_178_29 : mn_fr 178 8 29 8 7 = true := by decide +kernel
theorem b_X8_tear_0 {h h' : mn_H} {r : Option Value} : mn_E 178 0 [.ref 63, .null, .null] [] h r h' ↔ mn_E 178 4 [.ref 63, .int 0, .int 0] [] h r h' :=
  (mX_iconst d_X8_tear_0 ci_0).trans <| (mX_istore_n (ls' := [.ref 63, .int 0, .null]) d_X8_tear_1 rfl rfl).trans <| (mX_iconst d_X8_tear_2 ci_0).trans <| mX_istore_n (ls' := [.ref 63, .int 0, .int 0]) d_X8_tear_3 rfl rfl
theorem b_X8_tear_4 {x1 x2 : Int32} {h h' : mn_H} {r : Option Value} : mn_E 178 4 [.ref 63, .int x1, .int x2] [] h r h' ↔ if (5 : Int32) ≤ x2 then mn_E 178 31 [.ref 63, .int x1, .int x2] [] h r h' else mn_E 178 9 [.ref 63, .int x1, .int x2] [] h r h' :=
  (mX_iload_n d_X8_tear_4 rfl).trans <| (mX_iconst d_X8_tear_5 ci_5).trans <| mX_icmp_ge d_X8_tear_6 rfl
theorem b_X8_tear_9 {x1 x2 : Int32} {h h' : mn_H} {r : Option Value} (hy0 : vp_in x2 5) : mn_E 178 9 [.ref 63, .int x1, .int x2] [] h r h' ↔ mn_E 178 4 [.ref 63, .int (x1 + (h 70 x2.toNatClampNeg)), .int (x2 + 1)] [] (mn_up h 70 (x2.toNatClampNeg) 0) r h' :=
  (mX_iload_n d_X8_tear_9 rfl).trans <| (mX_aload_n d_X8_tear_10 rfl).trans <| (mG_r (b := 70) d_X8_tear_11 fr_178_29 rfl (by decide) rfl).trans <| (mX_iload_n d_X8_tear_14 rfl).trans <| (mX_iaload d_X8_tear_15 rfl (by decide) hy0).trans <| (mX_iadd d_X8_tear_16).trans <| (mX_istore_n (ls' := [.ref 63, .int (x1 + (h 70 x2.toNatClampNeg)), .int x2]) d_X8_tear_17 rfl rfl).trans <| (mX_aload_n d_X8_tear_18 rfl).trans <| (mG_r (b := 70) d_X8_tear_19 fr_178_29 rfl (by decide) rfl).trans <| (mX_iload_n d_X8_tear_22 rfl).trans <| (mX_iconst d_X8_tear_23 ci_0).trans <| (mX_iastore d_X8_tear_24 rfl (by decide) hy0).trans <| (mX_iinc (ls' := [.ref 63, .int (x1 + (h 70 x2.toNatClampNeg)), .int (x2 + 1)]) d_X8_tear_25 rfl ci_1 rfl rfl).trans <| mX_goto d_X8_tear_28 rfl
theorem b_X8_tear_31 {x1 x2 : Int32} {h h' : mn_H} {r : Option Value} : mn_E 178 31 [.ref 63, .int x1, .int x2] [] h r h' ↔ r = some (.int x1) ∧ h' = h :=
  (mX_iload_n d_X8_tear_31 rfl).trans <| mX_iret d_X8_tear_32 rfl
-- X8_seed
theorem mo_179 : mO 179 = 8 := rfl
theorem d_X8_seed_0 : decode (mC 179) 0 = .ok (.iload_n 1, 1) := by decide +kernel
theorem d_X8_seed_1 : decode (mC 179) 1 = .ok (.ifCond .ge 6, 3) := by decide +kernel
theorem d_X8_seed_4 : decode (mC 179) 4 = .ok (.ldc 50, 2) := by decide +kernel
theorem d_X8_seed_6 : decode (mC 179) 6 = .ok (.ireturn, 1) := by decide +kernel
theorem d_X8_seed_7 : decode (mC 179) 7 = .ok (.aload_n 0, 1) := by decide +kernel
theorem d_X8_seed_8 : decode (mC 179) 8 = .ok (.getfield 19, 3) := by decide +kernel
theorem d_X8_seed_11 : decode (mC 179) 11 = .ok (.iconst 3, 1) := by decide +kernel
theorem d_X8_seed_12 : decode (mC 179) 12 = .ok (.iaload, 1) := by decide +kernel
theorem d_X8_seed_13 : decode (mC 179) 13 = .ok (.istore_n 2, 1) := by decide +kernel
theorem d_X8_seed_14 : decode (mC 179) 14 = .ok (.aload_n 0, 1) := by decide +kernel
theorem d_X8_seed_15 : decode (mC 179) 15 = .ok (.getfield 19, 3) := by decide +kernel
theorem d_X8_seed_18 : decode (mC 179) 18 = .ok (.iconst 3, 1) := by decide +kernel
theorem d_X8_seed_19 : decode (mC 179) 19 = .ok (.iload_n 1, 1) := by decide +kernel
theorem d_X8_seed_20 : decode (mC 179) 20 = .ok (.iastore, 1) := by decide +kernel
theorem d_X8_seed_21 : decode (mC 179) 21 = .ok (.iload_n 2, 1) := by decide +kernel
theorem d_X8_seed_22 : decode (mC 179) 22 = .ok (.ireturn, 1) := by decide +kernel
theorem fr_179_19 : mn_fr 179 8 19 8 4 = true := by decide +kernel
theorem b_X8_seed_0 {x1 : Int32} {h h' : mn_H} {r : Option Value} : mn_E 179 0 [.ref 63, .int x1, .null] [] h r h' ↔ if (0 : Int32) ≤ x1 then mn_E 179 7 [.ref 63, .int x1, .null] [] h r h' else mn_E 179 4 [.ref 63, .int x1, .null] [] h r h' :=
  (mX_iload_n d_X8_seed_0 rfl).trans <| mX_if_ge d_X8_seed_1 rfl
theorem b_X8_seed_4 {x1 : Int32} {h h' : mn_H} {r : Option Value} : mn_E 179 4 [.ref 63, .int x1, .null] [] h r h' ↔ r = some (.int (-1000000002)) ∧ h' = h :=
  (mX_ldc d_X8_seed_4 mo_179 kc_8_50 (by decide)).trans <| mX_iret d_X8_seed_6 rfl
theorem b_X8_seed_7 {x1 : Int32} {h h' : mn_H} {r : Option Value} : mn_E 179 7 [.ref 63, .int x1, .null] [] h r h' ↔ r = some (.int (h 67 (3 : Int32).toNatClampNeg)) ∧ h' = mn_up h 67 ((3 : Int32).toNatClampNeg) x1 :=
  (mX_aload_n d_X8_seed_7 rfl).trans <| (mG_r (b := 67) d_X8_seed_8 fr_179_19 rfl (by decide) rfl).trans <| (mX_iconst d_X8_seed_11 ci_3).trans <| (mX_iaload d_X8_seed_12 rfl (by decide) (mn_in_iff (by decide +kernel))).trans <| (mX_istore_n (ls' := [.ref 63, .int x1, .int (h 67 (3 : Int32).toNatClampNeg)]) d_X8_seed_13 rfl rfl).trans <| (mX_aload_n d_X8_seed_14 rfl).trans <| (mG_r (b := 67) d_X8_seed_15 fr_179_19 rfl (by decide) rfl).trans <| (mX_iconst d_X8_seed_18 ci_3).trans <| (mX_iload_n d_X8_seed_19 rfl).trans <| (mX_iastore d_X8_seed_20 rfl (by decide) (mn_in_iff (by decide +kernel))).trans <| (mX_iload_n d_X8_seed_21 rfl).trans <| mX_iret d_X8_seed_22 rfl
-- X8_keep
theorem mo_180 : mO 180 = 8 := rfl
theorem d_X8_keep_0 : decode (mC 180) 0 = .ok (.iload_n 1, 1) := by decide +kernel
theorem d_X8_keep_1 : decode (mC 180) 1 = .ok (.iconst 0, 1) := by decide +kernel
theorem d_X8_keep_2 : decode (mC 180) 2 = .ok (.iconst 1, 1) := by decide +kernel
theorem d_X8_keep_3 : decode (mC 180) 3 = .ok (.invokestatic 46, 3) := by decide +kernel
theorem d_X8_keep_6 : decode (mC 180) 6 = .ok (.ifCond .ne 6, 3) := by decide +kernel
theorem d_X8_keep_9 : decode (mC 180) 9 = .ok (.ldc 124, 2) := by decide +kernel
theorem d_X8_keep_11 : decode (mC 180) 11 = .ok (.ireturn, 1) := by decide +kernel
theorem d_X8_keep_12 : decode (mC 180) 12 = .ok (.iconst 0, 1) := by decide +kernel
theorem d_X8_keep_13 : decode (mC 180) 13 = .ok (.istore_n 2, 1) := by decide +kernel
theorem d_X8_keep_14 : decode (mC 180) 14 = .ok (.iload_n 2, 1) := by decide +kernel
theorem d_X8_keep_15 : decode (mC 180) 15 = .ok (.bipush 65, 2) := by decide +kernel
theorem d_X8_keep_17 : decode (mC 180) 17 = .ok (.if_icmp .ge 26, 3) := by decide +kernel
theorem d_X8_keep_20 : decode (mC 180) 20 = .ok (.aload_n 0, 1) := by decide +kernel
theorem d_X8_keep_21 : decode (mC 180) 21 = .ok (.getfield 22, 3) := by decide +kernel
theorem d_X8_keep_24 : decode (mC 180) 24 = .ok (.bipush 65, 2) := by decide +kernel
theorem d_X8_keep_26 : decode (mC 180) 26 = .ok (.iload_n 1, 1) := by decide +kernel
theorem d_X8_keep_27 : decode (mC 180) 27 = .ok (.imul, 1) := by decide +kernel
theorem d_X8_keep_28 : decode (mC 180) 28 = .ok (.iload_n 2, 1) := by decide +kernel
theorem d_X8_keep_29 : decode (mC 180) 29 = .ok (.iadd, 1) := by decide +kernel
theorem d_X8_keep_30 : decode (mC 180) 30 = .ok (.aload_n 0, 1) := by decide +kernel
theorem d_X8_keep_31 : decode (mC 180) 31 = .ok (.getfield 19, 3) := by decide +kernel
theorem d_X8_keep_34 : decode (mC 180) 34 = .ok (.iload_n 2, 1) := by decide +kernel
theorem d_X8_keep_35 : decode (mC 180) 35 = .ok (.iaload, 1) := by decide +kernel
theorem d_X8_keep_36 : decode (mC 180) 36 = .ok (.iastore, 1) := by decide +kernel
theorem d_X8_keep_37 : decode (mC 180) 37 = .ok (.iinc 2 1, 3) := by decide +kernel
theorem d_X8_keep_40 : decode (mC 180) 40 = .ok (.goto (-26), 3) := by decide +kernel
theorem d_X8_keep_43 : decode (mC 180) 43 = .ok (.aload_n 0, 1) := by decide +kernel
theorem d_X8_keep_44 : decode (mC 180) 44 = .ok (.getfield 25, 3) := by decide +kernel
theorem d_X8_keep_47 : decode (mC 180) 47 = .ok (.iload_n 1, 1) := by decide +kernel
theorem d_X8_keep_48 : decode (mC 180) 48 = .ok (.iconst 1, 1) := by decide +kernel
theorem d_X8_keep_49 : decode (mC 180) 49 = .ok (.bastore, 1) := by decide +kernel
theorem d_X8_keep_50 : decode (mC 180) 50 = .ok (.iconst 1, 1) := by decide +kernel
theorem d_X8_keep_51 : decode (mC 180) 51 = .ok (.ireturn, 1) := by decide +kernel
theorem cs_180_46 : mn_cs 180 8 46 114 = true := by decide +kernel
theorem fr_180_22 : mn_fr 180 8 22 8 5 = true := by decide +kernel
theorem fr_180_19 : mn_fr 180 8 19 8 4 = true := by decide +kernel
theorem fr_180_25 : mn_fr 180 8 25 8 6 = true := by decide +kernel
theorem b_X8_keep_0 {x1 : Int32} {h h' : mn_H} {r : Option Value} : mn_E 180 0 [.ref 63, .int x1, .null] [] h r h' ↔ ∃ x h1, mn_X 114 [.int x1, .int 0, .int 1] h (some (.int x)) h1 ∧ mn_E 180 6 [.ref 63, .int x1, .null] [.int x] h1 r h' :=
  (mX_iload_n d_X8_keep_0 rfl).trans <| (mX_iconst d_X8_keep_1 ci_0).trans <| (mX_iconst d_X8_keep_2 ci_1).trans <| mS_i (vs := [.int x1, .int 0, .int 1]) (st' := []) d_X8_keep_3 cs_180_46 (Or.inr (Or.inl rfl)) (Nat.le_of_ble_eq_true rfl) rfl rfl rfl
theorem b_X8_keep_6 {x1 s0 : Int32} {h h' : mn_H} {r : Option Value} : mn_E 180 6 [.ref 63, .int x1, .null] [.int s0] h r h' ↔ if ¬ s0 = 0 then mn_E 180 12 [.ref 63, .int x1, .null] [] h r h' else mn_E 180 9 [.ref 63, .int x1, .null] [] h r h' :=
  mX_if_ne d_X8_keep_6 rfl
theorem b_X8_keep_9 {x1 : Int32} {h h' : mn_H} {r : Option Value} : mn_E 180 9 [.ref 63, .int x1, .null] [] h r h' ↔ r = some (.int (-1000000001)) ∧ h' = h :=
  (mX_ldc d_X8_keep_9 mo_180 kc_8_124 (by decide)).trans <| mX_iret d_X8_keep_11 rfl
theorem b_X8_keep_12 {x1 : Int32} {h h' : mn_H} {r : Option Value} : mn_E 180 12 [.ref 63, .int x1, .null] [] h r h' ↔ mn_E 180 14 [.ref 63, .int x1, .int 0] [] h r h' :=
  (mX_iconst d_X8_keep_12 ci_0).trans <| mX_istore_n (ls' := [.ref 63, .int x1, .int 0]) d_X8_keep_13 rfl rfl
theorem b_X8_keep_14 {x1 x2 : Int32} {h h' : mn_H} {r : Option Value} : mn_E 180 14 [.ref 63, .int x1, .int x2] [] h r h' ↔ if (65 : Int32) ≤ x2 then mn_E 180 43 [.ref 63, .int x1, .int x2] [] h r h' else mn_E 180 20 [.ref 63, .int x1, .int x2] [] h r h' :=
  (mX_iload_n d_X8_keep_14 rfl).trans <| (mX_bipush d_X8_keep_15 cb_65).trans <| mX_icmp_ge d_X8_keep_17 rfl
theorem b_X8_keep_20 {x1 x2 : Int32} {h h' : mn_H} {r : Option Value} (hy0 : vp_in x2 65) (hy1 : vp_in ((65 * x1) + x2) 130) : mn_E 180 20 [.ref 63, .int x1, .int x2] [] h r h' ↔ mn_E 180 14 [.ref 63, .int x1, .int (x2 + 1)] [] (mn_up h 68 (((65 * x1) + x2).toNatClampNeg) (h 67 x2.toNatClampNeg)) r h' :=
  (mX_aload_n d_X8_keep_20 rfl).trans <| (mG_r (b := 68) d_X8_keep_21 fr_180_22 rfl (by decide) rfl).trans <| (mX_bipush d_X8_keep_24 cb_65).trans <| (mX_iload_n d_X8_keep_26 rfl).trans <| (mX_imul d_X8_keep_27).trans <| (mX_iload_n d_X8_keep_28 rfl).trans <| (mX_iadd d_X8_keep_29).trans <| (mX_aload_n d_X8_keep_30 rfl).trans <| (mG_r (b := 67) d_X8_keep_31 fr_180_19 rfl (by decide) rfl).trans <| (mX_iload_n d_X8_keep_34 rfl).trans <| (mX_iaload d_X8_keep_35 rfl (by decide) hy0).trans <| (mX_iastore d_X8_keep_36 rfl (by decide) hy1).trans <| (mX_iinc (ls' := [.ref 63, .int x1, .int (x2 + 1)]) d_X8_keep_37 rfl ci_1 rfl rfl).trans <| mX_goto d_X8_keep_40 rfl
theorem b_X8_keep_43 {x1 x2 : Int32} {h h' : mn_H} {r : Option Value} (hy0 : vp_in x1 2) : mn_E 180 43 [.ref 63, .int x1, .int x2] [] h r h' ↔ r = some (.int 1) ∧ h' = mn_up h 69 (x1.toNatClampNeg) 1 :=
  (mX_aload_n d_X8_keep_43 rfl).trans <| (mG_r (b := 69) d_X8_keep_44 fr_180_25 rfl (by decide) rfl).trans <| (mX_iload_n d_X8_keep_47 rfl).trans <| (mX_iconst d_X8_keep_48 ci_1).trans <| (mX_bastore d_X8_keep_49 rfl (by decide) hy0 (by decide)).trans <| (mX_iconst d_X8_keep_50 ci_1).trans <| mX_iret d_X8_keep_51 rfl
-- X8_goBack
theorem mo_181 : mO 181 = 8 := rfl
theorem d_X8_goBack_0 : decode (mC 181) 0 = .ok (.iload_n 1, 1) := by decide +kernel
theorem d_X8_goBack_1 : decode (mC 181) 1 = .ok (.iconst 0, 1) := by decide +kernel
theorem d_X8_goBack_2 : decode (mC 181) 2 = .ok (.iconst 1, 1) := by decide +kernel
theorem d_X8_goBack_3 : decode (mC 181) 3 = .ok (.invokestatic 46, 3) := by decide +kernel
theorem d_X8_goBack_6 : decode (mC 181) 6 = .ok (.ifCond .ne 6, 3) := by decide +kernel
theorem d_X8_goBack_9 : decode (mC 181) 9 = .ok (.ldc 124, 2) := by decide +kernel
theorem d_X8_goBack_11 : decode (mC 181) 11 = .ok (.ireturn, 1) := by decide +kernel
theorem d_X8_goBack_12 : decode (mC 181) 12 = .ok (.aload_n 0, 1) := by decide +kernel
theorem d_X8_goBack_13 : decode (mC 181) 13 = .ok (.getfield 25, 3) := by decide +kernel
theorem d_X8_goBack_16 : decode (mC 181) 16 = .ok (.iload_n 1, 1) := by decide +kernel
theorem d_X8_goBack_17 : decode (mC 181) 17 = .ok (.baload, 1) := by decide +kernel
theorem d_X8_goBack_18 : decode (mC 181) 18 = .ok (.ifCond .ne 6, 3) := by decide +kernel
theorem d_X8_goBack_21 : decode (mC 181) 21 = .ok (.ldc 181, 2) := by decide +kernel
theorem d_X8_goBack_23 : decode (mC 181) 23 = .ok (.ireturn, 1) := by decide +kernel
theorem d_X8_goBack_24 : decode (mC 181) 24 = .ok (.iconst 0, 1) := by decide +kernel
theorem d_X8_goBack_25 : decode (mC 181) 25 = .ok (.istore_n 2, 1) := by decide +kernel
theorem d_X8_goBack_26 : decode (mC 181) 26 = .ok (.iload_n 2, 1) := by decide +kernel
theorem d_X8_goBack_27 : decode (mC 181) 27 = .ok (.bipush 65, 2) := by decide +kernel
theorem d_X8_goBack_29 : decode (mC 181) 29 = .ok (.if_icmp .ge 26, 3) := by decide +kernel
theorem d_X8_goBack_32 : decode (mC 181) 32 = .ok (.aload_n 0, 1) := by decide +kernel
theorem d_X8_goBack_33 : decode (mC 181) 33 = .ok (.getfield 19, 3) := by decide +kernel
theorem d_X8_goBack_36 : decode (mC 181) 36 = .ok (.iload_n 2, 1) := by decide +kernel
theorem d_X8_goBack_37 : decode (mC 181) 37 = .ok (.aload_n 0, 1) := by decide +kernel
theorem d_X8_goBack_38 : decode (mC 181) 38 = .ok (.getfield 22, 3) := by decide +kernel
theorem d_X8_goBack_41 : decode (mC 181) 41 = .ok (.bipush 65, 2) := by decide +kernel
theorem d_X8_goBack_43 : decode (mC 181) 43 = .ok (.iload_n 1, 1) := by decide +kernel
theorem d_X8_goBack_44 : decode (mC 181) 44 = .ok (.imul, 1) := by decide +kernel
theorem d_X8_goBack_45 : decode (mC 181) 45 = .ok (.iload_n 2, 1) := by decide +kernel
theorem d_X8_goBack_46 : decode (mC 181) 46 = .ok (.iadd, 1) := by decide +kernel
theorem d_X8_goBack_47 : decode (mC 181) 47 = .ok (.iaload, 1) := by decide +kernel
theorem d_X8_goBack_48 : decode (mC 181) 48 = .ok (.iastore, 1) := by decide +kernel
theorem d_X8_goBack_49 : decode (mC 181) 49 = .ok (.iinc 2 1, 3) := by decide +kernel
theorem d_X8_goBack_52 : decode (mC 181) 52 = .ok (.goto (-26), 3) := by decide +kernel
theorem d_X8_goBack_55 : decode (mC 181) 55 = .ok (.iconst 1, 1) := by decide +kernel
theorem d_X8_goBack_56 : decode (mC 181) 56 = .ok (.ireturn, 1) := by decide +kernel
theorem cs_181_46 : mn_cs 181 8 46 114 = true := by decide +kernel
theorem fr_181_25 : mn_fr 181 8 25 8 6 = true := by decide +kernel
theorem fr_181_19 : mn_fr 181 8 19 8 4 = true := by decide +kernel
theorem fr_181_22 : mn_fr 181 8 22 8 5 = true := by decide +kernel
theorem b_X8_goBack_0 {x1 : Int32} {h h' : mn_H} {r : Option Value} : mn_E 181 0 [.ref 63, .int x1, .null] [] h r h' ↔ ∃ x h1, mn_X 114 [.int x1, .int 0, .int 1] h (some (.int x)) h1 ∧ mn_E 181 6 [.ref 63, .int x1, .null] [.int x] h1 r h' :=
  (mX_iload_n d_X8_goBack_0 rfl).trans <| (mX_iconst d_X8_goBack_1 ci_0).trans <| (mX_iconst d_X8_goBack_2 ci_1).trans <| mS_i (vs := [.int x1, .int 0, .int 1]) (st' := []) d_X8_goBack_3 cs_181_46 (Or.inr (Or.inl rfl)) (Nat.le_of_ble_eq_true rfl) rfl rfl rfl
theorem b_X8_goBack_6 {x1 s0 : Int32} {h h' : mn_H} {r : Option Value} : mn_E 181 6 [.ref 63, .int x1, .null] [.int s0] h r h' ↔ if ¬ s0 = 0 then mn_E 181 12 [.ref 63, .int x1, .null] [] h r h' else mn_E 181 9 [.ref 63, .int x1, .null] [] h r h' :=
  mX_if_ne d_X8_goBack_6 rfl
theorem b_X8_goBack_9 {x1 : Int32} {h h' : mn_H} {r : Option Value} : mn_E 181 9 [.ref 63, .int x1, .null] [] h r h' ↔ r = some (.int (-1000000001)) ∧ h' = h :=
  (mX_ldc d_X8_goBack_9 mo_181 kc_8_124 (by decide)).trans <| mX_iret d_X8_goBack_11 rfl
theorem b_X8_goBack_12 {x1 : Int32} {h h' : mn_H} {r : Option Value} (hy0 : vp_in x1 2) : mn_E 181 12 [.ref 63, .int x1, .null] [] h r h' ↔ if ¬ (h 69 x1.toNatClampNeg) = 0 then mn_E 181 24 [.ref 63, .int x1, .null] [] h r h' else mn_E 181 21 [.ref 63, .int x1, .null] [] h r h' :=
  (mX_aload_n d_X8_goBack_12 rfl).trans <| (mG_r (b := 69) d_X8_goBack_13 fr_181_25 rfl (by decide) rfl).trans <| (mX_iload_n d_X8_goBack_16 rfl).trans <| (mX_baload d_X8_goBack_17 rfl (by decide) hy0).trans <| mX_if_ne d_X8_goBack_18 rfl
theorem b_X8_goBack_21 {x1 : Int32} {h h' : mn_H} {r : Option Value} : mn_E 181 21 [.ref 63, .int x1, .null] [] h r h' ↔ r = some (.int (-1000000003)) ∧ h' = h :=
  (mX_ldc d_X8_goBack_21 mo_181 kc_8_181 (by decide)).trans <| mX_iret d_X8_goBack_23 rfl
theorem b_X8_goBack_24 {x1 : Int32} {h h' : mn_H} {r : Option Value} : mn_E 181 24 [.ref 63, .int x1, .null] [] h r h' ↔ mn_E 181 26 [.ref 63, .int x1, .int 0] [] h r h' :=
  (mX_iconst d_X8_goBack_24 ci_0).trans <| mX_istore_n (ls' := [.ref 63, .int x1, .int 0]) d_X8_goBack_25 rfl rfl
theorem b_X8_goBack_26 {x1 x2 : Int32} {h h' : mn_H} {r : Option Value} : mn_E 181 26 [.ref 63, .int x1, .int x2] [] h r h' ↔ if (65 : Int32) ≤ x2 then mn_E 181 55 [.ref 63, .int x1, .int x2] [] h r h' else mn_E 181 32 [.ref 63, .int x1, .int x2] [] h r h' :=
  (mX_iload_n d_X8_goBack_26 rfl).trans <| (mX_bipush d_X8_goBack_27 cb_65).trans <| mX_icmp_ge d_X8_goBack_29 rfl
theorem b_X8_goBack_32 {x1 x2 : Int32} {h h' : mn_H} {r : Option Value} (hy0 : vp_in ((65 * x1) + x2) 130) (hy1 : vp_in x2 65) : mn_E 181 32 [.ref 63, .int x1, .int x2] [] h r h' ↔ mn_E 181 26 [.ref 63, .int x1, .int (x2 + 1)] [] (mn_up h 67 (x2.toNatClampNeg) (h 68 ((65 * x1) + x2).toNatClampNeg)) r h' :=
  (mX_aload_n d_X8_goBack_32 rfl).trans <| (mG_r (b := 67) d_X8_goBack_33 fr_181_19 rfl (by decide) rfl).trans <| (mX_iload_n d_X8_goBack_36 rfl).trans <| (mX_aload_n d_X8_goBack_37 rfl).trans <| (mG_r (b := 68) d_X8_goBack_38 fr_181_22 rfl (by decide) rfl).trans <| (mX_bipush d_X8_goBack_41 cb_65).trans <| (mX_iload_n d_X8_goBack_43 rfl).trans <| (mX_imul d_X8_goBack_44).trans <| (mX_iload_n d_X8_goBack_45 rfl).trans <| (mX_iadd d_X8_goBack_46).trans <| (mX_iaload d_X8_goBack_47 rfl (by decide) hy0).trans <| (mX_iastore d_X8_goBack_48 rfl (by decide) hy1).trans <| (mX_iinc (ls' := [.ref 63, .int x1, .int (x2 + 1)]) d_X8_goBack_49 rfl ci_1 rfl rfl).trans <| mX_goto d_X8_goBack_52 rfl
theorem b_X8_goBack_55 {x1 x2 : Int32} {h h' : mn_H} {r : Option Value} : mn_E 181 55 [.ref 63, .int x1, .int x2] [] h r h' ↔ r = some (.int 1) ∧ h' = h :=
  (mX_iconst d_X8_goBack_55 ci_1).trans <| mX_iret d_X8_goBack_56 rfl
