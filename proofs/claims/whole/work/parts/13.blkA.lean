theorem fs_0 : mn_fl 9 9 = some (9, 0) := by decide +kernel
theorem fs_1 : mn_fl 9 15 = some (9, 1) := by decide +kernel
theorem kc_7_58 : mn_cst 7 58 = some (-1000000002) := by decide +kernel
theorem kc_7_67 : mn_cst 7 67 = some (-1000000004) := by decide +kernel
theorem kc_7_142 : mn_cst 7 142 = some (-1000000001) := by decide +kernel
theorem kc_7_231 : mn_cst 7 231 = some (-1000000003) := by decide +kernel
theorem kc_1_46 : mn_cst 1 46 = some (65536) := by decide +kernel
theorem kc_8_42 : mn_cst 8 42 = some (63360) := by decide +kernel
theorem kc_8_50 : mn_cst 8 50 = some (-1000000002) := by decide +kernel
theorem kc_8_54 : mn_cst 8 54 = some (-1000000004) := by decide +kernel
theorem kc_8_124 : mn_cst 8 124 = some (-1000000001) := by decide +kernel
theorem kc_8_181 : mn_cst 8 181 = some (-1000000003) := by decide +kernel
theorem kc_8_185 : mn_cst 8 185 = some (1103515245) := by decide +kernel
theorem kc_8_186 : mn_cst 8 186 = some (2147483647) := by decide +kernel
theorem kc_8_187 : mn_cst 8 187 = some (65536) := by decide +kernel
theorem kc_11_265 : mn_cst 11 265 = some (1431655765) := by decide +kernel
theorem kc_11_266 : mn_cst 11 266 = some (858993459) := by decide +kernel
theorem kc_11_267 : mn_cst 11 267 = some (252645135) := by decide +kernel
theorem kl_7_334 : mn_cstl 7 334 = some (-1) := by decide +kernel
theorem kl_1_40 : mn_cstl 1 40 = some (1103515245) := by decide +kernel
theorem kl_1_42 : mn_cstl 1 42 = some (12345) := by decide +kernel
theorem kl_1_44 : mn_cstl 1 44 = some (2147483647) := by decide +kernel
theorem kl_12_314 : mn_cstl 12 314 = some (6148914691236517205) := by decide +kernel
theorem kl_12_316 : mn_cstl 12 316 = some (3689348814741910323) := by decide +kernel
theorem kl_12_318 : mn_cstl 12 318 = some (1085102592571150095) := by decide +kernel
theorem fq_6 : mn_fl 7 51 = some (7, 6) := by decide +kernel
theorem fq_7 : mn_fl 7 55 = some (7, 7) := by decide +kernel
theorem cl_0 : Int64.ofNat ((0 : Fin 2).val) = 0 := by decide +kernel
theorem cl_1 : Int64.ofNat ((1 : Fin 2).val) = 1 := by decide +kernel
theorem ci_m1 : Int32.ofInt (-1) = (-1) := by decide +kernel
theorem ci_0 : Int32.ofInt 0 = 0 := by decide +kernel
theorem ci_1 : Int32.ofInt 1 = 1 := by decide +kernel
theorem ci_2 : Int32.ofInt 2 = 2 := by decide +kernel
theorem ci_3 : Int32.ofInt 3 = 3 := by decide +kernel
theorem ci_4 : Int32.ofInt 4 = 4 := by decide +kernel
theorem ci_5 : Int32.ofInt 5 = 5 := by decide +kernel
theorem cb_m10 : (Int8.ofInt (-10)).toInt32 = (-10) := by decide +kernel
theorem cb_6 : (Int8.ofInt 6).toInt32 = 6 := by decide +kernel
theorem cb_7 : (Int8.ofInt 7).toInt32 = 7 := by decide +kernel
theorem cb_8 : (Int8.ofInt 8).toInt32 = 8 := by decide +kernel
theorem cb_9 : (Int8.ofInt 9).toInt32 = 9 := by decide +kernel
theorem cb_10 : (Int8.ofInt 10).toInt32 = 10 := by decide +kernel
theorem cb_11 : (Int8.ofInt 11).toInt32 = 11 := by decide +kernel
theorem cb_12 : (Int8.ofInt 12).toInt32 = 12 := by decide +kernel
theorem cb_16 : (Int8.ofInt 16).toInt32 = 16 := by decide +kernel
theorem cb_20 : (Int8.ofInt 20).toInt32 = 20 := by decide +kernel
theorem cb_32 : (Int8.ofInt 32).toInt32 = 32 := by decide +kernel
theorem cb_36 : (Int8.ofInt 36).toInt32 = 36 := by decide +kernel
theorem cb_44 : (Int8.ofInt 44).toInt32 = 44 := by decide +kernel
theorem cb_48 : (Int8.ofInt 48).toInt32 = 48 := by decide +kernel
theorem cb_50 : (Int8.ofInt 50).toInt32 = 50 := by decide +kernel
theorem cb_57 : (Int8.ofInt 57).toInt32 = 57 := by decide +kernel
theorem cb_59 : (Int8.ofInt 59).toInt32 = 59 := by decide +kernel
theorem cb_60 : (Int8.ofInt 60).toInt32 = 60 := by decide +kernel
theorem cb_63 : (Int8.ofInt 63).toInt32 = 63 := by decide +kernel
theorem cb_64 : (Int8.ofInt 64).toInt32 = 64 := by decide +kernel
theorem cb_65 : (Int8.ofInt 65).toInt32 = 65 := by decide +kernel
theorem cb_68 : (Int8.ofInt 68).toInt32 = 68 := by decide +kernel
theorem cb_80 : (Int8.ofInt 80).toInt32 = 80 := by decide +kernel
theorem cb_89 : (Int8.ofInt 89).toInt32 = 89 := by decide +kernel
theorem cb_95 : (Int8.ofInt 95).toInt32 = 95 := by decide +kernel
theorem cb_96 : (Int8.ofInt 96).toInt32 = 96 := by decide +kernel
theorem cb_99 : (Int8.ofInt 99).toInt32 = 99 := by decide +kernel
theorem cb_100 : (Int8.ofInt 100).toInt32 = 100 := by decide +kernel
theorem cb_107 : (Int8.ofInt 107).toInt32 = 107 := by decide +kernel
theorem cb_109 : (Int8.ofInt 109).toInt32 = 109 := by decide +kernel
theorem cb_121 : (Int8.ofInt 121).toInt32 = 121 := by decide +kernel
theorem cb_127 : (Int8.ofInt 127).toInt32 = 127 := by decide +kernel
theorem cs_m300 : (Int16.ofInt (-300)).toInt32 = (-300) := by decide +kernel
theorem cs_180 : (Int16.ofInt 180).toInt32 = 180 := by decide +kernel
theorem cs_250 : (Int16.ofInt 250).toInt32 = 250 := by decide +kernel
theorem cs_255 : (Int16.ofInt 255).toInt32 = 255 := by decide +kernel
theorem cs_999 : (Int16.ofInt 999).toInt32 = 999 := by decide +kernel
theorem cs_1000 : (Int16.ofInt 1000).toInt32 = 1000 := by decide +kernel
theorem cs_4095 : (Int16.ofInt 4095).toInt32 = 4095 := by decide +kernel
theorem cs_4096 : (Int16.ofInt 4096).toInt32 = 4096 := by decide +kernel
theorem cs_12345 : (Int16.ofInt 12345).toInt32 = 12345 := by decide +kernel
-- X0_begin
theorem mo_0 : mO 0 = 0 := rfl
theorem d_X0_begin_0 : decode (mC 0) 0 = .ok (.aload_n 0, 1) := by decide +kernel
theorem d_X0_begin_1 : decode (mC 0) 1 = .ok (.iload_n 1, 1) := by decide +kernel
theorem d_X0_begin_2 : decode (mC 0) 2 = .ok (.putfield 18, 3) := by decide +kernel
theorem d_X0_begin_5 : decode (mC 0) 5 = .ok (.aload_n 0, 1) := by decide +kernel
theorem d_X0_begin_6 : decode (mC 0) 6 = .ok (.iload_n 2, 1) := by decide +kernel
theorem d_X0_begin_7 : decode (mC 0) 7 = .ok (.putfield 22, 3) := by decide +kernel
theorem d_X0_begin_10 : decode (mC 0) 10 = .ok (.aload_n 0, 1) := by decide +kernel
theorem d_X0_begin_11 : decode (mC 0) 11 = .ok (.getfield 9, 3) := by decide +kernel
theorem d_X0_begin_14 : decode (mC 0) 14 = .ok (.iconst (-1), 1) := by decide +kernel
theorem d_X0_begin_15 : decode (mC 0) 15 = .ok (.invokestatic 25, 3) := by decide +kernel
theorem d_X0_begin_18 : decode (mC 0) 18 = .ok (.return_, 1) := by decide +kernel
theorem fi_0_18 : mn_fi 0 0 18 0 3 = true := by decide +kernel
theorem fi_0_22 : mn_fi 0 0 22 0 2 = true := by decide +kernel
theorem fr_0_9 : mn_fr 0 0 9 0 0 = true := by decide +kernel
theorem cs_0_25 : mn_cs 0 0 25 192 = true := by decide +kernel
theorem b_X0_begin_0 {x1 x2 : Int32} {h h' : mn_H} {r : Option Value} : mn_E 0 0 [.ref 20, .int x1, .int x2] [] h r h' ↔ ∃ h1, mn_X 192 [.ref 21, .int (-1)] (mn_up (mn_up h 20 3 x1) 20 2 x2) none h1 ∧ mn_E 0 18 [.ref 20, .int x1, .int x2] [] h1 r h' :=
  (mX_aload_n d_X0_begin_0 rfl).trans <| (mX_iload_n d_X0_begin_1 rfl).trans <| (mP_i d_X0_begin_2 fi_0_18 rfl (by decide) rfl (Or.inl (by decide))).trans <| (mX_aload_n d_X0_begin_5 rfl).trans <| (mX_iload_n d_X0_begin_6 rfl).trans <| (mP_i d_X0_begin_7 fi_0_22 rfl (by decide) rfl (Or.inl (by decide))).trans <| (mX_aload_n d_X0_begin_10 rfl).trans <| (mG_r (b := 21) d_X0_begin_11 fr_0_9 rfl (by decide) rfl).trans <| (mX_iconst d_X0_begin_14 ci_m1).trans <| mS_v (vs := [.ref 21, .int (-1)]) (st' := []) d_X0_begin_15 cs_0_25 rfl (Nat.le_of_ble_eq_true rfl) rfl rfl rfl
theorem b_X0_begin_18 {x1 x2 : Int32} {h h' : mn_H} {r : Option Value} : mn_E 0 18 [.ref 20, .int x1, .int x2] [] h r h' ↔ r = none ∧ h' = h :=
  mX_vret d_X0_begin_18 rfl
-- X0_loopFrom
theorem mo_1 : mO 1 = 0 := rfl
theorem d_X0_loopFrom_0 : decode (mC 1) 0 = .ok (.aload_n 0, 1) := by decide +kernel
theorem d_X0_loopFrom_1 : decode (mC 1) 1 = .ok (.getfield 15, 3) := by decide +kernel
theorem d_X0_loopFrom_4 : decode (mC 1) 4 = .ok (.iconst (-1), 1) := by decide +kernel
theorem d_X0_loopFrom_5 : decode (mC 1) 5 = .ok (.invokestatic 25, 3) := by decide +kernel
theorem d_X0_loopFrom_8 : decode (mC 1) 8 = .ok (.iload_n 3, 1) := by decide +kernel
theorem d_X0_loopFrom_9 : decode (mC 1) 9 = .ok (.istore 4, 2) := by decide +kernel
theorem d_X0_loopFrom_11 : decode (mC 1) 11 = .ok (.iconst 0, 1) := by decide +kernel
theorem d_X0_loopFrom_12 : decode (mC 1) 12 = .ok (.istore 5, 2) := by decide +kernel
theorem d_X0_loopFrom_14 : decode (mC 1) 14 = .ok (.iload 5, 2) := by decide +kernel
theorem d_X0_loopFrom_16 : decode (mC 1) 16 = .ok (.bipush 64, 2) := by decide +kernel
theorem d_X0_loopFrom_18 : decode (mC 1) 18 = .ok (.if_icmp .gt 80, 3) := by decide +kernel
theorem d_X0_loopFrom_21 : decode (mC 1) 21 = .ok (.aload_n 0, 1) := by decide +kernel
theorem d_X0_loopFrom_22 : decode (mC 1) 22 = .ok (.getfield 15, 3) := by decide +kernel
theorem d_X0_loopFrom_25 : decode (mC 1) 25 = .ok (.iload 4, 2) := by decide +kernel
theorem d_X0_loopFrom_27 : decode (mC 1) 27 = .ok (.iaload, 1) := by decide +kernel
theorem d_X0_loopFrom_28 : decode (mC 1) 28 = .ok (.iconst (-1), 1) := by decide +kernel
theorem d_X0_loopFrom_29 : decode (mC 1) 29 = .ok (.if_icmp .eq 19, 3) := by decide +kernel
theorem d_X0_loopFrom_32 : decode (mC 1) 32 = .ok (.iload 5, 2) := by decide +kernel
theorem d_X0_loopFrom_34 : decode (mC 1) 34 = .ok (.aload_n 0, 1) := by decide +kernel
theorem d_X0_loopFrom_35 : decode (mC 1) 35 = .ok (.getfield 15, 3) := by decide +kernel
theorem d_X0_loopFrom_38 : decode (mC 1) 38 = .ok (.iload 4, 2) := by decide +kernel
theorem d_X0_loopFrom_40 : decode (mC 1) 40 = .ok (.iaload, 1) := by decide +kernel
theorem d_X0_loopFrom_41 : decode (mC 1) 41 = .ok (.isub, 1) := by decide +kernel
theorem d_X0_loopFrom_42 : decode (mC 1) 42 = .ok (.aload_n 0, 1) := by decide +kernel
theorem d_X0_loopFrom_43 : decode (mC 1) 43 = .ok (.getfield 18, 3) := by decide +kernel
theorem d_X0_loopFrom_46 : decode (mC 1) 46 = .ok (.imul, 1) := by decide +kernel
theorem d_X0_loopFrom_47 : decode (mC 1) 47 = .ok (.ireturn, 1) := by decide +kernel
theorem d_X0_loopFrom_48 : decode (mC 1) 48 = .ok (.aload_n 0, 1) := by decide +kernel
theorem d_X0_loopFrom_49 : decode (mC 1) 49 = .ok (.getfield 15, 3) := by decide +kernel
theorem d_X0_loopFrom_52 : decode (mC 1) 52 = .ok (.iload 4, 2) := by decide +kernel
theorem d_X0_loopFrom_54 : decode (mC 1) 54 = .ok (.iload 5, 2) := by decide +kernel
theorem d_X0_loopFrom_56 : decode (mC 1) 56 = .ok (.iastore, 1) := by decide +kernel
theorem d_X0_loopFrom_57 : decode (mC 1) 57 = .ok (.iconst 0, 1) := by decide +kernel
theorem d_X0_loopFrom_58 : decode (mC 1) 58 = .ok (.istore 6, 2) := by decide +kernel
theorem d_X0_loopFrom_60 : decode (mC 1) 60 = .ok (.iload 6, 2) := by decide +kernel
theorem d_X0_loopFrom_62 : decode (mC 1) 62 = .ok (.aload_n 0, 1) := by decide +kernel
theorem d_X0_loopFrom_63 : decode (mC 1) 63 = .ok (.getfield 18, 3) := by decide +kernel
theorem d_X0_loopFrom_66 : decode (mC 1) 66 = .ok (.if_icmp .ge 26, 3) := by decide +kernel
theorem d_X0_loopFrom_69 : decode (mC 1) 69 = .ok (.aload_n 0, 1) := by decide +kernel
theorem d_X0_loopFrom_70 : decode (mC 1) 70 = .ok (.aload_n 1, 1) := by decide +kernel
theorem d_X0_loopFrom_71 : decode (mC 1) 71 = .ok (.aload_n 2, 1) := by decide +kernel
theorem d_X0_loopFrom_72 : decode (mC 1) 72 = .ok (.iload 4, 2) := by decide +kernel
theorem d_X0_loopFrom_74 : decode (mC 1) 74 = .ok (.aload_n 0, 1) := by decide +kernel
theorem d_X0_loopFrom_75 : decode (mC 1) 75 = .ok (.getfield 22, 3) := by decide +kernel
theorem d_X0_loopFrom_78 : decode (mC 1) 78 = .ok (.iload 6, 2) := by decide +kernel
theorem d_X0_loopFrom_80 : decode (mC 1) 80 = .ok (.iadd, 1) := by decide +kernel
theorem d_X0_loopFrom_81 : decode (mC 1) 81 = .ok (.invokevirtual 31, 3) := by decide +kernel
theorem d_X0_loopFrom_84 : decode (mC 1) 84 = .ok (.istore 4, 2) := by decide +kernel
theorem d_X0_loopFrom_86 : decode (mC 1) 86 = .ok (.iinc 6 1, 3) := by decide +kernel
theorem d_X0_loopFrom_89 : decode (mC 1) 89 = .ok (.goto (-29), 3) := by decide +kernel
theorem d_X0_loopFrom_92 : decode (mC 1) 92 = .ok (.iinc 5 1, 3) := by decide +kernel
theorem d_X0_loopFrom_95 : decode (mC 1) 95 = .ok (.goto (-81), 3) := by decide +kernel
theorem d_X0_loopFrom_98 : decode (mC 1) 98 = .ok (.iconst 0, 1) := by decide +kernel
theorem d_X0_loopFrom_99 : decode (mC 1) 99 = .ok (.ireturn, 1) := by decide +kernel
theorem fr_1_15 : mn_fr 1 0 15 0 1 = true := by decide +kernel
theorem cs_1_25 : mn_cs 1 0 25 192 = true := by decide +kernel
theorem fi_1_18 : mn_fi 1 0 18 0 3 = true := by decide +kernel
theorem fi_1_22 : mn_fi 1 0 22 0 2 = true := by decide +kernel
theorem cv_1_31 : mn_cvt 1 0 31 3 = true := by decide +kernel
theorem b_X0_loopFrom_0 {x3 : Int32} {a1 : Nat} {h h' : mn_H} {r : Option Value} (ha1 : mn_isT a1) : mn_E 1 0 [.ref 20, .ref a1, .ref 16, .int x3, .null, .null, .null] [] h r h' ↔ ∃ h1, mn_X 192 [.ref 22, .int (-1)] h none h1 ∧ mn_E 1 8 [.ref 20, .ref a1, .ref 16, .int x3, .null, .null, .null] [] h1 r h' :=
  (mX_aload_n d_X0_loopFrom_0 rfl).trans <| (mG_r (b := 22) d_X0_loopFrom_1 fr_1_15 rfl (by decide) rfl).trans <| (mX_iconst d_X0_loopFrom_4 ci_m1).trans <| mS_v (vs := [.ref 22, .int (-1)]) (st' := []) d_X0_loopFrom_5 cs_1_25 rfl (Nat.le_of_ble_eq_true rfl) rfl rfl rfl
theorem b_X0_loopFrom_8 {x3 : Int32} {a1 : Nat} {h h' : mn_H} {r : Option Value} (ha1 : mn_isT a1) : mn_E 1 8 [.ref 20, .ref a1, .ref 16, .int x3, .null, .null, .null] [] h r h' ↔ mn_E 1 14 [.ref 20, .ref a1, .ref 16, .int x3, .int x3, .int 0, .null] [] h r h' :=
  (mX_iload_n d_X0_loopFrom_8 rfl).trans <| (mX_istore (ls' := [.ref 20, .ref a1, .ref 16, .int x3, .int x3, .null, .null]) d_X0_loopFrom_9 rfl rfl).trans <| (mX_iconst d_X0_loopFrom_11 ci_0).trans <| mX_istore (ls' := [.ref 20, .ref a1, .ref 16, .int x3, .int x3, .int 0, .null]) d_X0_loopFrom_12 rfl rfl
theorem b_X0_loopFrom_14 {x3 x4 x5 : Int32} {a1 : Nat} {w6 : Value} {h h' : mn_H} {r : Option Value} (ha1 : mn_isT a1) : mn_E 1 14 [.ref 20, .ref a1, .ref 16, .int x3, .int x4, .int x5, w6] [] h r h' ↔ if (64 : Int32) < x5 then mn_E 1 98 [.ref 20, .ref a1, .ref 16, .int x3, .int x4, .int x5, w6] [] h r h' else mn_E 1 21 [.ref 20, .ref a1, .ref 16, .int x3, .int x4, .int x5, w6] [] h r h' :=
  (mX_iload d_X0_loopFrom_14 rfl).trans <| (mX_bipush d_X0_loopFrom_16 cb_64).trans <| mX_icmp_gt d_X0_loopFrom_18 rfl
theorem b_X0_loopFrom_21 {x3 x4 x5 : Int32} {a1 : Nat} {w6 : Value} {h h' : mn_H} {r : Option Value} (ha1 : mn_isT a1) (hy1 : vp_in x4 64) : mn_E 1 21 [.ref 20, .ref a1, .ref 16, .int x3, .int x4, .int x5, w6] [] h r h' ↔ if (h 22 x4.toNatClampNeg) = (-1) then mn_E 1 48 [.ref 20, .ref a1, .ref 16, .int x3, .int x4, .int x5, w6] [] h r h' else mn_E 1 32 [.ref 20, .ref a1, .ref 16, .int x3, .int x4, .int x5, w6] [] h r h' :=
  (mX_aload_n d_X0_loopFrom_21 rfl).trans <| (mG_r (b := 22) d_X0_loopFrom_22 fr_1_15 rfl (by decide) rfl).trans <| (mX_iload d_X0_loopFrom_25 rfl).trans <| (mX_iaload d_X0_loopFrom_27 rfl (by decide) hy1).trans <| (mX_iconst d_X0_loopFrom_28 ci_m1).trans <| mX_icmp_eq d_X0_loopFrom_29 rfl
theorem b_X0_loopFrom_32 {x3 x4 x5 : Int32} {a1 : Nat} {w6 : Value} {h h' : mn_H} {r : Option Value} (ha1 : mn_isT a1) (hy1 : vp_in x4 64) : mn_E 1 32 [.ref 20, .ref a1, .ref 16, .int x3, .int x4, .int x5, w6] [] h r h' ↔ r = some (.int ((x5 - (h 22 x4.toNatClampNeg)) * (h 20 3))) ∧ h' = h :=
  (mX_iload d_X0_loopFrom_32 rfl).trans <| (mX_aload_n d_X0_loopFrom_34 rfl).trans <| (mG_r (b := 22) d_X0_loopFrom_35 fr_1_15 rfl (by decide) rfl).trans <| (mX_iload d_X0_loopFrom_38 rfl).trans <| (mX_iaload d_X0_loopFrom_40 rfl (by decide) hy1).trans <| (mX_isub d_X0_loopFrom_41).trans <| (mX_aload_n d_X0_loopFrom_42 rfl).trans <| (mG_i d_X0_loopFrom_43 fi_1_18 rfl (by decide)).trans <| (mX_imul d_X0_loopFrom_46).trans <| mX_iret d_X0_loopFrom_47 rfl
theorem b_X0_loopFrom_48 {x3 x4 x5 : Int32} {a1 : Nat} {w6 : Value} {h h' : mn_H} {r : Option Value} (ha1 : mn_isT a1) (hy1 : vp_in x4 64) : mn_E 1 48 [.ref 20, .ref a1, .ref 16, .int x3, .int x4, .int x5, w6] [] h r h' ↔ mn_E 1 60 [.ref 20, .ref a1, .ref 16, .int x3, .int x4, .int x5, .int 0] [] (mn_up h 22 (x4.toNatClampNeg) x5) r h' :=
  (mX_aload_n d_X0_loopFrom_48 rfl).trans <| (mG_r (b := 22) d_X0_loopFrom_49 fr_1_15 rfl (by decide) rfl).trans <| (mX_iload d_X0_loopFrom_52 rfl).trans <| (mX_iload d_X0_loopFrom_54 rfl).trans <| (mX_iastore d_X0_loopFrom_56 rfl (by decide) hy1).trans <| (mX_iconst d_X0_loopFrom_57 ci_0).trans <| mX_istore (ls' := [.ref 20, .ref a1, .ref 16, .int x3, .int x4, .int x5, .int 0]) d_X0_loopFrom_58 rfl rfl
theorem b_X0_loopFrom_60 {x3 x4 x5 x6 : Int32} {a1 : Nat} {h h' : mn_H} {r : Option Value} (ha1 : mn_isT a1) : mn_E 1 60 [.ref 20, .ref a1, .ref 16, .int x3, .int x4, .int x5, .int x6] [] h r h' ↔ if (h 20 3) ≤ x6 then mn_E 1 92 [.ref 20, .ref a1, .ref 16, .int x3, .int x4, .int x5, .int x6] [] h r h' else mn_E 1 69 [.ref 20, .ref a1, .ref 16, .int x3, .int x4, .int x5, .int x6] [] h r h' :=
  (mX_iload d_X0_loopFrom_60 rfl).trans <| (mX_aload_n d_X0_loopFrom_62 rfl).trans <| (mG_i d_X0_loopFrom_63 fi_1_18 rfl (by decide)).trans <| mX_icmp_ge d_X0_loopFrom_66 rfl
theorem b_X0_loopFrom_69 {x3 x4 x5 x6 : Int32} {a1 : Nat} {h h' : mn_H} {r : Option Value} (ha1 : mn_isT a1) : mn_E 1 69 [.ref 20, .ref a1, .ref 16, .int x3, .int x4, .int x5, .int x6] [] h r h' ↔ ∃ x h1, mn_X 3 [.ref 20, .ref a1, .ref 16, .int x4, .int ((h 20 2) + x6)] h (some (.int x)) h1 ∧ mn_E 1 84 [.ref 20, .ref a1, .ref 16, .int x3, .int x4, .int x5, .int x6] [.int x] h1 r h' :=
  (mX_aload_n d_X0_loopFrom_69 rfl).trans <| (mX_aload_n d_X0_loopFrom_70 rfl).trans <| (mX_aload_n d_X0_loopFrom_71 rfl).trans <| (mX_iload d_X0_loopFrom_72 rfl).trans <| (mX_aload_n d_X0_loopFrom_74 rfl).trans <| (mG_i d_X0_loopFrom_75 fi_1_22 rfl (by decide)).trans <| (mX_iload d_X0_loopFrom_78 rfl).trans <| (mX_iadd d_X0_loopFrom_80).trans <| mV_i (a := 20) (vs := [.ref a1, .ref 16, .int x4, .int ((h 20 2) + x6)]) (st' := []) d_X0_loopFrom_81 cv_1_31 (Or.inl rfl) (Nat.le_of_ble_eq_true rfl) rfl rfl rfl rfl
theorem b_X0_loopFrom_84 {x3 x4 x5 x6 s0 : Int32} {a1 : Nat} {h h' : mn_H} {r : Option Value} (ha1 : mn_isT a1) : mn_E 1 84 [.ref 20, .ref a1, .ref 16, .int x3, .int x4, .int x5, .int x6] [.int s0] h r h' ↔ mn_E 1 60 [.ref 20, .ref a1, .ref 16, .int x3, .int s0, .int x5, .int (x6 + 1)] [] h r h' :=
  (mX_istore (ls' := [.ref 20, .ref a1, .ref 16, .int x3, .int s0, .int x5, .int x6]) d_X0_loopFrom_84 rfl rfl).trans <| (mX_iinc (ls' := [.ref 20, .ref a1, .ref 16, .int x3, .int s0, .int x5, .int (x6 + 1)]) d_X0_loopFrom_86 rfl ci_1 rfl rfl).trans <| mX_goto d_X0_loopFrom_89 rfl
theorem b_X0_loopFrom_92 {x3 x4 x5 x6 : Int32} {a1 : Nat} {h h' : mn_H} {r : Option Value} (ha1 : mn_isT a1) : mn_E 1 92 [.ref 20, .ref a1, .ref 16, .int x3, .int x4, .int x5, .int x6] [] h r h' ↔ mn_E 1 14 [.ref 20, .ref a1, .ref 16, .int x3, .int x4, .int (x5 + 1), .int x6] [] h r h' :=
  (mX_iinc (ls' := [.ref 20, .ref a1, .ref 16, .int x3, .int x4, .int (x5 + 1), .int x6]) d_X0_loopFrom_92 rfl ci_1 rfl rfl).trans <| mX_goto d_X0_loopFrom_95 rfl
theorem b_X0_loopFrom_98 {x3 x4 x5 : Int32} {a1 : Nat} {w6 : Value} {h h' : mn_H} {r : Option Value} (ha1 : mn_isT a1) : mn_E 1 98 [.ref 20, .ref a1, .ref 16, .int x3, .int x4, .int x5, w6] [] h r h' ↔ r = some (.int 0) ∧ h' = h :=
  (mX_iconst d_X0_loopFrom_98 ci_0).trans <| mX_iret d_X0_loopFrom_99 rfl
-- X0_leadFrom
theorem mo_2 : mO 2 = 0 := rfl
theorem d_X0_leadFrom_0 : decode (mC 2) 0 = .ok (.iload_n 3, 1) := by decide +kernel
theorem d_X0_leadFrom_1 : decode (mC 2) 1 = .ok (.istore 5, 2) := by decide +kernel
theorem d_X0_leadFrom_3 : decode (mC 2) 3 = .ok (.iconst 0, 1) := by decide +kernel
theorem d_X0_leadFrom_4 : decode (mC 2) 4 = .ok (.istore 6, 2) := by decide +kernel
theorem d_X0_leadFrom_6 : decode (mC 2) 6 = .ok (.iload 6, 2) := by decide +kernel
theorem d_X0_leadFrom_8 : decode (mC 2) 8 = .ok (.iload 4, 2) := by decide +kernel
theorem d_X0_leadFrom_10 : decode (mC 2) 10 = .ok (.if_icmp .ge 26, 3) := by decide +kernel
theorem d_X0_leadFrom_13 : decode (mC 2) 13 = .ok (.aload_n 0, 1) := by decide +kernel
theorem d_X0_leadFrom_14 : decode (mC 2) 14 = .ok (.aload_n 1, 1) := by decide +kernel
theorem d_X0_leadFrom_15 : decode (mC 2) 15 = .ok (.aload_n 2, 1) := by decide +kernel
theorem d_X0_leadFrom_16 : decode (mC 2) 16 = .ok (.iload 5, 2) := by decide +kernel
theorem d_X0_leadFrom_18 : decode (mC 2) 18 = .ok (.aload_n 0, 1) := by decide +kernel
theorem d_X0_leadFrom_19 : decode (mC 2) 19 = .ok (.getfield 22, 3) := by decide +kernel
theorem d_X0_leadFrom_22 : decode (mC 2) 22 = .ok (.iload 6, 2) := by decide +kernel
theorem d_X0_leadFrom_24 : decode (mC 2) 24 = .ok (.iadd, 1) := by decide +kernel
theorem d_X0_leadFrom_25 : decode (mC 2) 25 = .ok (.invokevirtual 31, 3) := by decide +kernel
theorem d_X0_leadFrom_28 : decode (mC 2) 28 = .ok (.istore 5, 2) := by decide +kernel
theorem d_X0_leadFrom_30 : decode (mC 2) 30 = .ok (.iinc 6 1, 3) := by decide +kernel
theorem d_X0_leadFrom_33 : decode (mC 2) 33 = .ok (.goto (-27), 3) := by decide +kernel
theorem d_X0_leadFrom_36 : decode (mC 2) 36 = .ok (.iload_n 3, 1) := by decide +kernel
theorem d_X0_leadFrom_37 : decode (mC 2) 37 = .ok (.istore 6, 2) := by decide +kernel
theorem d_X0_leadFrom_39 : decode (mC 2) 39 = .ok (.iconst 0, 1) := by decide +kernel
theorem d_X0_leadFrom_40 : decode (mC 2) 40 = .ok (.istore 7, 2) := by decide +kernel
theorem d_X0_leadFrom_42 : decode (mC 2) 42 = .ok (.iload 7, 2) := by decide +kernel
theorem d_X0_leadFrom_44 : decode (mC 2) 44 = .ok (.bipush 64, 2) := by decide +kernel
theorem d_X0_leadFrom_46 : decode (mC 2) 46 = .ok (.aload_n 0, 1) := by decide +kernel
theorem d_X0_leadFrom_47 : decode (mC 2) 47 = .ok (.getfield 18, 3) := by decide +kernel
theorem d_X0_leadFrom_50 : decode (mC 2) 50 = .ok (.imul, 1) := by decide +kernel
theorem d_X0_leadFrom_51 : decode (mC 2) 51 = .ok (.if_icmp .ge 50, 3) := by decide +kernel
theorem d_X0_leadFrom_54 : decode (mC 2) 54 = .ok (.iload 6, 2) := by decide +kernel
theorem d_X0_leadFrom_56 : decode (mC 2) 56 = .ok (.iload 5, 2) := by decide +kernel
theorem d_X0_leadFrom_58 : decode (mC 2) 58 = .ok (.if_icmp .eq 43, 3) := by decide +kernel
theorem d_X0_leadFrom_61 : decode (mC 2) 61 = .ok (.aload_n 0, 1) := by decide +kernel
theorem d_X0_leadFrom_62 : decode (mC 2) 62 = .ok (.aload_n 1, 1) := by decide +kernel
theorem d_X0_leadFrom_63 : decode (mC 2) 63 = .ok (.aload_n 2, 1) := by decide +kernel
theorem d_X0_leadFrom_64 : decode (mC 2) 64 = .ok (.iload 6, 2) := by decide +kernel
theorem d_X0_leadFrom_66 : decode (mC 2) 66 = .ok (.aload_n 0, 1) := by decide +kernel
theorem d_X0_leadFrom_67 : decode (mC 2) 67 = .ok (.getfield 22, 3) := by decide +kernel
theorem d_X0_leadFrom_70 : decode (mC 2) 70 = .ok (.iload 7, 2) := by decide +kernel
theorem d_X0_leadFrom_72 : decode (mC 2) 72 = .ok (.iadd, 1) := by decide +kernel
theorem d_X0_leadFrom_73 : decode (mC 2) 73 = .ok (.invokevirtual 31, 3) := by decide +kernel
theorem d_X0_leadFrom_76 : decode (mC 2) 76 = .ok (.istore 6, 2) := by decide +kernel
theorem d_X0_leadFrom_78 : decode (mC 2) 78 = .ok (.aload_n 0, 1) := by decide +kernel
theorem d_X0_leadFrom_79 : decode (mC 2) 79 = .ok (.aload_n 1, 1) := by decide +kernel
theorem d_X0_leadFrom_80 : decode (mC 2) 80 = .ok (.aload_n 2, 1) := by decide +kernel
theorem d_X0_leadFrom_81 : decode (mC 2) 81 = .ok (.iload 5, 2) := by decide +kernel
theorem d_X0_leadFrom_83 : decode (mC 2) 83 = .ok (.aload_n 0, 1) := by decide +kernel
theorem d_X0_leadFrom_84 : decode (mC 2) 84 = .ok (.getfield 22, 3) := by decide +kernel
theorem d_X0_leadFrom_87 : decode (mC 2) 87 = .ok (.iload 7, 2) := by decide +kernel
theorem d_X0_leadFrom_89 : decode (mC 2) 89 = .ok (.iadd, 1) := by decide +kernel
theorem d_X0_leadFrom_90 : decode (mC 2) 90 = .ok (.invokevirtual 31, 3) := by decide +kernel
theorem d_X0_leadFrom_93 : decode (mC 2) 93 = .ok (.istore 5, 2) := by decide +kernel
theorem d_X0_leadFrom_95 : decode (mC 2) 95 = .ok (.iinc 7 1, 3) := by decide +kernel
theorem d_X0_leadFrom_98 : decode (mC 2) 98 = .ok (.goto (-56), 3) := by decide +kernel
theorem d_X0_leadFrom_101 : decode (mC 2) 101 = .ok (.iload 7, 2) := by decide +kernel
theorem d_X0_leadFrom_103 : decode (mC 2) 103 = .ok (.ireturn, 1) := by decide +kernel
theorem fi_2_22 : mn_fi 2 0 22 0 2 = true := by decide +kernel
theorem cv_2_31 : mn_cvt 2 0 31 3 = true := by decide +kernel
theorem fi_2_18 : mn_fi 2 0 18 0 3 = true := by decide +kernel
theorem b_X0_leadFrom_0 {x3 x4 : Int32} {a1 : Nat} {h h' : mn_H} {r : Option Value} (ha1 : mn_isT a1) : mn_E 2 0 [.ref 20, .ref a1, .ref 16, .int x3, .int x4, .null, .null, .null] [] h r h' ↔ mn_E 2 6 [.ref 20, .ref a1, .ref 16, .int x3, .int x4, .int x3, .int 0, .null] [] h r h' :=
  (mX_iload_n d_X0_leadFrom_0 rfl).trans <| (mX_istore (ls' := [.ref 20, .ref a1, .ref 16, .int x3, .int x4, .int x3, .null, .null]) d_X0_leadFrom_1 rfl rfl).trans <| (mX_iconst d_X0_leadFrom_3 ci_0).trans <| mX_istore (ls' := [.ref 20, .ref a1, .ref 16, .int x3, .int x4, .int x3, .int 0, .null]) d_X0_leadFrom_4 rfl rfl
theorem b_X0_leadFrom_6 {x3 x4 x5 x6 : Int32} {a1 : Nat} {h h' : mn_H} {r : Option Value} (ha1 : mn_isT a1) : mn_E 2 6 [.ref 20, .ref a1, .ref 16, .int x3, .int x4, .int x5, .int x6, .null] [] h r h' ↔ if x4 ≤ x6 then mn_E 2 36 [.ref 20, .ref a1, .ref 16, .int x3, .int x4, .int x5, .int x6, .null] [] h r h' else mn_E 2 13 [.ref 20, .ref a1, .ref 16, .int x3, .int x4, .int x5, .int x6, .null] [] h r h' :=
  (mX_iload d_X0_leadFrom_6 rfl).trans <| (mX_iload d_X0_leadFrom_8 rfl).trans <| mX_icmp_ge d_X0_leadFrom_10 rfl
theorem b_X0_leadFrom_13 {x3 x4 x5 x6 : Int32} {a1 : Nat} {h h' : mn_H} {r : Option Value} (ha1 : mn_isT a1) : mn_E 2 13 [.ref 20, .ref a1, .ref 16, .int x3, .int x4, .int x5, .int x6, .null] [] h r h' ↔ ∃ x h1, mn_X 3 [.ref 20, .ref a1, .ref 16, .int x5, .int ((h 20 2) + x6)] h (some (.int x)) h1 ∧ mn_E 2 28 [.ref 20, .ref a1, .ref 16, .int x3, .int x4, .int x5, .int x6, .null] [.int x] h1 r h' :=
  (mX_aload_n d_X0_leadFrom_13 rfl).trans <| (mX_aload_n d_X0_leadFrom_14 rfl).trans <| (mX_aload_n d_X0_leadFrom_15 rfl).trans <| (mX_iload d_X0_leadFrom_16 rfl).trans <| (mX_aload_n d_X0_leadFrom_18 rfl).trans <| (mG_i d_X0_leadFrom_19 fi_2_22 rfl (by decide)).trans <| (mX_iload d_X0_leadFrom_22 rfl).trans <| (mX_iadd d_X0_leadFrom_24).trans <| mV_i (a := 20) (vs := [.ref a1, .ref 16, .int x5, .int ((h 20 2) + x6)]) (st' := []) d_X0_leadFrom_25 cv_2_31 (Or.inl rfl) (Nat.le_of_ble_eq_true rfl) rfl rfl rfl rfl
theorem b_X0_leadFrom_28 {x3 x4 x5 x6 s0 : Int32} {a1 : Nat} {h h' : mn_H} {r : Option Value} (ha1 : mn_isT a1) : mn_E 2 28 [.ref 20, .ref a1, .ref 16, .int x3, .int x4, .int x5, .int x6, .null] [.int s0] h r h' ↔ mn_E 2 6 [.ref 20, .ref a1, .ref 16, .int x3, .int x4, .int s0, .int (x6 + 1), .null] [] h r h' :=
  (mX_istore (ls' := [.ref 20, .ref a1, .ref 16, .int x3, .int x4, .int s0, .int x6, .null]) d_X0_leadFrom_28 rfl rfl).trans <| (mX_iinc (ls' := [.ref 20, .ref a1, .ref 16, .int x3, .int x4, .int s0, .int (x6 + 1), .null]) d_X0_leadFrom_30 rfl ci_1 rfl rfl).trans <| mX_goto d_X0_leadFrom_33 rfl
theorem b_X0_leadFrom_36 {x3 x4 x5 x6 : Int32} {a1 : Nat} {h h' : mn_H} {r : Option Value} (ha1 : mn_isT a1) : mn_E 2 36 [.ref 20, .ref a1, .ref 16, .int x3, .int x4, .int x5, .int x6, .null] [] h r h' ↔ mn_E 2 42 [.ref 20, .ref a1, .ref 16, .int x3, .int x4, .int x5, .int x3, .int 0] [] h r h' :=
  (mX_iload_n d_X0_leadFrom_36 rfl).trans <| (mX_istore (ls' := [.ref 20, .ref a1, .ref 16, .int x3, .int x4, .int x5, .int x3, .null]) d_X0_leadFrom_37 rfl rfl).trans <| (mX_iconst d_X0_leadFrom_39 ci_0).trans <| mX_istore (ls' := [.ref 20, .ref a1, .ref 16, .int x3, .int x4, .int x5, .int x3, .int 0]) d_X0_leadFrom_40 rfl rfl
theorem b_X0_leadFrom_42 {x3 x4 x5 x6 x7 : Int32} {a1 : Nat} {h h' : mn_H} {r : Option Value} (ha1 : mn_isT a1) : mn_E 2 42 [.ref 20, .ref a1, .ref 16, .int x3, .int x4, .int x5, .int x6, .int x7] [] h r h' ↔ if (64 * (h 20 3)) ≤ x7 then mn_E 2 101 [.ref 20, .ref a1, .ref 16, .int x3, .int x4, .int x5, .int x6, .int x7] [] h r h' else mn_E 2 54 [.ref 20, .ref a1, .ref 16, .int x3, .int x4, .int x5, .int x6, .int x7] [] h r h' :=
  (mX_iload d_X0_leadFrom_42 rfl).trans <| (mX_bipush d_X0_leadFrom_44 cb_64).trans <| (mX_aload_n d_X0_leadFrom_46 rfl).trans <| (mG_i d_X0_leadFrom_47 fi_2_18 rfl (by decide)).trans <| (mX_imul d_X0_leadFrom_50).trans <| mX_icmp_ge d_X0_leadFrom_51 rfl
theorem b_X0_leadFrom_54 {x3 x4 x5 x6 x7 : Int32} {a1 : Nat} {h h' : mn_H} {r : Option Value} (ha1 : mn_isT a1) : mn_E 2 54 [.ref 20, .ref a1, .ref 16, .int x3, .int x4, .int x5, .int x6, .int x7] [] h r h' ↔ if x6 = x5 then mn_E 2 101 [.ref 20, .ref a1, .ref 16, .int x3, .int x4, .int x5, .int x6, .int x7] [] h r h' else mn_E 2 61 [.ref 20, .ref a1, .ref 16, .int x3, .int x4, .int x5, .int x6, .int x7] [] h r h' :=
  (mX_iload d_X0_leadFrom_54 rfl).trans <| (mX_iload d_X0_leadFrom_56 rfl).trans <| mX_icmp_eq d_X0_leadFrom_58 rfl
theorem b_X0_leadFrom_61 {x3 x4 x5 x6 x7 : Int32} {a1 : Nat} {h h' : mn_H} {r : Option Value} (ha1 : mn_isT a1) : mn_E 2 61 [.ref 20, .ref a1, .ref 16, .int x3, .int x4, .int x5, .int x6, .int x7] [] h r h' ↔ ∃ x h1, mn_X 3 [.ref 20, .ref a1, .ref 16, .int x6, .int ((h 20 2) + x7)] h (some (.int x)) h1 ∧ mn_E 2 76 [.ref 20, .ref a1, .ref 16, .int x3, .int x4, .int x5, .int x6, .int x7] [.int x] h1 r h' :=
  (mX_aload_n d_X0_leadFrom_61 rfl).trans <| (mX_aload_n d_X0_leadFrom_62 rfl).trans <| (mX_aload_n d_X0_leadFrom_63 rfl).trans <| (mX_iload d_X0_leadFrom_64 rfl).trans <| (mX_aload_n d_X0_leadFrom_66 rfl).trans <| (mG_i d_X0_leadFrom_67 fi_2_22 rfl (by decide)).trans <| (mX_iload d_X0_leadFrom_70 rfl).trans <| (mX_iadd d_X0_leadFrom_72).trans <| mV_i (a := 20) (vs := [.ref a1, .ref 16, .int x6, .int ((h 20 2) + x7)]) (st' := []) d_X0_leadFrom_73 cv_2_31 (Or.inl rfl) (Nat.le_of_ble_eq_true rfl) rfl rfl rfl rfl
theorem b_X0_leadFrom_76 {x3 x4 x5 x6 x7 s0 : Int32} {a1 : Nat} {h h' : mn_H} {r : Option Value} (ha1 : mn_isT a1) : mn_E 2 76 [.ref 20, .ref a1, .ref 16, .int x3, .int x4, .int x5, .int x6, .int x7] [.int s0] h r h' ↔ ∃ x h1, mn_X 3 [.ref 20, .ref a1, .ref 16, .int x5, .int ((h 20 2) + x7)] h (some (.int x)) h1 ∧ mn_E 2 93 [.ref 20, .ref a1, .ref 16, .int x3, .int x4, .int x5, .int s0, .int x7] [.int x] h1 r h' :=
  (mX_istore (ls' := [.ref 20, .ref a1, .ref 16, .int x3, .int x4, .int x5, .int s0, .int x7]) d_X0_leadFrom_76 rfl rfl).trans <| (mX_aload_n d_X0_leadFrom_78 rfl).trans <| (mX_aload_n d_X0_leadFrom_79 rfl).trans <| (mX_aload_n d_X0_leadFrom_80 rfl).trans <| (mX_iload d_X0_leadFrom_81 rfl).trans <| (mX_aload_n d_X0_leadFrom_83 rfl).trans <| (mG_i d_X0_leadFrom_84 fi_2_22 rfl (by decide)).trans <| (mX_iload d_X0_leadFrom_87 rfl).trans <| (mX_iadd d_X0_leadFrom_89).trans <| mV_i (a := 20) (vs := [.ref a1, .ref 16, .int x5, .int ((h 20 2) + x7)]) (st' := []) d_X0_leadFrom_90 cv_2_31 (Or.inl rfl) (Nat.le_of_ble_eq_true rfl) rfl rfl rfl rfl
theorem b_X0_leadFrom_93 {x3 x4 x5 x6 x7 s0 : Int32} {a1 : Nat} {h h' : mn_H} {r : Option Value} (ha1 : mn_isT a1) : mn_E 2 93 [.ref 20, .ref a1, .ref 16, .int x3, .int x4, .int x5, .int x6, .int x7] [.int s0] h r h' ↔ mn_E 2 42 [.ref 20, .ref a1, .ref 16, .int x3, .int x4, .int s0, .int x6, .int (x7 + 1)] [] h r h' :=
  (mX_istore (ls' := [.ref 20, .ref a1, .ref 16, .int x3, .int x4, .int s0, .int x6, .int x7]) d_X0_leadFrom_93 rfl rfl).trans <| (mX_iinc (ls' := [.ref 20, .ref a1, .ref 16, .int x3, .int x4, .int s0, .int x6, .int (x7 + 1)]) d_X0_leadFrom_95 rfl ci_1 rfl rfl).trans <| mX_goto d_X0_leadFrom_98 rfl
theorem b_X0_leadFrom_101 {x3 x4 x5 x6 x7 : Int32} {a1 : Nat} {h h' : mn_H} {r : Option Value} (ha1 : mn_isT a1) : mn_E 2 101 [.ref 20, .ref a1, .ref 16, .int x3, .int x4, .int x5, .int x6, .int x7] [] h r h' ↔ r = some (.int x7) ∧ h' = h :=
  (mX_iload d_X0_leadFrom_101 rfl).trans <| mX_iret d_X0_leadFrom_103 rfl
-- X0_follow
theorem mo_3 : mO 3 = 0 := rfl
theorem d_X0_follow_0 : decode (mC 3) 0 = .ok (.aload_n 1, 1) := by decide +kernel
theorem d_X0_follow_1 : decode (mC 3) 1 = .ok (.iload 4, 2) := by decide +kernel
theorem d_X0_follow_3 : decode (mC 3) 3 = .ok (.invokevirtual 35, 3) := by decide +kernel
theorem d_X0_follow_6 : decode (mC 3) 6 = .ok (.istore 5, 2) := by decide +kernel
theorem d_X0_follow_8 : decode (mC 3) 8 = .ok (.iload 5, 2) := by decide +kernel
theorem d_X0_follow_10 : decode (mC 3) 10 = .ok (.bipush 64, 2) := by decide +kernel
theorem d_X0_follow_12 : decode (mC 3) 12 = .ok (.imul, 1) := by decide +kernel
theorem d_X0_follow_13 : decode (mC 3) 13 = .ok (.iload_n 3, 1) := by decide +kernel
theorem d_X0_follow_14 : decode (mC 3) 14 = .ok (.iadd, 1) := by decide +kernel
theorem d_X0_follow_15 : decode (mC 3) 15 = .ok (.istore 6, 2) := by decide +kernel
theorem d_X0_follow_17 : decode (mC 3) 17 = .ok (.aload_n 0, 1) := by decide +kernel
theorem d_X0_follow_18 : decode (mC 3) 18 = .ok (.getfield 9, 3) := by decide +kernel
theorem d_X0_follow_21 : decode (mC 3) 21 = .ok (.iload 6, 2) := by decide +kernel
theorem d_X0_follow_23 : decode (mC 3) 23 = .ok (.iaload, 1) := by decide +kernel
theorem d_X0_follow_24 : decode (mC 3) 24 = .ok (.iconst (-1), 1) := by decide +kernel
theorem d_X0_follow_25 : decode (mC 3) 25 = .ok (.if_icmp .ne 22, 3) := by decide +kernel
theorem d_X0_follow_28 : decode (mC 3) 28 = .ok (.aload_n 0, 1) := by decide +kernel
theorem d_X0_follow_29 : decode (mC 3) 29 = .ok (.getfield 9, 3) := by decide +kernel
theorem d_X0_follow_32 : decode (mC 3) 32 = .ok (.iload 6, 2) := by decide +kernel
theorem d_X0_follow_34 : decode (mC 3) 34 = .ok (.aload_n 2, 1) := by decide +kernel
theorem d_X0_follow_35 : decode (mC 3) 35 = .ok (.aload_n 1, 1) := by decide +kernel
theorem d_X0_follow_36 : decode (mC 3) 36 = .ok (.iload_n 3, 1) := by decide +kernel
theorem d_X0_follow_37 : decode (mC 3) 37 = .ok (.iload 5, 2) := by decide +kernel
theorem d_X0_follow_39 : decode (mC 3) 39 = .ok (.invokevirtual 41, 3) := by decide +kernel
theorem d_X0_follow_42 : decode (mC 3) 42 = .ok (.iconst 0, 1) := by decide +kernel
theorem d_X0_follow_43 : decode (mC 3) 43 = .ok (.invokestatic 47, 3) := by decide +kernel
theorem d_X0_follow_46 : decode (mC 3) 46 = .ok (.iastore, 1) := by decide +kernel
theorem d_X0_follow_47 : decode (mC 3) 47 = .ok (.aload_n 0, 1) := by decide +kernel
theorem d_X0_follow_48 : decode (mC 3) 48 = .ok (.getfield 9, 3) := by decide +kernel
theorem d_X0_follow_51 : decode (mC 3) 51 = .ok (.iload 6, 2) := by decide +kernel
theorem d_X0_follow_53 : decode (mC 3) 53 = .ok (.iaload, 1) := by decide +kernel
theorem d_X0_follow_54 : decode (mC 3) 54 = .ok (.ireturn, 1) := by decide +kernel
theorem cv_3_35 : mn_cvt 3 0 35 52 = true := by decide +kernel
theorem fr_3_9 : mn_fr 3 0 9 0 0 = true := by decide +kernel
theorem cv_3_41 : mn_cvt 3 0 41 62 = true := by decide +kernel
theorem cs_3_47 : mn_cs 3 0 47 111 = true := by decide +kernel
theorem b_X0_follow_0 {x3 x4 : Int32} {a1 : Nat} {h h' : mn_H} {r : Option Value} (ha1 : mn_isT a1) : mn_E 3 0 [.ref 20, .ref a1, .ref 16, .int x3, .int x4, .null, .null] [] h r h' ↔ ∃ x h1, mn_X 52 [.ref a1, .int x4] h (some (.int x)) h1 ∧ mn_E 3 6 [.ref 20, .ref a1, .ref 16, .int x3, .int x4, .null, .null] [.int x] h1 r h' :=
  (mX_aload_n d_X0_follow_0 rfl).trans <| (mX_iload d_X0_follow_1 rfl).trans <| mV_i (a := a1) (vs := [.int x4]) (st' := []) d_X0_follow_3 cv_3_35 (Or.inl rfl) (Nat.le_of_ble_eq_true rfl) rfl rfl (mn_shT0 ha1) rfl
theorem b_X0_follow_6 {x3 x4 s0 : Int32} {a1 : Nat} {h h' : mn_H} {r : Option Value} (ha1 : mn_isT a1) (hy1 : vp_in ((s0 * 64) + x3) 512) : mn_E 3 6 [.ref 20, .ref a1, .ref 16, .int x3, .int x4, .null, .null] [.int s0] h r h' ↔ if ¬ (h 21 ((s0 * 64) + x3).toNatClampNeg) = (-1) then mn_E 3 47 [.ref 20, .ref a1, .ref 16, .int x3, .int x4, .int s0, .int ((s0 * 64) + x3)] [] h r h' else mn_E 3 28 [.ref 20, .ref a1, .ref 16, .int x3, .int x4, .int s0, .int ((s0 * 64) + x3)] [] h r h' :=
  (mX_istore (ls' := [.ref 20, .ref a1, .ref 16, .int x3, .int x4, .int s0, .null]) d_X0_follow_6 rfl rfl).trans <| (mX_iload d_X0_follow_8 rfl).trans <| (mX_bipush d_X0_follow_10 cb_64).trans <| (mX_imul d_X0_follow_12).trans <| (mX_iload_n d_X0_follow_13 rfl).trans <| (mX_iadd d_X0_follow_14).trans <| (mX_istore (ls' := [.ref 20, .ref a1, .ref 16, .int x3, .int x4, .int s0, .int ((s0 * 64) + x3)]) d_X0_follow_15 rfl rfl).trans <| (mX_aload_n d_X0_follow_17 rfl).trans <| (mG_r (b := 21) d_X0_follow_18 fr_3_9 rfl (by decide) rfl).trans <| (mX_iload d_X0_follow_21 rfl).trans <| (mX_iaload d_X0_follow_23 rfl (by decide) hy1).trans <| (mX_iconst d_X0_follow_24 ci_m1).trans <| mX_icmp_ne d_X0_follow_25 rfl
theorem b_X0_follow_28 {x3 x4 x5 x6 : Int32} {a1 : Nat} {h h' : mn_H} {r : Option Value} (ha1 : mn_isT a1) : mn_E 3 28 [.ref 20, .ref a1, .ref 16, .int x3, .int x4, .int x5, .int x6] [] h r h' ↔ ∃ x h1, mn_X 62 [.ref 16, .ref a1, .int x3, .int x5] h (some (.long x)) h1 ∧ mn_E 3 42 [.ref 20, .ref a1, .ref 16, .int x3, .int x4, .int x5, .int x6] [.long x, .int x6, .ref 21] h1 r h' :=
  (mX_aload_n d_X0_follow_28 rfl).trans <| (mG_r (b := 21) d_X0_follow_29 fr_3_9 rfl (by decide) rfl).trans <| (mX_iload d_X0_follow_32 rfl).trans <| (mX_aload_n d_X0_follow_34 rfl).trans <| (mX_aload_n d_X0_follow_35 rfl).trans <| (mX_iload_n d_X0_follow_36 rfl).trans <| (mX_iload d_X0_follow_37 rfl).trans <| mV_l (a := 16) (vs := [.ref a1, .int x3, .int x5]) (st' := [.int x6, .ref 21]) d_X0_follow_39 cv_3_41 rfl (Nat.le_of_ble_eq_true rfl) rfl rfl rfl rfl
theorem b_X0_follow_42 {x3 x4 x5 x6 s1 : Int32} {m0 : Int64} {a1 : Nat} {h h' : mn_H} {r : Option Value} (ha1 : mn_isT a1) : mn_E 3 42 [.ref 20, .ref a1, .ref 16, .int x3, .int x4, .int x5, .int x6] [.long m0, .int s1, .ref 21] h r h' ↔ ∃ x h1, mn_X 111 [.long m0, .int 0] h (some (.int x)) h1 ∧ mn_E 3 46 [.ref 20, .ref a1, .ref 16, .int x3, .int x4, .int x5, .int x6] [.int x, .int s1, .ref 21] h1 r h' :=
  (mX_iconst d_X0_follow_42 ci_0).trans <| mS_i (vs := [.long m0, .int 0]) (st' := [.int s1, .ref 21]) d_X0_follow_43 cs_3_47 (Or.inl rfl) (Nat.le_of_ble_eq_true rfl) rfl rfl rfl
theorem b_X0_follow_46 {x3 x4 x5 x6 s0 s1 : Int32} {a1 : Nat} {h h' : mn_H} {r : Option Value} (ha1 : mn_isT a1) (hy1 : vp_in s1 512) : mn_E 3 46 [.ref 20, .ref a1, .ref 16, .int x3, .int x4, .int x5, .int x6] [.int s0, .int s1, .ref 21] h r h' ↔ mn_E 3 47 [.ref 20, .ref a1, .ref 16, .int x3, .int x4, .int x5, .int x6] [] (mn_up h 21 (s1.toNatClampNeg) s0) r h' :=
  mX_iastore d_X0_follow_46 rfl (by decide) hy1
theorem b_X0_follow_47 {x3 x4 x5 x6 : Int32} {a1 : Nat} {h h' : mn_H} {r : Option Value} (ha1 : mn_isT a1) (hy1 : vp_in x6 512) : mn_E 3 47 [.ref 20, .ref a1, .ref 16, .int x3, .int x4, .int x5, .int x6] [] h r h' ↔ r = some (.int (h 21 x6.toNatClampNeg)) ∧ h' = h :=
  (mX_aload_n d_X0_follow_47 rfl).trans <| (mG_r (b := 21) d_X0_follow_48 fr_3_9 rfl (by decide) rfl).trans <| (mX_iload d_X0_follow_51 rfl).trans <| (mX_iaload d_X0_follow_53 rfl (by decide) hy1).trans <| mX_iret d_X0_follow_54 rfl
-- X1_startAnew
theorem mo_4 : mO 4 = 1 := rfl
theorem d_X1_startAnew_0 : decode (mC 4) 0 = .ok (.aload_n 0, 1) := by decide +kernel
theorem d_X1_startAnew_1 : decode (mC 4) 1 = .ok (.iconst 0, 1) := by decide +kernel
theorem d_X1_startAnew_2 : decode (mC 4) 2 = .ok (.putfield 15, 3) := by decide +kernel
theorem d_X1_startAnew_5 : decode (mC 4) 5 = .ok (.aload_n 0, 1) := by decide +kernel
theorem d_X1_startAnew_6 : decode (mC 4) 6 = .ok (.iconst 0, 1) := by decide +kernel
theorem d_X1_startAnew_7 : decode (mC 4) 7 = .ok (.putfield 19, 3) := by decide +kernel
theorem d_X1_startAnew_10 : decode (mC 4) 10 = .ok (.aload_n 0, 1) := by decide +kernel
theorem d_X1_startAnew_11 : decode (mC 4) 11 = .ok (.iconst 0, 1) := by decide +kernel
theorem d_X1_startAnew_12 : decode (mC 4) 12 = .ok (.putfield 22, 3) := by decide +kernel
theorem d_X1_startAnew_15 : decode (mC 4) 15 = .ok (.aload_n 0, 1) := by decide +kernel
theorem d_X1_startAnew_16 : decode (mC 4) 16 = .ok (.iconst 0, 1) := by decide +kernel
theorem d_X1_startAnew_17 : decode (mC 4) 17 = .ok (.putfield 25, 3) := by decide +kernel
theorem d_X1_startAnew_20 : decode (mC 4) 20 = .ok (.aload_n 0, 1) := by decide +kernel
theorem d_X1_startAnew_21 : decode (mC 4) 21 = .ok (.iload_n 1, 1) := by decide +kernel
theorem d_X1_startAnew_22 : decode (mC 4) 22 = .ok (.putfield 28, 3) := by decide +kernel
theorem d_X1_startAnew_25 : decode (mC 4) 25 = .ok (.return_, 1) := by decide +kernel
theorem fi_4_15 : mn_fi 4 1 15 1 0 = true := by decide +kernel
theorem fi_4_19 : mn_fi 4 1 19 1 2 = true := by decide +kernel
theorem fi_4_22 : mn_fi 4 1 22 1 3 = true := by decide +kernel
theorem fi_4_25 : mn_fi 4 1 25 1 4 = true := by decide +kernel
theorem fi_4_28 : mn_fi 4 1 28 1 5 = true := by decide +kernel
theorem b_X1_startAnew_0 {x1 : Int32} {a0 : Nat} {h h' : mn_H} {r : Option Value} (ha0 : mn_isC a0) : mn_E 4 0 [.ref a0, .int x1] [] h r h' ↔ r = none ∧ h' = mn_up (mn_up (mn_up (mn_up (mn_up h a0 0 0) a0 2 0) a0 3 0) a0 4 0) a0 5 x1 :=
  (mX_aload_n d_X1_startAnew_0 rfl).trans <| (mX_iconst d_X1_startAnew_1 ci_0).trans <| (mP_i d_X1_startAnew_2 fi_4_15 (mn_shC0 ha0) (mn_ltC0 ha0) rfl (Or.inl (by decide))).trans <| (mX_aload_n d_X1_startAnew_5 rfl).trans <| (mX_iconst d_X1_startAnew_6 ci_0).trans <| (mP_i d_X1_startAnew_7 fi_4_19 (mn_shC0 ha0) (mn_ltC0 ha0) rfl (Or.inl (by decide))).trans <| (mX_aload_n d_X1_startAnew_10 rfl).trans <| (mX_iconst d_X1_startAnew_11 ci_0).trans <| (mP_i d_X1_startAnew_12 fi_4_22 (mn_shC0 ha0) (mn_ltC0 ha0) rfl (Or.inl (by decide))).trans <| (mX_aload_n d_X1_startAnew_15 rfl).trans <| (mX_iconst d_X1_startAnew_16 ci_0).trans <| (mP_i d_X1_startAnew_17 fi_4_25 (mn_shC0 ha0) (mn_ltC0 ha0) rfl (Or.inl (by decide))).trans <| (mX_aload_n d_X1_startAnew_20 rfl).trans <| (mX_iload_n d_X1_startAnew_21 rfl).trans <| (mP_i d_X1_startAnew_22 fi_4_28 (mn_shC0 ha0) (mn_ltC0 ha0) rfl (Or.inl (by decide))).trans <| mX_vret d_X1_startAnew_25 rfl
-- X1_becomeLike
theorem mo_5 : mO 5 = 1 := rfl
theorem d_X1_becomeLike_0 : decode (mC 5) 0 = .ok (.aload_n 0, 1) := by decide +kernel
theorem d_X1_becomeLike_1 : decode (mC 5) 1 = .ok (.aload_n 1, 1) := by decide +kernel
theorem d_X1_becomeLike_2 : decode (mC 5) 2 = .ok (.getfield 15, 3) := by decide +kernel
theorem d_X1_becomeLike_5 : decode (mC 5) 5 = .ok (.putfield 15, 3) := by decide +kernel
theorem d_X1_becomeLike_8 : decode (mC 5) 8 = .ok (.aload_n 1, 1) := by decide +kernel
theorem d_X1_becomeLike_9 : decode (mC 5) 9 = .ok (.getfield 9, 3) := by decide +kernel
theorem d_X1_becomeLike_12 : decode (mC 5) 12 = .ok (.iconst 0, 1) := by decide +kernel
theorem d_X1_becomeLike_13 : decode (mC 5) 13 = .ok (.aload_n 0, 1) := by decide +kernel
theorem d_X1_becomeLike_14 : decode (mC 5) 14 = .ok (.getfield 9, 3) := by decide +kernel
theorem d_X1_becomeLike_17 : decode (mC 5) 17 = .ok (.iconst 0, 1) := by decide +kernel
theorem d_X1_becomeLike_18 : decode (mC 5) 18 = .ok (.bipush 60, 2) := by decide +kernel
theorem d_X1_becomeLike_20 : decode (mC 5) 20 = .ok (.invokestatic 31, 3) := by decide +kernel
theorem d_X1_becomeLike_23 : decode (mC 5) 23 = .ok (.aload_n 0, 1) := by decide +kernel
theorem d_X1_becomeLike_24 : decode (mC 5) 24 = .ok (.aload_n 1, 1) := by decide +kernel
theorem d_X1_becomeLike_25 : decode (mC 5) 25 = .ok (.getfield 19, 3) := by decide +kernel
theorem d_X1_becomeLike_28 : decode (mC 5) 28 = .ok (.putfield 19, 3) := by decide +kernel
theorem d_X1_becomeLike_31 : decode (mC 5) 31 = .ok (.aload_n 0, 1) := by decide +kernel
theorem d_X1_becomeLike_32 : decode (mC 5) 32 = .ok (.aload_n 1, 1) := by decide +kernel
theorem d_X1_becomeLike_33 : decode (mC 5) 33 = .ok (.getfield 22, 3) := by decide +kernel
theorem d_X1_becomeLike_36 : decode (mC 5) 36 = .ok (.putfield 22, 3) := by decide +kernel
theorem d_X1_becomeLike_39 : decode (mC 5) 39 = .ok (.aload_n 0, 1) := by decide +kernel
theorem d_X1_becomeLike_40 : decode (mC 5) 40 = .ok (.aload_n 1, 1) := by decide +kernel
theorem d_X1_becomeLike_41 : decode (mC 5) 41 = .ok (.getfield 25, 3) := by decide +kernel
theorem d_X1_becomeLike_44 : decode (mC 5) 44 = .ok (.putfield 25, 3) := by decide +kernel
theorem d_X1_becomeLike_47 : decode (mC 5) 47 = .ok (.aload_n 0, 1) := by decide +kernel
theorem d_X1_becomeLike_48 : decode (mC 5) 48 = .ok (.aload_n 1, 1) := by decide +kernel
theorem d_X1_becomeLike_49 : decode (mC 5) 49 = .ok (.getfield 28, 3) := by decide +kernel
theorem d_X1_becomeLike_52 : decode (mC 5) 52 = .ok (.putfield 28, 3) := by decide +kernel
theorem d_X1_becomeLike_55 : decode (mC 5) 55 = .ok (.aload_n 0, 1) := by decide +kernel
theorem d_X1_becomeLike_56 : decode (mC 5) 56 = .ok (.aload_n 1, 1) := by decide +kernel
theorem d_X1_becomeLike_57 : decode (mC 5) 57 = .ok (.getfield 37, 3) := by decide +kernel
theorem d_X1_becomeLike_60 : decode (mC 5) 60 = .ok (.putfield 37, 3) := by decide +kernel
theorem d_X1_becomeLike_63 : decode (mC 5) 63 = .ok (.return_, 1) := by decide +kernel
theorem fi_5_15 : mn_fi 5 1 15 1 0 = true := by decide +kernel
theorem fr_5_9 : mn_fr 5 1 9 1 1 = true := by decide +kernel
theorem fi_5_19 : mn_fi 5 1 19 1 2 = true := by decide +kernel
theorem fi_5_22 : mn_fi 5 1 22 1 3 = true := by decide +kernel
theorem fi_5_25 : mn_fi 5 1 25 1 4 = true := by decide +kernel
theorem fi_5_28 : mn_fi 5 1 28 1 5 = true := by decide +kernel
theorem fi_5_37 : mn_fi 5 1 37 1 6 = true := by decide +kernel
theorem b_X1_becomeLike_0 {a0 a1 : Nat} {h h' : mn_H} {r : Option Value} (ha0 : mn_isC a0) (ha1 : mn_isC a1) : mn_E 5 0 [.ref a0, .ref a1] [] h r h' ↔ r = none ∧ h' = mn_up (mn_up (mn_up (mn_up (mn_up (mn_set (mn_up h a0 0 (h a1 0)) (a0 + 1) (va_cpy ((mn_up h a0 0 (h a1 0)) (a1 + 1)) ((mn_up h a0 0 (h a1 0)) (a0 + 1)) ((0 : Int32).toNatClampNeg) ((0 : Int32).toNatClampNeg) ((60 : Int32).toNatClampNeg))) a0 2 ((mn_set (mn_up h a0 0 (h a1 0)) (a0 + 1) (va_cpy ((mn_up h a0 0 (h a1 0)) (a1 + 1)) ((mn_up h a0 0 (h a1 0)) (a0 + 1)) ((0 : Int32).toNatClampNeg) ((0 : Int32).toNatClampNeg) ((60 : Int32).toNatClampNeg))) a1 2)) a0 3 ((mn_up (mn_set (mn_up h a0 0 (h a1 0)) (a0 + 1) (va_cpy ((mn_up h a0 0 (h a1 0)) (a1 + 1)) ((mn_up h a0 0 (h a1 0)) (a0 + 1)) ((0 : Int32).toNatClampNeg) ((0 : Int32).toNatClampNeg) ((60 : Int32).toNatClampNeg))) a0 2 ((mn_set (mn_up h a0 0 (h a1 0)) (a0 + 1) (va_cpy ((mn_up h a0 0 (h a1 0)) (a1 + 1)) ((mn_up h a0 0 (h a1 0)) (a0 + 1)) ((0 : Int32).toNatClampNeg) ((0 : Int32).toNatClampNeg) ((60 : Int32).toNatClampNeg))) a1 2)) a1 3)) a0 4 ((mn_up (mn_up (mn_set (mn_up h a0 0 (h a1 0)) (a0 + 1) (va_cpy ((mn_up h a0 0 (h a1 0)) (a1 + 1)) ((mn_up h a0 0 (h a1 0)) (a0 + 1)) ((0 : Int32).toNatClampNeg) ((0 : Int32).toNatClampNeg) ((60 : Int32).toNatClampNeg))) a0 2 ((mn_set (mn_up h a0 0 (h a1 0)) (a0 + 1) (va_cpy ((mn_up h a0 0 (h a1 0)) (a1 + 1)) ((mn_up h a0 0 (h a1 0)) (a0 + 1)) ((0 : Int32).toNatClampNeg) ((0 : Int32).toNatClampNeg) ((60 : Int32).toNatClampNeg))) a1 2)) a0 3 ((mn_up (mn_set (mn_up h a0 0 (h a1 0)) (a0 + 1) (va_cpy ((mn_up h a0 0 (h a1 0)) (a1 + 1)) ((mn_up h a0 0 (h a1 0)) (a0 + 1)) ((0 : Int32).toNatClampNeg) ((0 : Int32).toNatClampNeg) ((60 : Int32).toNatClampNeg))) a0 2 ((mn_set (mn_up h a0 0 (h a1 0)) (a0 + 1) (va_cpy ((mn_up h a0 0 (h a1 0)) (a1 + 1)) ((mn_up h a0 0 (h a1 0)) (a0 + 1)) ((0 : Int32).toNatClampNeg) ((0 : Int32).toNatClampNeg) ((60 : Int32).toNatClampNeg))) a1 2)) a1 3)) a1 4)) a0 5 ((mn_up (mn_up (mn_up (mn_set (mn_up h a0 0 (h a1 0)) (a0 + 1) (va_cpy ((mn_up h a0 0 (h a1 0)) (a1 + 1)) ((mn_up h a0 0 (h a1 0)) (a0 + 1)) ((0 : Int32).toNatClampNeg) ((0 : Int32).toNatClampNeg) ((60 : Int32).toNatClampNeg))) a0 2 ((mn_set (mn_up h a0 0 (h a1 0)) (a0 + 1) (va_cpy ((mn_up h a0 0 (h a1 0)) (a1 + 1)) ((mn_up h a0 0 (h a1 0)) (a0 + 1)) ((0 : Int32).toNatClampNeg) ((0 : Int32).toNatClampNeg) ((60 : Int32).toNatClampNeg))) a1 2)) a0 3 ((mn_up (mn_set (mn_up h a0 0 (h a1 0)) (a0 + 1) (va_cpy ((mn_up h a0 0 (h a1 0)) (a1 + 1)) ((mn_up h a0 0 (h a1 0)) (a0 + 1)) ((0 : Int32).toNatClampNeg) ((0 : Int32).toNatClampNeg) ((60 : Int32).toNatClampNeg))) a0 2 ((mn_set (mn_up h a0 0 (h a1 0)) (a0 + 1) (va_cpy ((mn_up h a0 0 (h a1 0)) (a1 + 1)) ((mn_up h a0 0 (h a1 0)) (a0 + 1)) ((0 : Int32).toNatClampNeg) ((0 : Int32).toNatClampNeg) ((60 : Int32).toNatClampNeg))) a1 2)) a1 3)) a0 4 ((mn_up (mn_up (mn_set (mn_up h a0 0 (h a1 0)) (a0 + 1) (va_cpy ((mn_up h a0 0 (h a1 0)) (a1 + 1)) ((mn_up h a0 0 (h a1 0)) (a0 + 1)) ((0 : Int32).toNatClampNeg) ((0 : Int32).toNatClampNeg) ((60 : Int32).toNatClampNeg))) a0 2 ((mn_set (mn_up h a0 0 (h a1 0)) (a0 + 1) (va_cpy ((mn_up h a0 0 (h a1 0)) (a1 + 1)) ((mn_up h a0 0 (h a1 0)) (a0 + 1)) ((0 : Int32).toNatClampNeg) ((0 : Int32).toNatClampNeg) ((60 : Int32).toNatClampNeg))) a1 2)) a0 3 ((mn_up (mn_set (mn_up h a0 0 (h a1 0)) (a0 + 1) (va_cpy ((mn_up h a0 0 (h a1 0)) (a1 + 1)) ((mn_up h a0 0 (h a1 0)) (a0 + 1)) ((0 : Int32).toNatClampNeg) ((0 : Int32).toNatClampNeg) ((60 : Int32).toNatClampNeg))) a0 2 ((mn_set (mn_up h a0 0 (h a1 0)) (a0 + 1) (va_cpy ((mn_up h a0 0 (h a1 0)) (a1 + 1)) ((mn_up h a0 0 (h a1 0)) (a0 + 1)) ((0 : Int32).toNatClampNeg) ((0 : Int32).toNatClampNeg) ((60 : Int32).toNatClampNeg))) a1 2)) a1 3)) a1 4)) a1 5)) a0 6 ((mn_up (mn_up (mn_up (mn_up (mn_set (mn_up h a0 0 (h a1 0)) (a0 + 1) (va_cpy ((mn_up h a0 0 (h a1 0)) (a1 + 1)) ((mn_up h a0 0 (h a1 0)) (a0 + 1)) ((0 : Int32).toNatClampNeg) ((0 : Int32).toNatClampNeg) ((60 : Int32).toNatClampNeg))) a0 2 ((mn_set (mn_up h a0 0 (h a1 0)) (a0 + 1) (va_cpy ((mn_up h a0 0 (h a1 0)) (a1 + 1)) ((mn_up h a0 0 (h a1 0)) (a0 + 1)) ((0 : Int32).toNatClampNeg) ((0 : Int32).toNatClampNeg) ((60 : Int32).toNatClampNeg))) a1 2)) a0 3 ((mn_up (mn_set (mn_up h a0 0 (h a1 0)) (a0 + 1) (va_cpy ((mn_up h a0 0 (h a1 0)) (a1 + 1)) ((mn_up h a0 0 (h a1 0)) (a0 + 1)) ((0 : Int32).toNatClampNeg) ((0 : Int32).toNatClampNeg) ((60 : Int32).toNatClampNeg))) a0 2 ((mn_set (mn_up h a0 0 (h a1 0)) (a0 + 1) (va_cpy ((mn_up h a0 0 (h a1 0)) (a1 + 1)) ((mn_up h a0 0 (h a1 0)) (a0 + 1)) ((0 : Int32).toNatClampNeg) ((0 : Int32).toNatClampNeg) ((60 : Int32).toNatClampNeg))) a1 2)) a1 3)) a0 4 ((mn_up (mn_up (mn_set (mn_up h a0 0 (h a1 0)) (a0 + 1) (va_cpy ((mn_up h a0 0 (h a1 0)) (a1 + 1)) ((mn_up h a0 0 (h a1 0)) (a0 + 1)) ((0 : Int32).toNatClampNeg) ((0 : Int32).toNatClampNeg) ((60 : Int32).toNatClampNeg))) a0 2 ((mn_set (mn_up h a0 0 (h a1 0)) (a0 + 1) (va_cpy ((mn_up h a0 0 (h a1 0)) (a1 + 1)) ((mn_up h a0 0 (h a1 0)) (a0 + 1)) ((0 : Int32).toNatClampNeg) ((0 : Int32).toNatClampNeg) ((60 : Int32).toNatClampNeg))) a1 2)) a0 3 ((mn_up (mn_set (mn_up h a0 0 (h a1 0)) (a0 + 1) (va_cpy ((mn_up h a0 0 (h a1 0)) (a1 + 1)) ((mn_up h a0 0 (h a1 0)) (a0 + 1)) ((0 : Int32).toNatClampNeg) ((0 : Int32).toNatClampNeg) ((60 : Int32).toNatClampNeg))) a0 2 ((mn_set (mn_up h a0 0 (h a1 0)) (a0 + 1) (va_cpy ((mn_up h a0 0 (h a1 0)) (a1 + 1)) ((mn_up h a0 0 (h a1 0)) (a0 + 1)) ((0 : Int32).toNatClampNeg) ((0 : Int32).toNatClampNeg) ((60 : Int32).toNatClampNeg))) a1 2)) a1 3)) a1 4)) a0 5 ((mn_up (mn_up (mn_up (mn_set (mn_up h a0 0 (h a1 0)) (a0 + 1) (va_cpy ((mn_up h a0 0 (h a1 0)) (a1 + 1)) ((mn_up h a0 0 (h a1 0)) (a0 + 1)) ((0 : Int32).toNatClampNeg) ((0 : Int32).toNatClampNeg) ((60 : Int32).toNatClampNeg))) a0 2 ((mn_set (mn_up h a0 0 (h a1 0)) (a0 + 1) (va_cpy ((mn_up h a0 0 (h a1 0)) (a1 + 1)) ((mn_up h a0 0 (h a1 0)) (a0 + 1)) ((0 : Int32).toNatClampNeg) ((0 : Int32).toNatClampNeg) ((60 : Int32).toNatClampNeg))) a1 2)) a0 3 ((mn_up (mn_set (mn_up h a0 0 (h a1 0)) (a0 + 1) (va_cpy ((mn_up h a0 0 (h a1 0)) (a1 + 1)) ((mn_up h a0 0 (h a1 0)) (a0 + 1)) ((0 : Int32).toNatClampNeg) ((0 : Int32).toNatClampNeg) ((60 : Int32).toNatClampNeg))) a0 2 ((mn_set (mn_up h a0 0 (h a1 0)) (a0 + 1) (va_cpy ((mn_up h a0 0 (h a1 0)) (a1 + 1)) ((mn_up h a0 0 (h a1 0)) (a0 + 1)) ((0 : Int32).toNatClampNeg) ((0 : Int32).toNatClampNeg) ((60 : Int32).toNatClampNeg))) a1 2)) a1 3)) a0 4 ((mn_up (mn_up (mn_set (mn_up h a0 0 (h a1 0)) (a0 + 1) (va_cpy ((mn_up h a0 0 (h a1 0)) (a1 + 1)) ((mn_up h a0 0 (h a1 0)) (a0 + 1)) ((0 : Int32).toNatClampNeg) ((0 : Int32).toNatClampNeg) ((60 : Int32).toNatClampNeg))) a0 2 ((mn_set (mn_up h a0 0 (h a1 0)) (a0 + 1) (va_cpy ((mn_up h a0 0 (h a1 0)) (a1 + 1)) ((mn_up h a0 0 (h a1 0)) (a0 + 1)) ((0 : Int32).toNatClampNeg) ((0 : Int32).toNatClampNeg) ((60 : Int32).toNatClampNeg))) a1 2)) a0 3 ((mn_up (mn_set (mn_up h a0 0 (h a1 0)) (a0 + 1) (va_cpy ((mn_up h a0 0 (h a1 0)) (a1 + 1)) ((mn_up h a0 0 (h a1 0)) (a0 + 1)) ((0 : Int32).toNatClampNeg) ((0 : Int32).toNatClampNeg) ((60 : Int32).toNatClampNeg))) a0 2 ((mn_set (mn_up h a0 0 (h a1 0)) (a0 + 1) (va_cpy ((mn_up h a0 0 (h a1 0)) (a1 + 1)) ((mn_up h a0 0 (h a1 0)) (a0 + 1)) ((0 : Int32).toNatClampNeg) ((0 : Int32).toNatClampNeg) ((60 : Int32).toNatClampNeg))) a1 2)) a1 3)) a1 4)) a1 5)) a1 6) :=
  (mX_aload_n d_X1_becomeLike_0 rfl).trans <| (mX_aload_n d_X1_becomeLike_1 rfl).trans <| (mG_i d_X1_becomeLike_2 fi_5_15 (mn_shC0 ha1) (mn_ltC0 ha1)).trans <| (mP_i d_X1_becomeLike_5 fi_5_15 (mn_shC0 ha0) (mn_ltC0 ha0) rfl (Or.inl (by decide))).trans <| (mX_aload_n d_X1_becomeLike_8 rfl).trans <| (mG_r (b := (a1 + 1)) d_X1_becomeLike_9 fr_5_9 (mn_shC0 ha1) (mn_ltC0 ha1) (mn_rfC1 ha1 _)).trans <| (mX_iconst d_X1_becomeLike_12 ci_0).trans <| (mX_aload_n d_X1_becomeLike_13 rfl).trans <| (mG_r (b := (a0 + 1)) d_X1_becomeLike_14 fr_5_9 (mn_shC0 ha0) (mn_ltC0 ha0) (mn_rfC1 ha0 _)).trans <| (mX_iconst d_X1_becomeLike_17 ci_0).trans <| (mX_bipush d_X1_becomeLike_18 cb_60).trans <| (mX_acopy d_X1_becomeLike_20 mo_5 ⟨rfl, rfl⟩ ⟨(mn_shC1 ha1), (mn_shC1 ha0), (mn_ltC ha1 (by decide)), (mn_ltC ha0 (by decide))⟩ (by decide +kernel) (by decide)).trans <| (mX_aload_n d_X1_becomeLike_23 rfl).trans <| (mX_aload_n d_X1_becomeLike_24 rfl).trans <| (mG_i d_X1_becomeLike_25 fi_5_19 (mn_shC0 ha1) (mn_ltC0 ha1)).trans <| (mP_i d_X1_becomeLike_28 fi_5_19 (mn_shC0 ha0) (mn_ltC0 ha0) rfl (Or.inl (by decide))).trans <| (mX_aload_n d_X1_becomeLike_31 rfl).trans <| (mX_aload_n d_X1_becomeLike_32 rfl).trans <| (mG_i d_X1_becomeLike_33 fi_5_22 (mn_shC0 ha1) (mn_ltC0 ha1)).trans <| (mP_i d_X1_becomeLike_36 fi_5_22 (mn_shC0 ha0) (mn_ltC0 ha0) rfl (Or.inl (by decide))).trans <| (mX_aload_n d_X1_becomeLike_39 rfl).trans <| (mX_aload_n d_X1_becomeLike_40 rfl).trans <| (mG_i d_X1_becomeLike_41 fi_5_25 (mn_shC0 ha1) (mn_ltC0 ha1)).trans <| (mP_i d_X1_becomeLike_44 fi_5_25 (mn_shC0 ha0) (mn_ltC0 ha0) rfl (Or.inl (by decide))).trans <| (mX_aload_n d_X1_becomeLike_47 rfl).trans <| (mX_aload_n d_X1_becomeLike_48 rfl).trans <| (mG_i d_X1_becomeLike_49 fi_5_28 (mn_shC0 ha1) (mn_ltC0 ha1)).trans <| (mP_i d_X1_becomeLike_52 fi_5_28 (mn_shC0 ha0) (mn_ltC0 ha0) rfl (Or.inl (by decide))).trans <| (mX_aload_n d_X1_becomeLike_55 rfl).trans <| (mX_aload_n d_X1_becomeLike_56 rfl).trans <| (mG_i d_X1_becomeLike_57 fi_5_37 (mn_shC0 ha1) (mn_ltC0 ha1)).trans <| (mP_i d_X1_becomeLike_60 fi_5_37 (mn_shC0 ha0) (mn_ltC0 ha0) rfl (Or.inl (by decide))).trans <| mX_vret d_X1_becomeLike_63 rfl
-- X1_dayBefore
theorem mo_6 : mO 6 = 1 := rfl
theorem d_X1_dayBefore_0 : decode (mC 6) 0 = .ok (.aload_n 0, 1) := by decide +kernel
theorem d_X1_dayBefore_1 : decode (mC 6) 1 = .ok (.getfield 19, 3) := by decide +kernel
theorem d_X1_dayBefore_4 : decode (mC 6) 4 = .ok (.ifCond .le 17, 3) := by decide +kernel
theorem d_X1_dayBefore_7 : decode (mC 6) 7 = .ok (.aload_n 0, 1) := by decide +kernel
theorem d_X1_dayBefore_8 : decode (mC 6) 8 = .ok (.getfield 9, 3) := by decide +kernel
theorem d_X1_dayBefore_11 : decode (mC 6) 11 = .ok (.aload_n 0, 1) := by decide +kernel
theorem d_X1_dayBefore_12 : decode (mC 6) 12 = .ok (.getfield 19, 3) := by decide +kernel
theorem d_X1_dayBefore_15 : decode (mC 6) 15 = .ok (.iconst 1, 1) := by decide +kernel
theorem d_X1_dayBefore_16 : decode (mC 6) 16 = .ok (.isub, 1) := by decide +kernel
theorem d_X1_dayBefore_17 : decode (mC 6) 17 = .ok (.iaload, 1) := by decide +kernel
theorem d_X1_dayBefore_18 : decode (mC 6) 18 = .ok (.goto 7, 3) := by decide +kernel
theorem d_X1_dayBefore_21 : decode (mC 6) 21 = .ok (.aload_n 0, 1) := by decide +kernel
theorem d_X1_dayBefore_22 : decode (mC 6) 22 = .ok (.getfield 15, 3) := by decide +kernel
theorem d_X1_dayBefore_25 : decode (mC 6) 25 = .ok (.ireturn, 1) := by decide +kernel
theorem fi_6_19 : mn_fi 6 1 19 1 2 = true := by decide +kernel
theorem fr_6_9 : mn_fr 6 1 9 1 1 = true := by decide +kernel
theorem fi_6_15 : mn_fi 6 1 15 1 0 = true := by decide +kernel
theorem b_X1_dayBefore_0 {a0 : Nat} {h h' : mn_H} {r : Option Value} (ha0 : mn_isC a0) : mn_E 6 0 [.ref a0] [] h r h' ↔ if (h a0 2) ≤ 0 then mn_E 6 21 [.ref a0] [] h r h' else mn_E 6 7 [.ref a0] [] h r h' :=
  (mX_aload_n d_X1_dayBefore_0 rfl).trans <| (mG_i d_X1_dayBefore_1 fi_6_19 (mn_shC0 ha0) (mn_ltC0 ha0)).trans <| mX_if_le d_X1_dayBefore_4 rfl
theorem b_X1_dayBefore_7 {a0 : Nat} {h h' : mn_H} {r : Option Value} (ha0 : mn_isC a0) (hy1 : vp_in ((h a0 2) - 1) 60) : mn_E 6 7 [.ref a0] [] h r h' ↔ mn_E 6 25 [.ref a0] [.int (h (a0 + 1) ((h a0 2) - 1).toNatClampNeg)] h r h' :=
  (mX_aload_n d_X1_dayBefore_7 rfl).trans <| (mG_r (b := (a0 + 1)) d_X1_dayBefore_8 fr_6_9 (mn_shC0 ha0) (mn_ltC0 ha0) (mn_rfC1 ha0 _)).trans <| (mX_aload_n d_X1_dayBefore_11 rfl).trans <| (mG_i d_X1_dayBefore_12 fi_6_19 (mn_shC0 ha0) (mn_ltC0 ha0)).trans <| (mX_iconst d_X1_dayBefore_15 ci_1).trans <| (mX_isub d_X1_dayBefore_16).trans <| (mX_iaload d_X1_dayBefore_17 (mn_shC1 ha0) (mn_ltC ha0 (by decide)) hy1).trans <| mX_goto d_X1_dayBefore_18 rfl
theorem b_X1_dayBefore_21 {a0 : Nat} {h h' : mn_H} {r : Option Value} (ha0 : mn_isC a0) : mn_E 6 21 [.ref a0] [] h r h' ↔ mn_E 6 25 [.ref a0] [.int (h a0 0)] h r h' :=
  (mX_aload_n d_X1_dayBefore_21 rfl).trans <| mG_i d_X1_dayBefore_22 fi_6_15 (mn_shC0 ha0) (mn_ltC0 ha0)
theorem b_X1_dayBefore_25 {s0 : Int32} {a0 : Nat} {h h' : mn_H} {r : Option Value} (ha0 : mn_isC a0) : mn_E 6 25 [.ref a0] [.int s0] h r h' ↔ r = some (.int s0) ∧ h' = h :=
  mX_iret d_X1_dayBefore_25 rfl
-- X1_pass
theorem mo_7 : mO 7 = 1 := rfl
theorem d_X1_pass_0 : decode (mC 7) 0 = .ok (.aload_n 0, 1) := by decide +kernel
theorem d_X1_pass_1 : decode (mC 7) 1 = .ok (.getfield 19, 3) := by decide +kernel
theorem d_X1_pass_4 : decode (mC 7) 4 = .ok (.bipush 60, 2) := by decide +kernel
theorem d_X1_pass_6 : decode (mC 7) 6 = .ok (.if_icmp .ge 33, 3) := by decide +kernel
theorem d_X1_pass_9 : decode (mC 7) 9 = .ok (.aload_n 0, 1) := by decide +kernel
theorem d_X1_pass_10 : decode (mC 7) 10 = .ok (.getfield 9, 3) := by decide +kernel
theorem d_X1_pass_13 : decode (mC 7) 13 = .ok (.aload_n 0, 1) := by decide +kernel
theorem d_X1_pass_14 : decode (mC 7) 14 = .ok (.getfield 19, 3) := by decide +kernel
theorem d_X1_pass_17 : decode (mC 7) 17 = .ok (.iload_n 1, 1) := by decide +kernel
theorem d_X1_pass_18 : decode (mC 7) 18 = .ok (.iastore, 1) := by decide +kernel
theorem d_X1_pass_19 : decode (mC 7) 19 = .ok (.aload_n 0, 1) := by decide +kernel
theorem d_X1_pass_20 : decode (mC 7) 20 = .ok (.dup, 1) := by decide +kernel
theorem d_X1_pass_21 : decode (mC 7) 21 = .ok (.getfield 19, 3) := by decide +kernel
theorem d_X1_pass_24 : decode (mC 7) 24 = .ok (.iconst 1, 1) := by decide +kernel
theorem d_X1_pass_25 : decode (mC 7) 25 = .ok (.iadd, 1) := by decide +kernel
theorem d_X1_pass_26 : decode (mC 7) 26 = .ok (.putfield 19, 3) := by decide +kernel
theorem d_X1_pass_29 : decode (mC 7) 29 = .ok (.aload_n 0, 1) := by decide +kernel
theorem d_X1_pass_30 : decode (mC 7) 30 = .ok (.dup, 1) := by decide +kernel
theorem d_X1_pass_31 : decode (mC 7) 31 = .ok (.getfield 22, 3) := by decide +kernel
theorem d_X1_pass_34 : decode (mC 7) 34 = .ok (.iload_n 2, 1) := by decide +kernel
theorem d_X1_pass_35 : decode (mC 7) 35 = .ok (.iadd, 1) := by decide +kernel
theorem d_X1_pass_36 : decode (mC 7) 36 = .ok (.putfield 22, 3) := by decide +kernel
theorem d_X1_pass_39 : decode (mC 7) 39 = .ok (.return_, 1) := by decide +kernel
theorem fi_7_19 : mn_fi 7 1 19 1 2 = true := by decide +kernel
theorem fr_7_9 : mn_fr 7 1 9 1 1 = true := by decide +kernel
theorem fi_7_22 : mn_fi 7 1 22 1 3 = true := by decide +kernel
theorem b_X1_pass_0 {x1 x2 : Int32} {a0 : Nat} {h h' : mn_H} {r : Option Value} (ha0 : mn_isC a0) : mn_E 7 0 [.ref a0, .int x1, .int x2] [] h r h' ↔ if (60 : Int32) ≤ (h a0 2) then mn_E 7 39 [.ref a0, .int x1, .int x2] [] h r h' else mn_E 7 9 [.ref a0, .int x1, .int x2] [] h r h' :=
  (mX_aload_n d_X1_pass_0 rfl).trans <| (mG_i d_X1_pass_1 fi_7_19 (mn_shC0 ha0) (mn_ltC0 ha0)).trans <| (mX_bipush d_X1_pass_4 cb_60).trans <| mX_icmp_ge d_X1_pass_6 rfl
theorem b_X1_pass_9 {x1 x2 : Int32} {a0 : Nat} {h h' : mn_H} {r : Option Value} (ha0 : mn_isC a0) (hy1 : vp_in (h a0 2) 60) : mn_E 7 9 [.ref a0, .int x1, .int x2] [] h r h' ↔ mn_E 7 39 [.ref a0, .int x1, .int x2] [] (mn_up (mn_up (mn_up h (a0 + 1) ((h a0 2).toNatClampNeg) x1) a0 2 (((mn_up h (a0 + 1) ((h a0 2).toNatClampNeg) x1) a0 2) + 1)) a0 3 (((mn_up (mn_up h (a0 + 1) ((h a0 2).toNatClampNeg) x1) a0 2 (((mn_up h (a0 + 1) ((h a0 2).toNatClampNeg) x1) a0 2) + 1)) a0 3) + x2)) r h' :=
  (mX_aload_n d_X1_pass_9 rfl).trans <| (mG_r (b := (a0 + 1)) d_X1_pass_10 fr_7_9 (mn_shC0 ha0) (mn_ltC0 ha0) (mn_rfC1 ha0 _)).trans <| (mX_aload_n d_X1_pass_13 rfl).trans <| (mG_i d_X1_pass_14 fi_7_19 (mn_shC0 ha0) (mn_ltC0 ha0)).trans <| (mX_iload_n d_X1_pass_17 rfl).trans <| (mX_iastore d_X1_pass_18 (mn_shC1 ha0) (mn_ltC ha0 (by decide)) hy1).trans <| (mX_aload_n d_X1_pass_19 rfl).trans <| (mX_dup d_X1_pass_20 rfl).trans <| (mG_i d_X1_pass_21 fi_7_19 (mn_shC0 ha0) (mn_ltC0 ha0)).trans <| (mX_iconst d_X1_pass_24 ci_1).trans <| (mX_iadd d_X1_pass_25).trans <| (mP_i d_X1_pass_26 fi_7_19 (mn_shC0 ha0) (mn_ltC0 ha0) rfl (Or.inl (by decide))).trans <| (mX_aload_n d_X1_pass_29 rfl).trans <| (mX_dup d_X1_pass_30 rfl).trans <| (mG_i d_X1_pass_31 fi_7_22 (mn_shC0 ha0) (mn_ltC0 ha0)).trans <| (mX_iload_n d_X1_pass_34 rfl).trans <| (mX_iadd d_X1_pass_35).trans <| mP_i d_X1_pass_36 fi_7_22 (mn_shC0 ha0) (mn_ltC0 ha0) rfl (Or.inl (by decide))
theorem b_X1_pass_39 {x1 x2 : Int32} {a0 : Nat} {h h' : mn_H} {r : Option Value} (ha0 : mn_isC a0) : mn_E 7 39 [.ref a0, .int x1, .int x2] [] h r h' ↔ r = none ∧ h' = h :=
  mX_vret d_X1_pass_39 rfl
-- X1_takeBack
theorem mo_8 : mO 8 = 1 := rfl
theorem d_X1_takeBack_0 : decode (mC 8) 0 = .ok (.aload_n 0, 1) := by decide +kernel
theorem d_X1_takeBack_1 : decode (mC 8) 1 = .ok (.getfield 19, 3) := by decide +kernel
theorem d_X1_takeBack_4 : decode (mC 8) 4 = .ok (.ifCond .le 23, 3) := by decide +kernel
theorem d_X1_takeBack_7 : decode (mC 8) 7 = .ok (.aload_n 0, 1) := by decide +kernel
theorem d_X1_takeBack_8 : decode (mC 8) 8 = .ok (.dup, 1) := by decide +kernel
theorem d_X1_takeBack_9 : decode (mC 8) 9 = .ok (.getfield 19, 3) := by decide +kernel
theorem d_X1_takeBack_12 : decode (mC 8) 12 = .ok (.iconst 1, 1) := by decide +kernel
theorem d_X1_takeBack_13 : decode (mC 8) 13 = .ok (.isub, 1) := by decide +kernel
theorem d_X1_takeBack_14 : decode (mC 8) 14 = .ok (.putfield 19, 3) := by decide +kernel
theorem d_X1_takeBack_17 : decode (mC 8) 17 = .ok (.aload_n 0, 1) := by decide +kernel
theorem d_X1_takeBack_18 : decode (mC 8) 18 = .ok (.dup, 1) := by decide +kernel
theorem d_X1_takeBack_19 : decode (mC 8) 19 = .ok (.getfield 22, 3) := by decide +kernel
theorem d_X1_takeBack_22 : decode (mC 8) 22 = .ok (.iload_n 1, 1) := by decide +kernel
theorem d_X1_takeBack_23 : decode (mC 8) 23 = .ok (.isub, 1) := by decide +kernel
theorem d_X1_takeBack_24 : decode (mC 8) 24 = .ok (.putfield 22, 3) := by decide +kernel
theorem d_X1_takeBack_27 : decode (mC 8) 27 = .ok (.return_, 1) := by decide +kernel
theorem fi_8_19 : mn_fi 8 1 19 1 2 = true := by decide +kernel
theorem fi_8_22 : mn_fi 8 1 22 1 3 = true := by decide +kernel
theorem b_X1_takeBack_0 {x1 : Int32} {a0 : Nat} {h h' : mn_H} {r : Option Value} (ha0 : mn_isC a0) : mn_E 8 0 [.ref a0, .int x1] [] h r h' ↔ if (h a0 2) ≤ 0 then mn_E 8 27 [.ref a0, .int x1] [] h r h' else mn_E 8 7 [.ref a0, .int x1] [] h r h' :=
  (mX_aload_n d_X1_takeBack_0 rfl).trans <| (mG_i d_X1_takeBack_1 fi_8_19 (mn_shC0 ha0) (mn_ltC0 ha0)).trans <| mX_if_le d_X1_takeBack_4 rfl
theorem b_X1_takeBack_7 {x1 : Int32} {a0 : Nat} {h h' : mn_H} {r : Option Value} (ha0 : mn_isC a0) : mn_E 8 7 [.ref a0, .int x1] [] h r h' ↔ mn_E 8 27 [.ref a0, .int x1] [] (mn_up (mn_up h a0 2 ((h a0 2) - 1)) a0 3 (((mn_up h a0 2 ((h a0 2) - 1)) a0 3) - x1)) r h' :=
  (mX_aload_n d_X1_takeBack_7 rfl).trans <| (mX_dup d_X1_takeBack_8 rfl).trans <| (mG_i d_X1_takeBack_9 fi_8_19 (mn_shC0 ha0) (mn_ltC0 ha0)).trans <| (mX_iconst d_X1_takeBack_12 ci_1).trans <| (mX_isub d_X1_takeBack_13).trans <| (mP_i d_X1_takeBack_14 fi_8_19 (mn_shC0 ha0) (mn_ltC0 ha0) rfl (Or.inl (by decide))).trans <| (mX_aload_n d_X1_takeBack_17 rfl).trans <| (mX_dup d_X1_takeBack_18 rfl).trans <| (mG_i d_X1_takeBack_19 fi_8_22 (mn_shC0 ha0) (mn_ltC0 ha0)).trans <| (mX_iload_n d_X1_takeBack_22 rfl).trans <| (mX_isub d_X1_takeBack_23).trans <| mP_i d_X1_takeBack_24 fi_8_22 (mn_shC0 ha0) (mn_ltC0 ha0) rfl (Or.inl (by decide))
theorem b_X1_takeBack_27 {x1 : Int32} {a0 : Nat} {h h' : mn_H} {r : Option Value} (ha0 : mn_isC a0) : mn_E 8 27 [.ref a0, .int x1] [] h r h' ↔ r = none ∧ h' = h :=
  mX_vret d_X1_takeBack_27 rfl
-- X1_draw
theorem mo_9 : mO 9 = 1 := rfl
theorem d_X1_draw_0 : decode (mC 9) 0 = .ok (.aload_n 0, 1) := by decide +kernel
theorem d_X1_draw_1 : decode (mC 9) 1 = .ok (.aload_n 0, 1) := by decide +kernel
theorem d_X1_draw_2 : decode (mC 9) 2 = .ok (.getfield 37, 3) := by decide +kernel
theorem d_X1_draw_5 : decode (mC 9) 5 = .ok (.i2l, 1) := by decide +kernel
theorem d_X1_draw_6 : decode (mC 9) 6 = .ok (.ldc2_w 40, 3) := by decide +kernel
theorem d_X1_draw_9 : decode (mC 9) 9 = .ok (.lmul, 1) := by decide +kernel
theorem d_X1_draw_10 : decode (mC 9) 10 = .ok (.ldc2_w 42, 3) := by decide +kernel
theorem d_X1_draw_13 : decode (mC 9) 13 = .ok (.ladd, 1) := by decide +kernel
theorem d_X1_draw_14 : decode (mC 9) 14 = .ok (.ldc2_w 44, 3) := by decide +kernel
theorem d_X1_draw_17 : decode (mC 9) 17 = .ok (.land, 1) := by decide +kernel
theorem d_X1_draw_18 : decode (mC 9) 18 = .ok (.l2i, 1) := by decide +kernel
theorem d_X1_draw_19 : decode (mC 9) 19 = .ok (.putfield 37, 3) := by decide +kernel
theorem d_X1_draw_22 : decode (mC 9) 22 = .ok (.iload_n 1, 1) := by decide +kernel
theorem d_X1_draw_23 : decode (mC 9) 23 = .ok (.ifCond .le 15, 3) := by decide +kernel
theorem d_X1_draw_26 : decode (mC 9) 26 = .ok (.aload_n 0, 1) := by decide +kernel
theorem d_X1_draw_27 : decode (mC 9) 27 = .ok (.getfield 37, 3) := by decide +kernel
theorem d_X1_draw_30 : decode (mC 9) 30 = .ok (.ldc 46, 2) := by decide +kernel
theorem d_X1_draw_32 : decode (mC 9) 32 = .ok (.idiv, 1) := by decide +kernel
theorem d_X1_draw_33 : decode (mC 9) 33 = .ok (.iload_n 1, 1) := by decide +kernel
theorem d_X1_draw_34 : decode (mC 9) 34 = .ok (.irem, 1) := by decide +kernel
theorem d_X1_draw_35 : decode (mC 9) 35 = .ok (.goto 4, 3) := by decide +kernel
theorem d_X1_draw_38 : decode (mC 9) 38 = .ok (.iconst 0, 1) := by decide +kernel
theorem d_X1_draw_39 : decode (mC 9) 39 = .ok (.ireturn, 1) := by decide +kernel
theorem fi_9_37 : mn_fi 9 1 37 1 6 = true := by decide +kernel
theorem b_X1_draw_0 {x1 : Int32} {a0 : Nat} {h h' : mn_H} {r : Option Value} (ha0 : mn_isC a0) : mn_E 9 0 [.ref a0, .int x1] [] h r h' ↔ if x1 ≤ 0 then mn_E 9 38 [.ref a0, .int x1] [] (mn_up h a0 6 ((((((h a0 6)).toInt64 * 1103515245) + 12345) &&& 2147483647)).toInt32) r h' else mn_E 9 26 [.ref a0, .int x1] [] (mn_up h a0 6 ((((((h a0 6)).toInt64 * 1103515245) + 12345) &&& 2147483647)).toInt32) r h' :=
  (mX_aload_n d_X1_draw_0 rfl).trans <| (mX_aload_n d_X1_draw_1 rfl).trans <| (mG_i d_X1_draw_2 fi_9_37 (mn_shC0 ha0) (mn_ltC0 ha0)).trans <| (mX_i2l d_X1_draw_5).trans <| (mX_ldc2 d_X1_draw_6 mo_9 kl_1_40).trans <| (mX_lmul d_X1_draw_9).trans <| (mX_ldc2 d_X1_draw_10 mo_9 kl_1_42).trans <| (mX_ladd d_X1_draw_13).trans <| (mX_ldc2 d_X1_draw_14 mo_9 kl_1_44).trans <| (mX_land d_X1_draw_17).trans <| (mX_l2i d_X1_draw_18).trans <| (mP_i d_X1_draw_19 fi_9_37 (mn_shC0 ha0) (mn_ltC0 ha0) rfl (Or.inl (by decide))).trans <| (mX_iload_n d_X1_draw_22 rfl).trans <| mX_if_le d_X1_draw_23 rfl
theorem b_X1_draw_26 {x1 : Int32} {a0 : Nat} {h h' : mn_H} {r : Option Value} (ha0 : mn_isC a0) (hy1 : ¬ x1 = 0) : mn_E 9 26 [.ref a0, .int x1] [] h r h' ↔ mn_E 9 39 [.ref a0, .int x1] [.int (((h a0 6) / 65536) - ((h a0 6) / 65536) / x1 * x1)] h r h' :=
  (mX_aload_n d_X1_draw_26 rfl).trans <| (mG_i d_X1_draw_27 fi_9_37 (mn_shC0 ha0) (mn_ltC0 ha0)).trans <| (mX_ldc d_X1_draw_30 mo_9 kc_1_46 (by decide)).trans <| (mX_idiv d_X1_draw_32 (by decide)).trans <| (mX_iload_n d_X1_draw_33 rfl).trans <| (mX_irem d_X1_draw_34 hy1).trans <| mX_goto d_X1_draw_35 rfl
theorem b_X1_draw_38 {x1 : Int32} {a0 : Nat} {h h' : mn_H} {r : Option Value} (ha0 : mn_isC a0) : mn_E 9 38 [.ref a0, .int x1] [] h r h' ↔ mn_E 9 39 [.ref a0, .int x1] [.int 0] h r h' :=
  mX_iconst d_X1_draw_38 ci_0
theorem b_X1_draw_39 {x1 s0 : Int32} {a0 : Nat} {h h' : mn_H} {r : Option Value} (ha0 : mn_isC a0) : mn_E 9 39 [.ref a0, .int x1] [.int s0] h r h' ↔ r = some (.int s0) ∧ h' = h :=
  mX_iret d_X1_draw_39 rfl
-- X2_letters
theorem mo_10 : mO 10 = 2 := rfl
theorem d_X2_letters_0 : decode (mC 10) 0 = .ok (.aload_n 0, 1) := by decide +kernel
theorem d_X2_letters_1 : decode (mC 10) 1 = .ok (.getfield 19, 3) := by decide +kernel
theorem d_X2_letters_4 : decode (mC 10) 4 = .ok (.ireturn, 1) := by decide +kernel
theorem fi_10_19 : mn_fi 10 2 19 2 1 = true := by decide +kernel
theorem b_X2_letters_0 {h h' : mn_H} {r : Option Value} : mn_E 10 0 [.ref 1] [] h r h' ↔ r = some (.int (h 1 1)) ∧ h' = h :=
  (mX_aload_n d_X2_letters_0 rfl).trans <| (mG_i d_X2_letters_1 fi_10_19 rfl (by decide)).trans <| mX_iret d_X2_letters_4 rfl
-- X2_faultAt
theorem mo_11 : mO 11 = 2 := rfl
theorem d_X2_faultAt_0 : decode (mC 11) 0 = .ok (.aload_n 0, 1) := by decide +kernel
theorem d_X2_faultAt_1 : decode (mC 11) 1 = .ok (.getfield 15, 3) := by decide +kernel
theorem d_X2_faultAt_4 : decode (mC 11) 4 = .ok (.ireturn, 1) := by decide +kernel
theorem fi_11_15 : mn_fi 11 2 15 2 5 = true := by decide +kernel
theorem b_X2_faultAt_0 {h h' : mn_H} {r : Option Value} : mn_E 11 0 [.ref 1] [] h r h' ↔ r = some (.int (h 1 5)) ∧ h' = h :=
  (mX_aload_n d_X2_faultAt_0 rfl).trans <| (mG_i d_X2_faultAt_1 fi_11_15 rfl (by decide)).trans <| mX_iret d_X2_faultAt_4 rfl
-- X2_append
theorem mo_12 : mO 12 = 2 := rfl
theorem d_X2_append_0 : decode (mC 12) 0 = .ok (.aload_n 0, 1) := by decide +kernel
theorem d_X2_append_1 : decode (mC 12) 1 = .ok (.getfield 19, 3) := by decide +kernel
theorem d_X2_append_4 : decode (mC 12) 4 = .ok (.sipush 250, 3) := by decide +kernel
theorem d_X2_append_7 : decode (mC 12) 7 = .ok (.if_icmp .lt 5, 3) := by decide +kernel
theorem d_X2_append_10 : decode (mC 12) 10 = .ok (.iconst 0, 1) := by decide +kernel
theorem d_X2_append_11 : decode (mC 12) 11 = .ok (.ireturn, 1) := by decide +kernel
theorem d_X2_append_12 : decode (mC 12) 12 = .ok (.aload_n 0, 1) := by decide +kernel
theorem d_X2_append_13 : decode (mC 12) 13 = .ok (.getfield 9, 3) := by decide +kernel
theorem d_X2_append_16 : decode (mC 12) 16 = .ok (.aload_n 0, 1) := by decide +kernel
theorem d_X2_append_17 : decode (mC 12) 17 = .ok (.getfield 19, 3) := by decide +kernel
theorem d_X2_append_20 : decode (mC 12) 20 = .ok (.iload_n 1, 1) := by decide +kernel
theorem d_X2_append_21 : decode (mC 12) 21 = .ok (.iastore, 1) := by decide +kernel
theorem d_X2_append_22 : decode (mC 12) 22 = .ok (.aload_n 0, 1) := by decide +kernel
theorem d_X2_append_23 : decode (mC 12) 23 = .ok (.dup, 1) := by decide +kernel
theorem d_X2_append_24 : decode (mC 12) 24 = .ok (.getfield 19, 3) := by decide +kernel
theorem d_X2_append_27 : decode (mC 12) 27 = .ok (.iconst 1, 1) := by decide +kernel
theorem d_X2_append_28 : decode (mC 12) 28 = .ok (.iadd, 1) := by decide +kernel
theorem d_X2_append_29 : decode (mC 12) 29 = .ok (.putfield 19, 3) := by decide +kernel
theorem d_X2_append_32 : decode (mC 12) 32 = .ok (.iconst 1, 1) := by decide +kernel
theorem d_X2_append_33 : decode (mC 12) 33 = .ok (.ireturn, 1) := by decide +kernel
theorem fi_12_19 : mn_fi 12 2 19 2 1 = true := by decide +kernel
theorem fr_12_9 : mn_fr 12 2 9 2 0 = true := by decide +kernel
theorem b_X2_append_0 {x1 : Int32} {h h' : mn_H} {r : Option Value} : mn_E 12 0 [.ref 1, .int x1] [] h r h' ↔ if (h 1 1) < 250 then mn_E 12 12 [.ref 1, .int x1] [] h r h' else mn_E 12 10 [.ref 1, .int x1] [] h r h' :=
  (mX_aload_n d_X2_append_0 rfl).trans <| (mG_i d_X2_append_1 fi_12_19 rfl (by decide)).trans <| (mX_sipush d_X2_append_4 cs_250).trans <| mX_icmp_lt d_X2_append_7 rfl
theorem b_X2_append_10 {x1 : Int32} {h h' : mn_H} {r : Option Value} : mn_E 12 10 [.ref 1, .int x1] [] h r h' ↔ r = some (.int 0) ∧ h' = h :=
  (mX_iconst d_X2_append_10 ci_0).trans <| mX_zret d_X2_append_11 rfl (by decide)
theorem b_X2_append_12 {x1 : Int32} {h h' : mn_H} {r : Option Value} (hy0 : vp_in (h 1 1) 250) : mn_E 12 12 [.ref 1, .int x1] [] h r h' ↔ r = some (.int 1) ∧ h' = mn_up (mn_up h 2 ((h 1 1).toNatClampNeg) x1) 1 1 (((mn_up h 2 ((h 1 1).toNatClampNeg) x1) 1 1) + 1) :=
  (mX_aload_n d_X2_append_12 rfl).trans <| (mG_r (b := 2) d_X2_append_13 fr_12_9 rfl (by decide) rfl).trans <| (mX_aload_n d_X2_append_16 rfl).trans <| (mG_i d_X2_append_17 fi_12_19 rfl (by decide)).trans <| (mX_iload_n d_X2_append_20 rfl).trans <| (mX_iastore d_X2_append_21 rfl (by decide) hy0).trans <| (mX_aload_n d_X2_append_22 rfl).trans <| (mX_dup d_X2_append_23 rfl).trans <| (mG_i d_X2_append_24 fi_12_19 rfl (by decide)).trans <| (mX_iconst d_X2_append_27 ci_1).trans <| (mX_iadd d_X2_append_28).trans <| (mP_i d_X2_append_29 fi_12_19 rfl (by decide) rfl (Or.inl (by decide))).trans <| (mX_iconst d_X2_append_32 ci_1).trans <| mX_zret d_X2_append_33 rfl (by decide)
-- X2_readInto
theorem mo_13 : mO 13 = 2 := rfl
theorem d_X2_readInto_0 : decode (mC 13) 0 = .ok (.aload_n 1, 1) := by decide +kernel
theorem d_X2_readInto_1 : decode (mC 13) 1 = .ok (.invokevirtual 22, 3) := by decide +kernel
theorem d_X2_readInto_4 : decode (mC 13) 4 = .ok (.aload_n 0, 1) := by decide +kernel
theorem d_X2_readInto_5 : decode (mC 13) 5 = .ok (.iconst 0, 1) := by decide +kernel
theorem d_X2_readInto_6 : decode (mC 13) 6 = .ok (.putfield 27, 3) := by decide +kernel
theorem d_X2_readInto_9 : decode (mC 13) 9 = .ok (.aload_n 0, 1) := by decide +kernel
theorem d_X2_readInto_10 : decode (mC 13) 10 = .ok (.iconst 0, 1) := by decide +kernel
theorem d_X2_readInto_11 : decode (mC 13) 11 = .ok (.putfield 30, 3) := by decide +kernel
theorem d_X2_readInto_14 : decode (mC 13) 14 = .ok (.aload_n 0, 1) := by decide +kernel
theorem d_X2_readInto_15 : decode (mC 13) 15 = .ok (.iconst (-1), 1) := by decide +kernel
theorem d_X2_readInto_16 : decode (mC 13) 16 = .ok (.putfield 15, 3) := by decide +kernel
theorem d_X2_readInto_19 : decode (mC 13) 19 = .ok (.aload_n 0, 1) := by decide +kernel
theorem d_X2_readInto_20 : decode (mC 13) 20 = .ok (.invokevirtual 33, 3) := by decide +kernel
theorem d_X2_readInto_23 : decode (mC 13) 23 = .ok (.iconst 0, 1) := by decide +kernel
theorem d_X2_readInto_24 : decode (mC 13) 24 = .ok (.istore_n 2, 1) := by decide +kernel
theorem d_X2_readInto_25 : decode (mC 13) 25 = .ok (.iload_n 2, 1) := by decide +kernel
theorem d_X2_readInto_26 : decode (mC 13) 26 = .ok (.sipush 250, 3) := by decide +kernel
theorem d_X2_readInto_29 : decode (mC 13) 29 = .ok (.if_icmp .ge 36, 3) := by decide +kernel
theorem d_X2_readInto_32 : decode (mC 13) 32 = .ok (.aload_n 0, 1) := by decide +kernel
theorem d_X2_readInto_33 : decode (mC 13) 33 = .ok (.getfield 27, 3) := by decide +kernel
theorem d_X2_readInto_36 : decode (mC 13) 36 = .ok (.aload_n 0, 1) := by decide +kernel
theorem d_X2_readInto_37 : decode (mC 13) 37 = .ok (.getfield 19, 3) := by decide +kernel
theorem d_X2_readInto_40 : decode (mC 13) 40 = .ok (.if_icmp .ge 25, 3) := by decide +kernel
theorem d_X2_readInto_43 : decode (mC 13) 43 = .ok (.aload_n 0, 1) := by decide +kernel
theorem d_X2_readInto_44 : decode (mC 13) 44 = .ok (.getfield 30, 3) := by decide +kernel
theorem d_X2_readInto_47 : decode (mC 13) 47 = .ok (.ifCond .ne 18, 3) := by decide +kernel
theorem d_X2_readInto_50 : decode (mC 13) 50 = .ok (.aload_n 0, 1) := by decide +kernel
theorem d_X2_readInto_51 : decode (mC 13) 51 = .ok (.aload_n 1, 1) := by decide +kernel
theorem d_X2_readInto_52 : decode (mC 13) 52 = .ok (.invokevirtual 36, 3) := by decide +kernel
theorem d_X2_readInto_55 : decode (mC 13) 55 = .ok (.aload_n 0, 1) := by decide +kernel
theorem d_X2_readInto_56 : decode (mC 13) 56 = .ok (.invokevirtual 33, 3) := by decide +kernel
theorem d_X2_readInto_59 : decode (mC 13) 59 = .ok (.iinc 2 1, 3) := by decide +kernel
theorem d_X2_readInto_62 : decode (mC 13) 62 = .ok (.goto (-37), 3) := by decide +kernel
theorem d_X2_readInto_65 : decode (mC 13) 65 = .ok (.aload_n 0, 1) := by decide +kernel
theorem d_X2_readInto_66 : decode (mC 13) 66 = .ok (.iconst 0, 1) := by decide +kernel
theorem d_X2_readInto_67 : decode (mC 13) 67 = .ok (.putfield 19, 3) := by decide +kernel
theorem d_X2_readInto_70 : decode (mC 13) 70 = .ok (.aload_n 0, 1) := by decide +kernel
theorem d_X2_readInto_71 : decode (mC 13) 71 = .ok (.getfield 30, 3) := by decide +kernel
theorem d_X2_readInto_74 : decode (mC 13) 74 = .ok (.ireturn, 1) := by decide +kernel
theorem cv_13_22 : mn_cvt 13 2 22 41 = true := by decide +kernel
theorem fi_13_27 : mn_fi 13 2 27 2 2 = true := by decide +kernel
theorem fi_13_30 : mn_fi 13 2 30 2 4 = true := by decide +kernel
theorem fi_13_15 : mn_fi 13 2 15 2 5 = true := by decide +kernel
theorem cv_13_33 : mn_cvt 13 2 33 23 = true := by decide +kernel
theorem fi_13_19 : mn_fi 13 2 19 2 1 = true := by decide +kernel
theorem cv_13_36 : mn_cvt 13 2 36 14 = true := by decide +kernel
theorem b_X2_readInto_0 {a1 : Nat} {h h' : mn_H} {r : Option Value} (ha1 : mn_isT a1) : mn_E 13 0 [.ref 1, .ref a1, .null] [] h r h' ↔ ∃ h1, mn_X 41 [.ref a1] h none h1 ∧ mn_E 13 4 [.ref 1, .ref a1, .null] [] h1 r h' :=
  (mX_aload_n d_X2_readInto_0 rfl).trans <| mV_v (a := a1) (vs := []) (st' := []) d_X2_readInto_1 cv_13_22 rfl (Nat.le_of_ble_eq_true rfl) rfl rfl (mn_shT0 ha1) rfl
theorem b_X2_readInto_4 {a1 : Nat} {h h' : mn_H} {r : Option Value} (ha1 : mn_isT a1) : mn_E 13 4 [.ref 1, .ref a1, .null] [] h r h' ↔ ∃ h1, mn_X 23 [.ref 1] (mn_up (mn_up (mn_up h 1 2 0) 1 4 0) 1 5 (-1)) none h1 ∧ mn_E 13 23 [.ref 1, .ref a1, .null] [] h1 r h' :=
  (mX_aload_n d_X2_readInto_4 rfl).trans <| (mX_iconst d_X2_readInto_5 ci_0).trans <| (mP_i d_X2_readInto_6 fi_13_27 rfl (by decide) rfl (Or.inl (by decide))).trans <| (mX_aload_n d_X2_readInto_9 rfl).trans <| (mX_iconst d_X2_readInto_10 ci_0).trans <| (mP_i d_X2_readInto_11 fi_13_30 rfl (by decide) rfl (Or.inl (by decide))).trans <| (mX_aload_n d_X2_readInto_14 rfl).trans <| (mX_iconst d_X2_readInto_15 ci_m1).trans <| (mP_i d_X2_readInto_16 fi_13_15 rfl (by decide) rfl (Or.inl (by decide))).trans <| (mX_aload_n d_X2_readInto_19 rfl).trans <| mV_v (a := 1) (vs := []) (st' := []) d_X2_readInto_20 cv_13_33 rfl (Nat.le_of_ble_eq_true rfl) rfl rfl rfl rfl
theorem b_X2_readInto_23 {a1 : Nat} {h h' : mn_H} {r : Option Value} (ha1 : mn_isT a1) : mn_E 13 23 [.ref 1, .ref a1, .null] [] h r h' ↔ mn_E 13 25 [.ref 1, .ref a1, .int 0] [] h r h' :=
  (mX_iconst d_X2_readInto_23 ci_0).trans <| mX_istore_n (ls' := [.ref 1, .ref a1, .int 0]) d_X2_readInto_24 rfl rfl
theorem b_X2_readInto_25 {x2 : Int32} {a1 : Nat} {h h' : mn_H} {r : Option Value} (ha1 : mn_isT a1) : mn_E 13 25 [.ref 1, .ref a1, .int x2] [] h r h' ↔ if (250 : Int32) ≤ x2 then mn_E 13 65 [.ref 1, .ref a1, .int x2] [] h r h' else mn_E 13 32 [.ref 1, .ref a1, .int x2] [] h r h' :=
  (mX_iload_n d_X2_readInto_25 rfl).trans <| (mX_sipush d_X2_readInto_26 cs_250).trans <| mX_icmp_ge d_X2_readInto_29 rfl
theorem b_X2_readInto_32 {x2 : Int32} {a1 : Nat} {h h' : mn_H} {r : Option Value} (ha1 : mn_isT a1) : mn_E 13 32 [.ref 1, .ref a1, .int x2] [] h r h' ↔ if (h 1 1) ≤ (h 1 2) then mn_E 13 65 [.ref 1, .ref a1, .int x2] [] h r h' else mn_E 13 43 [.ref 1, .ref a1, .int x2] [] h r h' :=
  (mX_aload_n d_X2_readInto_32 rfl).trans <| (mG_i d_X2_readInto_33 fi_13_27 rfl (by decide)).trans <| (mX_aload_n d_X2_readInto_36 rfl).trans <| (mG_i d_X2_readInto_37 fi_13_19 rfl (by decide)).trans <| mX_icmp_ge d_X2_readInto_40 rfl
theorem b_X2_readInto_43 {x2 : Int32} {a1 : Nat} {h h' : mn_H} {r : Option Value} (ha1 : mn_isT a1) : mn_E 13 43 [.ref 1, .ref a1, .int x2] [] h r h' ↔ if ¬ (h 1 4) = 0 then mn_E 13 65 [.ref 1, .ref a1, .int x2] [] h r h' else mn_E 13 50 [.ref 1, .ref a1, .int x2] [] h r h' :=
  (mX_aload_n d_X2_readInto_43 rfl).trans <| (mG_i d_X2_readInto_44 fi_13_30 rfl (by decide)).trans <| mX_if_ne d_X2_readInto_47 rfl
theorem b_X2_readInto_50 {x2 : Int32} {a1 : Nat} {h h' : mn_H} {r : Option Value} (ha1 : mn_isT a1) : mn_E 13 50 [.ref 1, .ref a1, .int x2] [] h r h' ↔ ∃ h1, mn_X 14 [.ref 1, .ref a1] h none h1 ∧ mn_E 13 55 [.ref 1, .ref a1, .int x2] [] h1 r h' :=
  (mX_aload_n d_X2_readInto_50 rfl).trans <| (mX_aload_n d_X2_readInto_51 rfl).trans <| mV_v (a := 1) (vs := [.ref a1]) (st' := []) d_X2_readInto_52 cv_13_36 rfl (Nat.le_of_ble_eq_true rfl) rfl rfl rfl rfl
theorem b_X2_readInto_55 {x2 : Int32} {a1 : Nat} {h h' : mn_H} {r : Option Value} (ha1 : mn_isT a1) : mn_E 13 55 [.ref 1, .ref a1, .int x2] [] h r h' ↔ ∃ h1, mn_X 23 [.ref 1] h none h1 ∧ mn_E 13 59 [.ref 1, .ref a1, .int x2] [] h1 r h' :=
  (mX_aload_n d_X2_readInto_55 rfl).trans <| mV_v (a := 1) (vs := []) (st' := []) d_X2_readInto_56 cv_13_33 rfl (Nat.le_of_ble_eq_true rfl) rfl rfl rfl rfl
theorem b_X2_readInto_59 {x2 : Int32} {a1 : Nat} {h h' : mn_H} {r : Option Value} (ha1 : mn_isT a1) : mn_E 13 59 [.ref 1, .ref a1, .int x2] [] h r h' ↔ mn_E 13 25 [.ref 1, .ref a1, .int (x2 + 1)] [] h r h' :=
  (mX_iinc (ls' := [.ref 1, .ref a1, .int (x2 + 1)]) d_X2_readInto_59 rfl ci_1 rfl rfl).trans <| mX_goto d_X2_readInto_62 rfl
theorem b_X2_readInto_65 {x2 : Int32} {a1 : Nat} {h h' : mn_H} {r : Option Value} (ha1 : mn_isT a1) : mn_E 13 65 [.ref 1, .ref a1, .int x2] [] h r h' ↔ r = some (.int ((mn_up h 1 1 0) 1 4)) ∧ h' = mn_up h 1 1 0 :=
  (mX_aload_n d_X2_readInto_65 rfl).trans <| (mX_iconst d_X2_readInto_66 ci_0).trans <| (mP_i d_X2_readInto_67 fi_13_19 rfl (by decide) rfl (Or.inl (by decide))).trans <| (mX_aload_n d_X2_readInto_70 rfl).trans <| (mG_i d_X2_readInto_71 fi_13_30 rfl (by decide)).trans <| mX_iret d_X2_readInto_74 rfl
-- X2_readClause
theorem mo_14 : mO 14 = 2 := rfl
theorem d_X2_readClause_0 : decode (mC 14) 0 = .ok (.aload_n 0, 1) := by decide +kernel
theorem d_X2_readClause_1 : decode (mC 14) 1 = .ok (.getfield 27, 3) := by decide +kernel
theorem d_X2_readClause_4 : decode (mC 14) 4 = .ok (.istore_n 2, 1) := by decide +kernel
theorem d_X2_readClause_5 : decode (mC 14) 5 = .ok (.aload_n 0, 1) := by decide +kernel
theorem d_X2_readClause_6 : decode (mC 14) 6 = .ok (.getfield 9, 3) := by decide +kernel
theorem d_X2_readClause_9 : decode (mC 14) 9 = .ok (.aload_n 0, 1) := by decide +kernel
theorem d_X2_readClause_10 : decode (mC 14) 10 = .ok (.getfield 27, 3) := by decide +kernel
theorem d_X2_readClause_13 : decode (mC 14) 13 = .ok (.iaload, 1) := by decide +kernel
theorem d_X2_readClause_14 : decode (mC 14) 14 = .ok (.istore_n 3, 1) := by decide +kernel
theorem d_X2_readClause_15 : decode (mC 14) 15 = .ok (.aload_n 0, 1) := by decide +kernel
theorem d_X2_readClause_16 : decode (mC 14) 16 = .ok (.dup, 1) := by decide +kernel
theorem d_X2_readClause_17 : decode (mC 14) 17 = .ok (.getfield 27, 3) := by decide +kernel
theorem d_X2_readClause_20 : decode (mC 14) 20 = .ok (.iconst 1, 1) := by decide +kernel
theorem d_X2_readClause_21 : decode (mC 14) 21 = .ok (.iadd, 1) := by decide +kernel
theorem d_X2_readClause_22 : decode (mC 14) 22 = .ok (.putfield 27, 3) := by decide +kernel
theorem d_X2_readClause_25 : decode (mC 14) 25 = .ok (.iload_n 3, 1) := by decide +kernel
theorem d_X2_readClause_26 : decode (mC 14) 26 = .ok (.tableswitch 145 98 115 #[86, 145, 145, 145, 145, 95, 137, 145, 145, 145, 145, 145, 128, 145, 145, 145, 104, 116], 86) := by decide +kernel
theorem d_X2_readClause_112 : decode (mC 14) 112 = .ok (.aload_n 0, 1) := by decide +kernel
theorem d_X2_readClause_113 : decode (mC 14) 113 = .ok (.aload_n 1, 1) := by decide +kernel
theorem d_X2_readClause_114 : decode (mC 14) 114 = .ok (.iload_n 2, 1) := by decide +kernel
theorem d_X2_readClause_115 : decode (mC 14) 115 = .ok (.invokevirtual 40, 3) := by decide +kernel
theorem d_X2_readClause_118 : decode (mC 14) 118 = .ok (.goto 59, 3) := by decide +kernel
theorem d_X2_readClause_121 : decode (mC 14) 121 = .ok (.aload_n 0, 1) := by decide +kernel
theorem d_X2_readClause_122 : decode (mC 14) 122 = .ok (.aload_n 1, 1) := by decide +kernel
theorem d_X2_readClause_123 : decode (mC 14) 123 = .ok (.iload_n 2, 1) := by decide +kernel
theorem d_X2_readClause_124 : decode (mC 14) 124 = .ok (.invokevirtual 44, 3) := by decide +kernel
theorem d_X2_readClause_127 : decode (mC 14) 127 = .ok (.goto 50, 3) := by decide +kernel
theorem d_X2_readClause_130 : decode (mC 14) 130 = .ok (.aload_n 0, 1) := by decide +kernel
theorem d_X2_readClause_131 : decode (mC 14) 131 = .ok (.aload_n 1, 1) := by decide +kernel
theorem d_X2_readClause_132 : decode (mC 14) 132 = .ok (.getfield 47, 3) := by decide +kernel
theorem d_X2_readClause_135 : decode (mC 14) 135 = .ok (.iload_n 2, 1) := by decide +kernel
theorem d_X2_readClause_136 : decode (mC 14) 136 = .ok (.invokevirtual 51, 3) := by decide +kernel
theorem d_X2_readClause_139 : decode (mC 14) 139 = .ok (.goto 38, 3) := by decide +kernel
theorem d_X2_readClause_142 : decode (mC 14) 142 = .ok (.aload_n 0, 1) := by decide +kernel
theorem d_X2_readClause_143 : decode (mC 14) 143 = .ok (.aload_n 1, 1) := by decide +kernel
theorem d_X2_readClause_144 : decode (mC 14) 144 = .ok (.getfield 55, 3) := by decide +kernel
theorem d_X2_readClause_147 : decode (mC 14) 147 = .ok (.iload_n 2, 1) := by decide +kernel
theorem d_X2_readClause_148 : decode (mC 14) 148 = .ok (.invokevirtual 51, 3) := by decide +kernel
theorem d_X2_readClause_151 : decode (mC 14) 151 = .ok (.goto 26, 3) := by decide +kernel
theorem d_X2_readClause_154 : decode (mC 14) 154 = .ok (.aload_n 0, 1) := by decide +kernel
theorem d_X2_readClause_155 : decode (mC 14) 155 = .ok (.aload_n 1, 1) := by decide +kernel
theorem d_X2_readClause_156 : decode (mC 14) 156 = .ok (.iload_n 2, 1) := by decide +kernel
theorem d_X2_readClause_157 : decode (mC 14) 157 = .ok (.invokevirtual 58, 3) := by decide +kernel
theorem d_X2_readClause_160 : decode (mC 14) 160 = .ok (.goto 17, 3) := by decide +kernel
theorem d_X2_readClause_163 : decode (mC 14) 163 = .ok (.aload_n 0, 1) := by decide +kernel
theorem d_X2_readClause_164 : decode (mC 14) 164 = .ok (.aload_n 1, 1) := by decide +kernel
theorem d_X2_readClause_165 : decode (mC 14) 165 = .ok (.invokevirtual 61, 3) := by decide +kernel
theorem d_X2_readClause_168 : decode (mC 14) 168 = .ok (.goto 9, 3) := by decide +kernel
theorem d_X2_readClause_171 : decode (mC 14) 171 = .ok (.aload_n 0, 1) := by decide +kernel
theorem d_X2_readClause_172 : decode (mC 14) 172 = .ok (.iconst 1, 1) := by decide +kernel
theorem d_X2_readClause_173 : decode (mC 14) 173 = .ok (.iload_n 2, 1) := by decide +kernel
theorem d_X2_readClause_174 : decode (mC 14) 174 = .ok (.invokevirtual 64, 3) := by decide +kernel
theorem d_X2_readClause_177 : decode (mC 14) 177 = .ok (.return_, 1) := by decide +kernel
theorem fi_14_27 : mn_fi 14 2 27 2 2 = true := by decide +kernel
theorem fr_14_9 : mn_fr 14 2 9 2 0 = true := by decide +kernel
theorem fr_14_55 : mn_fr 14 2 55 5 10 = true := by decide +kernel
theorem cv_14_51 : mn_cvt 14 2 51 17 = true := by decide +kernel
theorem fr_14_47 : mn_fr 14 2 47 5 9 = true := by decide +kernel
theorem cv_14_58 : mn_cvt 14 2 58 18 = true := by decide +kernel
theorem cv_14_61 : mn_cvt 14 2 61 19 = true := by decide +kernel
theorem cv_14_44 : mn_cvt 14 2 44 16 = true := by decide +kernel
theorem cv_14_40 : mn_cvt 14 2 40 15 = true := by decide +kernel
theorem cv_14_64 : mn_cvt 14 2 64 24 = true := by decide +kernel
theorem b_X2_readClause_0 {a1 : Nat} {h h' : mn_H} {r : Option Value} (ha1 : mn_isT a1) (hy1 : vp_in (h 1 2) 250) : mn_E 14 0 [.ref 1, .ref a1, .null, .null] [] h r h' ↔ mn_E 14 26 [.ref 1, .ref a1, .int (h 1 2), .int (h 2 (h 1 2).toNatClampNeg)] [.int (h 2 (h 1 2).toNatClampNeg)] (mn_up h 1 2 ((h 1 2) + 1)) r h' :=
  (mX_aload_n d_X2_readClause_0 rfl).trans <| (mG_i d_X2_readClause_1 fi_14_27 rfl (by decide)).trans <| (mX_istore_n (ls' := [.ref 1, .ref a1, .int (h 1 2), .null]) d_X2_readClause_4 rfl rfl).trans <| (mX_aload_n d_X2_readClause_5 rfl).trans <| (mG_r (b := 2) d_X2_readClause_6 fr_14_9 rfl (by decide) rfl).trans <| (mX_aload_n d_X2_readClause_9 rfl).trans <| (mG_i d_X2_readClause_10 fi_14_27 rfl (by decide)).trans <| (mX_iaload d_X2_readClause_13 rfl (by decide) hy1).trans <| (mX_istore_n (ls' := [.ref 1, .ref a1, .int (h 1 2), .int (h 2 (h 1 2).toNatClampNeg)]) d_X2_readClause_14 rfl rfl).trans <| (mX_aload_n d_X2_readClause_15 rfl).trans <| (mX_dup d_X2_readClause_16 rfl).trans <| (mG_i d_X2_readClause_17 fi_14_27 rfl (by decide)).trans <| (mX_iconst d_X2_readClause_20 ci_1).trans <| (mX_iadd d_X2_readClause_21).trans <| (mP_i d_X2_readClause_22 fi_14_27 rfl (by decide) rfl (Or.inl (by decide))).trans <| mX_iload_n d_X2_readClause_25 rfl
theorem b_X2_readClause_26_d {x2 x3 s0 : Int32} {a1 : Nat} {h h' : mn_H} {r : Option Value} (ha1 : mn_isT a1) (hx : s0.toInt < 98 ∨ 115 < s0.toInt) : mn_E 14 26 [.ref 1, .ref a1, .int x2, .int x3] [.int s0] h r h' ↔ mn_E 14 171 [.ref 1, .ref a1, .int x2, .int x3] [] h r h' :=
  mX_tsw d_X2_readClause_26 rfl (by unfold mn_tsw; rw [if_pos hx]; rfl)
theorem b_X2_readClause_26_98 {x2 x3 : Int32} {a1 : Nat} {h h' : mn_H} {r : Option Value} (ha1 : mn_isT a1) : mn_E 14 26 [.ref 1, .ref a1, .int x2, .int x3] [.int 98] h r h' ↔ mn_E 14 112 [.ref 1, .ref a1, .int x2, .int x3] [] h r h' :=
  mX_tsw d_X2_readClause_26 rfl (by decide)
theorem b_X2_readClause_26_99 {x2 x3 : Int32} {a1 : Nat} {h h' : mn_H} {r : Option Value} (ha1 : mn_isT a1) : mn_E 14 26 [.ref 1, .ref a1, .int x2, .int x3] [.int 99] h r h' ↔ mn_E 14 171 [.ref 1, .ref a1, .int x2, .int x3] [] h r h' :=
  mX_tsw d_X2_readClause_26 rfl (by decide)
theorem b_X2_readClause_26_100 {x2 x3 : Int32} {a1 : Nat} {h h' : mn_H} {r : Option Value} (ha1 : mn_isT a1) : mn_E 14 26 [.ref 1, .ref a1, .int x2, .int x3] [.int 100] h r h' ↔ mn_E 14 171 [.ref 1, .ref a1, .int x2, .int x3] [] h r h' :=
  mX_tsw d_X2_readClause_26 rfl (by decide)
theorem b_X2_readClause_26_101 {x2 x3 : Int32} {a1 : Nat} {h h' : mn_H} {r : Option Value} (ha1 : mn_isT a1) : mn_E 14 26 [.ref 1, .ref a1, .int x2, .int x3] [.int 101] h r h' ↔ mn_E 14 171 [.ref 1, .ref a1, .int x2, .int x3] [] h r h' :=
  mX_tsw d_X2_readClause_26 rfl (by decide)
theorem b_X2_readClause_26_102 {x2 x3 : Int32} {a1 : Nat} {h h' : mn_H} {r : Option Value} (ha1 : mn_isT a1) : mn_E 14 26 [.ref 1, .ref a1, .int x2, .int x3] [.int 102] h r h' ↔ mn_E 14 171 [.ref 1, .ref a1, .int x2, .int x3] [] h r h' :=
  mX_tsw d_X2_readClause_26 rfl (by decide)
theorem b_X2_readClause_26_103 {x2 x3 : Int32} {a1 : Nat} {h h' : mn_H} {r : Option Value} (ha1 : mn_isT a1) : mn_E 14 26 [.ref 1, .ref a1, .int x2, .int x3] [.int 103] h r h' ↔ mn_E 14 121 [.ref 1, .ref a1, .int x2, .int x3] [] h r h' :=
  mX_tsw d_X2_readClause_26 rfl (by decide)
theorem b_X2_readClause_26_104 {x2 x3 : Int32} {a1 : Nat} {h h' : mn_H} {r : Option Value} (ha1 : mn_isT a1) : mn_E 14 26 [.ref 1, .ref a1, .int x2, .int x3] [.int 104] h r h' ↔ mn_E 14 163 [.ref 1, .ref a1, .int x2, .int x3] [] h r h' :=
  mX_tsw d_X2_readClause_26 rfl (by decide)
theorem b_X2_readClause_26_105 {x2 x3 : Int32} {a1 : Nat} {h h' : mn_H} {r : Option Value} (ha1 : mn_isT a1) : mn_E 14 26 [.ref 1, .ref a1, .int x2, .int x3] [.int 105] h r h' ↔ mn_E 14 171 [.ref 1, .ref a1, .int x2, .int x3] [] h r h' :=
  mX_tsw d_X2_readClause_26 rfl (by decide)
theorem b_X2_readClause_26_106 {x2 x3 : Int32} {a1 : Nat} {h h' : mn_H} {r : Option Value} (ha1 : mn_isT a1) : mn_E 14 26 [.ref 1, .ref a1, .int x2, .int x3] [.int 106] h r h' ↔ mn_E 14 171 [.ref 1, .ref a1, .int x2, .int x3] [] h r h' :=
  mX_tsw d_X2_readClause_26 rfl (by decide)
theorem b_X2_readClause_26_107 {x2 x3 : Int32} {a1 : Nat} {h h' : mn_H} {r : Option Value} (ha1 : mn_isT a1) : mn_E 14 26 [.ref 1, .ref a1, .int x2, .int x3] [.int 107] h r h' ↔ mn_E 14 171 [.ref 1, .ref a1, .int x2, .int x3] [] h r h' :=
  mX_tsw d_X2_readClause_26 rfl (by decide)
theorem b_X2_readClause_26_108 {x2 x3 : Int32} {a1 : Nat} {h h' : mn_H} {r : Option Value} (ha1 : mn_isT a1) : mn_E 14 26 [.ref 1, .ref a1, .int x2, .int x3] [.int 108] h r h' ↔ mn_E 14 171 [.ref 1, .ref a1, .int x2, .int x3] [] h r h' :=
  mX_tsw d_X2_readClause_26 rfl (by decide)
theorem b_X2_readClause_26_109 {x2 x3 : Int32} {a1 : Nat} {h h' : mn_H} {r : Option Value} (ha1 : mn_isT a1) : mn_E 14 26 [.ref 1, .ref a1, .int x2, .int x3] [.int 109] h r h' ↔ mn_E 14 171 [.ref 1, .ref a1, .int x2, .int x3] [] h r h' :=
  mX_tsw d_X2_readClause_26 rfl (by decide)
theorem b_X2_readClause_26_110 {x2 x3 : Int32} {a1 : Nat} {h h' : mn_H} {r : Option Value} (ha1 : mn_isT a1) : mn_E 14 26 [.ref 1, .ref a1, .int x2, .int x3] [.int 110] h r h' ↔ mn_E 14 154 [.ref 1, .ref a1, .int x2, .int x3] [] h r h' :=
  mX_tsw d_X2_readClause_26 rfl (by decide)
theorem b_X2_readClause_26_111 {x2 x3 : Int32} {a1 : Nat} {h h' : mn_H} {r : Option Value} (ha1 : mn_isT a1) : mn_E 14 26 [.ref 1, .ref a1, .int x2, .int x3] [.int 111] h r h' ↔ mn_E 14 171 [.ref 1, .ref a1, .int x2, .int x3] [] h r h' :=
  mX_tsw d_X2_readClause_26 rfl (by decide)
theorem b_X2_readClause_26_112 {x2 x3 : Int32} {a1 : Nat} {h h' : mn_H} {r : Option Value} (ha1 : mn_isT a1) : mn_E 14 26 [.ref 1, .ref a1, .int x2, .int x3] [.int 112] h r h' ↔ mn_E 14 171 [.ref 1, .ref a1, .int x2, .int x3] [] h r h' :=
  mX_tsw d_X2_readClause_26 rfl (by decide)
theorem b_X2_readClause_26_113 {x2 x3 : Int32} {a1 : Nat} {h h' : mn_H} {r : Option Value} (ha1 : mn_isT a1) : mn_E 14 26 [.ref 1, .ref a1, .int x2, .int x3] [.int 113] h r h' ↔ mn_E 14 171 [.ref 1, .ref a1, .int x2, .int x3] [] h r h' :=
  mX_tsw d_X2_readClause_26 rfl (by decide)
theorem b_X2_readClause_26_114 {x2 x3 : Int32} {a1 : Nat} {h h' : mn_H} {r : Option Value} (ha1 : mn_isT a1) : mn_E 14 26 [.ref 1, .ref a1, .int x2, .int x3] [.int 114] h r h' ↔ mn_E 14 130 [.ref 1, .ref a1, .int x2, .int x3] [] h r h' :=
  mX_tsw d_X2_readClause_26 rfl (by decide)
theorem b_X2_readClause_26_115 {x2 x3 : Int32} {a1 : Nat} {h h' : mn_H} {r : Option Value} (ha1 : mn_isT a1) : mn_E 14 26 [.ref 1, .ref a1, .int x2, .int x3] [.int 115] h r h' ↔ mn_E 14 142 [.ref 1, .ref a1, .int x2, .int x3] [] h r h' :=
  mX_tsw d_X2_readClause_26 rfl (by decide)
theorem b_X2_readClause_112 {x2 x3 : Int32} {a1 : Nat} {h h' : mn_H} {r : Option Value} (ha1 : mn_isT a1) : mn_E 14 112 [.ref 1, .ref a1, .int x2, .int x3] [] h r h' ↔ ∃ h1, mn_X 15 [.ref 1, .ref a1, .int x2] h none h1 ∧ mn_E 14 118 [.ref 1, .ref a1, .int x2, .int x3] [] h1 r h' :=
  (mX_aload_n d_X2_readClause_112 rfl).trans <| (mX_aload_n d_X2_readClause_113 rfl).trans <| (mX_iload_n d_X2_readClause_114 rfl).trans <| mV_v (a := 1) (vs := [.ref a1, .int x2]) (st' := []) d_X2_readClause_115 cv_14_40 rfl (Nat.le_of_ble_eq_true rfl) rfl rfl rfl rfl
theorem b_X2_readClause_118 {x2 x3 : Int32} {a1 : Nat} {h h' : mn_H} {r : Option Value} (ha1 : mn_isT a1) : mn_E 14 118 [.ref 1, .ref a1, .int x2, .int x3] [] h r h' ↔ mn_E 14 177 [.ref 1, .ref a1, .int x2, .int x3] [] h r h' :=
  mX_goto d_X2_readClause_118 rfl
theorem b_X2_readClause_121 {x2 x3 : Int32} {a1 : Nat} {h h' : mn_H} {r : Option Value} (ha1 : mn_isT a1) : mn_E 14 121 [.ref 1, .ref a1, .int x2, .int x3] [] h r h' ↔ ∃ h1, mn_X 16 [.ref 1, .ref a1, .int x2] h none h1 ∧ mn_E 14 127 [.ref 1, .ref a1, .int x2, .int x3] [] h1 r h' :=
  (mX_aload_n d_X2_readClause_121 rfl).trans <| (mX_aload_n d_X2_readClause_122 rfl).trans <| (mX_iload_n d_X2_readClause_123 rfl).trans <| mV_v (a := 1) (vs := [.ref a1, .int x2]) (st' := []) d_X2_readClause_124 cv_14_44 rfl (Nat.le_of_ble_eq_true rfl) rfl rfl rfl rfl
theorem b_X2_readClause_127 {x2 x3 : Int32} {a1 : Nat} {h h' : mn_H} {r : Option Value} (ha1 : mn_isT a1) : mn_E 14 127 [.ref 1, .ref a1, .int x2, .int x3] [] h r h' ↔ mn_E 14 177 [.ref 1, .ref a1, .int x2, .int x3] [] h r h' :=
  mX_goto d_X2_readClause_127 rfl
theorem b_X2_readClause_130 {x2 x3 : Int32} {a1 : Nat} {h h' : mn_H} {r : Option Value} (ha1 : mn_isT a1) : mn_E 14 130 [.ref 1, .ref a1, .int x2, .int x3] [] h r h' ↔ ∃ h1, mn_X 17 [.ref 1, .ref (a1 + 8), .int x2] h none h1 ∧ mn_E 14 139 [.ref 1, .ref a1, .int x2, .int x3] [] h1 r h' :=
  (mX_aload_n d_X2_readClause_130 rfl).trans <| (mX_aload_n d_X2_readClause_131 rfl).trans <| (mG_r (b := (a1 + 8)) d_X2_readClause_132 fr_14_47 (mn_shT0 ha1) (mn_ltT0 ha1) (mn_rfT9 ha1 _)).trans <| (mX_iload_n d_X2_readClause_135 rfl).trans <| mV_v (a := 1) (vs := [.ref (a1 + 8), .int x2]) (st' := []) d_X2_readClause_136 cv_14_51 rfl (Nat.le_of_ble_eq_true rfl) rfl rfl rfl rfl
theorem b_X2_readClause_139 {x2 x3 : Int32} {a1 : Nat} {h h' : mn_H} {r : Option Value} (ha1 : mn_isT a1) : mn_E 14 139 [.ref 1, .ref a1, .int x2, .int x3] [] h r h' ↔ mn_E 14 177 [.ref 1, .ref a1, .int x2, .int x3] [] h r h' :=
  mX_goto d_X2_readClause_139 rfl
theorem b_X2_readClause_142 {x2 x3 : Int32} {a1 : Nat} {h h' : mn_H} {r : Option Value} (ha1 : mn_isT a1) : mn_E 14 142 [.ref 1, .ref a1, .int x2, .int x3] [] h r h' ↔ ∃ h1, mn_X 17 [.ref 1, .ref (a1 + 12), .int x2] h none h1 ∧ mn_E 14 151 [.ref 1, .ref a1, .int x2, .int x3] [] h1 r h' :=
  (mX_aload_n d_X2_readClause_142 rfl).trans <| (mX_aload_n d_X2_readClause_143 rfl).trans <| (mG_r (b := (a1 + 12)) d_X2_readClause_144 fr_14_55 (mn_shT0 ha1) (mn_ltT0 ha1) (mn_rfT10 ha1 _)).trans <| (mX_iload_n d_X2_readClause_147 rfl).trans <| mV_v (a := 1) (vs := [.ref (a1 + 12), .int x2]) (st' := []) d_X2_readClause_148 cv_14_51 rfl (Nat.le_of_ble_eq_true rfl) rfl rfl rfl rfl
theorem b_X2_readClause_151 {x2 x3 : Int32} {a1 : Nat} {h h' : mn_H} {r : Option Value} (ha1 : mn_isT a1) : mn_E 14 151 [.ref 1, .ref a1, .int x2, .int x3] [] h r h' ↔ mn_E 14 177 [.ref 1, .ref a1, .int x2, .int x3] [] h r h' :=
  mX_goto d_X2_readClause_151 rfl
theorem b_X2_readClause_154 {x2 x3 : Int32} {a1 : Nat} {h h' : mn_H} {r : Option Value} (ha1 : mn_isT a1) : mn_E 14 154 [.ref 1, .ref a1, .int x2, .int x3] [] h r h' ↔ ∃ h1, mn_X 18 [.ref 1, .ref a1, .int x2] h none h1 ∧ mn_E 14 160 [.ref 1, .ref a1, .int x2, .int x3] [] h1 r h' :=
  (mX_aload_n d_X2_readClause_154 rfl).trans <| (mX_aload_n d_X2_readClause_155 rfl).trans <| (mX_iload_n d_X2_readClause_156 rfl).trans <| mV_v (a := 1) (vs := [.ref a1, .int x2]) (st' := []) d_X2_readClause_157 cv_14_58 rfl (Nat.le_of_ble_eq_true rfl) rfl rfl rfl rfl
theorem b_X2_readClause_160 {x2 x3 : Int32} {a1 : Nat} {h h' : mn_H} {r : Option Value} (ha1 : mn_isT a1) : mn_E 14 160 [.ref 1, .ref a1, .int x2, .int x3] [] h r h' ↔ mn_E 14 177 [.ref 1, .ref a1, .int x2, .int x3] [] h r h' :=
  mX_goto d_X2_readClause_160 rfl
theorem b_X2_readClause_163 {x2 x3 : Int32} {a1 : Nat} {h h' : mn_H} {r : Option Value} (ha1 : mn_isT a1) : mn_E 14 163 [.ref 1, .ref a1, .int x2, .int x3] [] h r h' ↔ ∃ h1, mn_X 19 [.ref 1, .ref a1] h none h1 ∧ mn_E 14 168 [.ref 1, .ref a1, .int x2, .int x3] [] h1 r h' :=
  (mX_aload_n d_X2_readClause_163 rfl).trans <| (mX_aload_n d_X2_readClause_164 rfl).trans <| mV_v (a := 1) (vs := [.ref a1]) (st' := []) d_X2_readClause_165 cv_14_61 rfl (Nat.le_of_ble_eq_true rfl) rfl rfl rfl rfl
theorem b_X2_readClause_168 {x2 x3 : Int32} {a1 : Nat} {h h' : mn_H} {r : Option Value} (ha1 : mn_isT a1) : mn_E 14 168 [.ref 1, .ref a1, .int x2, .int x3] [] h r h' ↔ mn_E 14 177 [.ref 1, .ref a1, .int x2, .int x3] [] h r h' :=
  mX_goto d_X2_readClause_168 rfl
theorem b_X2_readClause_171 {x2 x3 : Int32} {a1 : Nat} {h h' : mn_H} {r : Option Value} (ha1 : mn_isT a1) : mn_E 14 171 [.ref 1, .ref a1, .int x2, .int x3] [] h r h' ↔ ∃ h1, mn_X 24 [.ref 1, .int 1, .int x2] h none h1 ∧ mn_E 14 177 [.ref 1, .ref a1, .int x2, .int x3] [] h1 r h' :=
  (mX_aload_n d_X2_readClause_171 rfl).trans <| (mX_iconst d_X2_readClause_172 ci_1).trans <| (mX_iload_n d_X2_readClause_173 rfl).trans <| mV_v (a := 1) (vs := [.int 1, .int x2]) (st' := []) d_X2_readClause_174 cv_14_64 rfl (Nat.le_of_ble_eq_true rfl) rfl rfl rfl rfl
theorem b_X2_readClause_177 {x2 x3 : Int32} {a1 : Nat} {h h' : mn_H} {r : Option Value} (ha1 : mn_isT a1) : mn_E 14 177 [.ref 1, .ref a1, .int x2, .int x3] [] h r h' ↔ r = none ∧ h' = h :=
  mX_vret d_X2_readClause_177 rfl
-- X2_readBell
theorem mo_15 : mO 15 = 2 := rfl
theorem d_X2_readBell_0 : decode (mC 15) 0 = .ok (.aload_n 1, 1) := by decide +kernel
theorem d_X2_readBell_1 : decode (mC 15) 1 = .ok (.getfield 68, 3) := by decide +kernel
theorem d_X2_readBell_4 : decode (mC 15) 4 = .ok (.iconst 5, 1) := by decide +kernel
theorem d_X2_readBell_5 : decode (mC 15) 5 = .ok (.if_icmp .lt 9, 3) := by decide +kernel
theorem d_X2_readBell_8 : decode (mC 15) 8 = .ok (.aload_n 0, 1) := by decide +kernel
theorem d_X2_readBell_9 : decode (mC 15) 9 = .ok (.iconst 3, 1) := by decide +kernel
theorem d_X2_readBell_10 : decode (mC 15) 10 = .ok (.iload_n 2, 1) := by decide +kernel
theorem d_X2_readBell_11 : decode (mC 15) 11 = .ok (.invokevirtual 64, 3) := by decide +kernel
theorem d_X2_readBell_14 : decode (mC 15) 14 = .ok (.aload_n 0, 1) := by decide +kernel
theorem d_X2_readBell_15 : decode (mC 15) 15 = .ok (.invokevirtual 71, 3) := by decide +kernel
theorem d_X2_readBell_18 : decode (mC 15) 18 = .ok (.istore_n 3, 1) := by decide +kernel
theorem d_X2_readBell_19 : decode (mC 15) 19 = .ok (.aload_n 0, 1) := by decide +kernel
theorem d_X2_readBell_20 : decode (mC 15) 20 = .ok (.iconst 0, 1) := by decide +kernel
theorem d_X2_readBell_21 : decode (mC 15) 21 = .ok (.iconst 5, 1) := by decide +kernel
theorem d_X2_readBell_22 : decode (mC 15) 22 = .ok (.invokevirtual 75, 3) := by decide +kernel
theorem d_X2_readBell_25 : decode (mC 15) 25 = .ok (.istore 4, 2) := by decide +kernel
theorem d_X2_readBell_27 : decode (mC 15) 27 = .ok (.aload_n 0, 1) := by decide +kernel
theorem d_X2_readBell_28 : decode (mC 15) 28 = .ok (.iconst 0, 1) := by decide +kernel
theorem d_X2_readBell_29 : decode (mC 15) 29 = .ok (.iconst 5, 1) := by decide +kernel
theorem d_X2_readBell_30 : decode (mC 15) 30 = .ok (.invokevirtual 75, 3) := by decide +kernel
theorem d_X2_readBell_33 : decode (mC 15) 33 = .ok (.istore 5, 2) := by decide +kernel
theorem d_X2_readBell_35 : decode (mC 15) 35 = .ok (.aload_n 0, 1) := by decide +kernel
theorem d_X2_readBell_36 : decode (mC 15) 36 = .ok (.invokevirtual 79, 3) := by decide +kernel
theorem d_X2_readBell_39 : decode (mC 15) 39 = .ok (.ifCond .eq 12, 3) := by decide +kernel
theorem d_X2_readBell_42 : decode (mC 15) 42 = .ok (.aload_n 1, 1) := by decide +kernel
theorem d_X2_readBell_43 : decode (mC 15) 43 = .ok (.iload_n 3, 1) := by decide +kernel
theorem d_X2_readBell_44 : decode (mC 15) 44 = .ok (.iload 4, 2) := by decide +kernel
theorem d_X2_readBell_46 : decode (mC 15) 46 = .ok (.iload 5, 2) := by decide +kernel
theorem d_X2_readBell_48 : decode (mC 15) 48 = .ok (.invokevirtual 83, 3) := by decide +kernel
theorem d_X2_readBell_51 : decode (mC 15) 51 = .ok (.return_, 1) := by decide +kernel
theorem fi_15_68 : mn_fi 15 2 68 5 0 = true := by decide +kernel
theorem cv_15_64 : mn_cvt 15 2 64 24 = true := by decide +kernel
theorem cv_15_71 : mn_cvt 15 2 71 20 = true := by decide +kernel
theorem cv_15_75 : mn_cvt 15 2 75 21 = true := by decide +kernel
theorem cv_15_79 : mn_cvt 15 2 79 22 = true := by decide +kernel
theorem cv_15_83 : mn_cvt 15 2 83 42 = true := by decide +kernel
theorem b_X2_readBell_0 {x2 : Int32} {a1 : Nat} {h h' : mn_H} {r : Option Value} (ha1 : mn_isT a1) : mn_E 15 0 [.ref 1, .ref a1, .int x2, .null, .null, .null] [] h r h' ↔ if (h a1 0) < 5 then mn_E 15 14 [.ref 1, .ref a1, .int x2, .null, .null, .null] [] h r h' else mn_E 15 8 [.ref 1, .ref a1, .int x2, .null, .null, .null] [] h r h' :=
  (mX_aload_n d_X2_readBell_0 rfl).trans <| (mG_i d_X2_readBell_1 fi_15_68 (mn_shT0 ha1) (mn_ltT0 ha1)).trans <| (mX_iconst d_X2_readBell_4 ci_5).trans <| mX_icmp_lt d_X2_readBell_5 rfl
theorem b_X2_readBell_8 {x2 : Int32} {a1 : Nat} {h h' : mn_H} {r : Option Value} (ha1 : mn_isT a1) : mn_E 15 8 [.ref 1, .ref a1, .int x2, .null, .null, .null] [] h r h' ↔ ∃ h1, mn_X 24 [.ref 1, .int 3, .int x2] h none h1 ∧ mn_E 15 14 [.ref 1, .ref a1, .int x2, .null, .null, .null] [] h1 r h' :=
  (mX_aload_n d_X2_readBell_8 rfl).trans <| (mX_iconst d_X2_readBell_9 ci_3).trans <| (mX_iload_n d_X2_readBell_10 rfl).trans <| mV_v (a := 1) (vs := [.int 3, .int x2]) (st' := []) d_X2_readBell_11 cv_15_64 rfl (Nat.le_of_ble_eq_true rfl) rfl rfl rfl rfl
theorem b_X2_readBell_14 {x2 : Int32} {a1 : Nat} {h h' : mn_H} {r : Option Value} (ha1 : mn_isT a1) : mn_E 15 14 [.ref 1, .ref a1, .int x2, .null, .null, .null] [] h r h' ↔ ∃ x h1, mn_X 20 [.ref 1] h (some (.int x)) h1 ∧ mn_E 15 18 [.ref 1, .ref a1, .int x2, .null, .null, .null] [.int x] h1 r h' :=
  (mX_aload_n d_X2_readBell_14 rfl).trans <| mV_i (a := 1) (vs := []) (st' := []) d_X2_readBell_15 cv_15_71 (Or.inl rfl) (Nat.le_of_ble_eq_true rfl) rfl rfl rfl rfl
theorem b_X2_readBell_18 {x2 s0 : Int32} {a1 : Nat} {h h' : mn_H} {r : Option Value} (ha1 : mn_isT a1) : mn_E 15 18 [.ref 1, .ref a1, .int x2, .null, .null, .null] [.int s0] h r h' ↔ ∃ x h1, mn_X 21 [.ref 1, .int 0, .int 5] h (some (.int x)) h1 ∧ mn_E 15 25 [.ref 1, .ref a1, .int x2, .int s0, .null, .null] [.int x] h1 r h' :=
  (mX_istore_n (ls' := [.ref 1, .ref a1, .int x2, .int s0, .null, .null]) d_X2_readBell_18 rfl rfl).trans <| (mX_aload_n d_X2_readBell_19 rfl).trans <| (mX_iconst d_X2_readBell_20 ci_0).trans <| (mX_iconst d_X2_readBell_21 ci_5).trans <| mV_i (a := 1) (vs := [.int 0, .int 5]) (st' := []) d_X2_readBell_22 cv_15_75 (Or.inl rfl) (Nat.le_of_ble_eq_true rfl) rfl rfl rfl rfl
theorem b_X2_readBell_25 {x2 x3 s0 : Int32} {a1 : Nat} {h h' : mn_H} {r : Option Value} (ha1 : mn_isT a1) : mn_E 15 25 [.ref 1, .ref a1, .int x2, .int x3, .null, .null] [.int s0] h r h' ↔ ∃ x h1, mn_X 21 [.ref 1, .int 0, .int 5] h (some (.int x)) h1 ∧ mn_E 15 33 [.ref 1, .ref a1, .int x2, .int x3, .int s0, .null] [.int x] h1 r h' :=
  (mX_istore (ls' := [.ref 1, .ref a1, .int x2, .int x3, .int s0, .null]) d_X2_readBell_25 rfl rfl).trans <| (mX_aload_n d_X2_readBell_27 rfl).trans <| (mX_iconst d_X2_readBell_28 ci_0).trans <| (mX_iconst d_X2_readBell_29 ci_5).trans <| mV_i (a := 1) (vs := [.int 0, .int 5]) (st' := []) d_X2_readBell_30 cv_15_75 (Or.inl rfl) (Nat.le_of_ble_eq_true rfl) rfl rfl rfl rfl
theorem b_X2_readBell_33 {x2 x3 x4 s0 : Int32} {a1 : Nat} {h h' : mn_H} {r : Option Value} (ha1 : mn_isT a1) : mn_E 15 33 [.ref 1, .ref a1, .int x2, .int x3, .int x4, .null] [.int s0] h r h' ↔ ∃ x h1, mn_X 22 [.ref 1] h (some (.int x)) h1 ∧ mn_E 15 39 [.ref 1, .ref a1, .int x2, .int x3, .int x4, .int s0] [.int x] h1 r h' :=
  (mX_istore (ls' := [.ref 1, .ref a1, .int x2, .int x3, .int x4, .int s0]) d_X2_readBell_33 rfl rfl).trans <| (mX_aload_n d_X2_readBell_35 rfl).trans <| mV_i (a := 1) (vs := []) (st' := []) d_X2_readBell_36 cv_15_79 (Or.inr (Or.inl rfl)) (Nat.le_of_ble_eq_true rfl) rfl rfl rfl rfl
theorem b_X2_readBell_39 {x2 x3 x4 x5 s0 : Int32} {a1 : Nat} {h h' : mn_H} {r : Option Value} (ha1 : mn_isT a1) : mn_E 15 39 [.ref 1, .ref a1, .int x2, .int x3, .int x4, .int x5] [.int s0] h r h' ↔ if s0 = 0 then mn_E 15 51 [.ref 1, .ref a1, .int x2, .int x3, .int x4, .int x5] [] h r h' else mn_E 15 42 [.ref 1, .ref a1, .int x2, .int x3, .int x4, .int x5] [] h r h' :=
  mX_if_eq d_X2_readBell_39 rfl
theorem b_X2_readBell_42 {x2 x3 x4 x5 : Int32} {a1 : Nat} {h h' : mn_H} {r : Option Value} (ha1 : mn_isT a1) : mn_E 15 42 [.ref 1, .ref a1, .int x2, .int x3, .int x4, .int x5] [] h r h' ↔ ∃ h1, mn_X 42 [.ref a1, .int x3, .int x4, .int x5] h none h1 ∧ mn_E 15 51 [.ref 1, .ref a1, .int x2, .int x3, .int x4, .int x5] [] h1 r h' :=
  (mX_aload_n d_X2_readBell_42 rfl).trans <| (mX_iload_n d_X2_readBell_43 rfl).trans <| (mX_iload d_X2_readBell_44 rfl).trans <| (mX_iload d_X2_readBell_46 rfl).trans <| mV_v (a := a1) (vs := [.int x3, .int x4, .int x5]) (st' := []) d_X2_readBell_48 cv_15_83 rfl (Nat.le_of_ble_eq_true rfl) rfl rfl (mn_shT0 ha1) rfl
theorem b_X2_readBell_51 {x2 x3 x4 x5 : Int32} {a1 : Nat} {h h' : mn_H} {r : Option Value} (ha1 : mn_isT a1) : mn_E 15 51 [.ref 1, .ref a1, .int x2, .int x3, .int x4, .int x5] [] h r h' ↔ r = none ∧ h' = h :=
  mX_vret d_X2_readBell_51 rfl
-- X2_readGroup
theorem mo_16 : mO 16 = 2 := rfl
theorem d_X2_readGroup_0 : decode (mC 16) 0 = .ok (.aload_n 1, 1) := by decide +kernel
theorem d_X2_readGroup_1 : decode (mC 16) 1 = .ok (.getfield 87, 3) := by decide +kernel
theorem d_X2_readGroup_4 : decode (mC 16) 4 = .ok (.bipush 6, 2) := by decide +kernel
theorem d_X2_readGroup_6 : decode (mC 16) 6 = .ok (.if_icmp .lt 9, 3) := by decide +kernel
theorem d_X2_readGroup_9 : decode (mC 16) 9 = .ok (.aload_n 0, 1) := by decide +kernel
theorem d_X2_readGroup_10 : decode (mC 16) 10 = .ok (.iconst 3, 1) := by decide +kernel
theorem d_X2_readGroup_11 : decode (mC 16) 11 = .ok (.iload_n 2, 1) := by decide +kernel
theorem d_X2_readGroup_12 : decode (mC 16) 12 = .ok (.invokevirtual 64, 3) := by decide +kernel
theorem d_X2_readGroup_15 : decode (mC 16) 15 = .ok (.aload_n 0, 1) := by decide +kernel
theorem d_X2_readGroup_16 : decode (mC 16) 16 = .ok (.iconst 1, 1) := by decide +kernel
theorem d_X2_readGroup_17 : decode (mC 16) 17 = .ok (.bipush 99, 2) := by decide +kernel
theorem d_X2_readGroup_19 : decode (mC 16) 19 = .ok (.invokevirtual 75, 3) := by decide +kernel
theorem d_X2_readGroup_22 : decode (mC 16) 22 = .ok (.istore_n 3, 1) := by decide +kernel
theorem d_X2_readGroup_23 : decode (mC 16) 23 = .ok (.aload_n 0, 1) := by decide +kernel
theorem d_X2_readGroup_24 : decode (mC 16) 24 = .ok (.iconst 0, 1) := by decide +kernel
theorem d_X2_readGroup_25 : decode (mC 16) 25 = .ok (.aload_n 1, 1) := by decide +kernel
theorem d_X2_readGroup_26 : decode (mC 16) 26 = .ok (.getfield 68, 3) := by decide +kernel
theorem d_X2_readGroup_29 : decode (mC 16) 29 = .ok (.iconst 1, 1) := by decide +kernel
theorem d_X2_readGroup_30 : decode (mC 16) 30 = .ok (.isub, 1) := by decide +kernel
theorem d_X2_readGroup_31 : decode (mC 16) 31 = .ok (.invokevirtual 75, 3) := by decide +kernel
theorem d_X2_readGroup_34 : decode (mC 16) 34 = .ok (.istore 4, 2) := by decide +kernel
theorem d_X2_readGroup_36 : decode (mC 16) 36 = .ok (.aload_n 0, 1) := by decide +kernel
theorem d_X2_readGroup_37 : decode (mC 16) 37 = .ok (.iconst 0, 1) := by decide +kernel
theorem d_X2_readGroup_38 : decode (mC 16) 38 = .ok (.bipush 6, 2) := by decide +kernel
theorem d_X2_readGroup_40 : decode (mC 16) 40 = .ok (.invokevirtual 75, 3) := by decide +kernel
theorem d_X2_readGroup_43 : decode (mC 16) 43 = .ok (.istore 5, 2) := by decide +kernel
theorem d_X2_readGroup_45 : decode (mC 16) 45 = .ok (.aload_n 0, 1) := by decide +kernel
theorem d_X2_readGroup_46 : decode (mC 16) 46 = .ok (.iconst 0, 1) := by decide +kernel
theorem d_X2_readGroup_47 : decode (mC 16) 47 = .ok (.bipush 6, 2) := by decide +kernel
theorem d_X2_readGroup_49 : decode (mC 16) 49 = .ok (.invokevirtual 75, 3) := by decide +kernel
theorem d_X2_readGroup_52 : decode (mC 16) 52 = .ok (.istore 6, 2) := by decide +kernel
theorem d_X2_readGroup_54 : decode (mC 16) 54 = .ok (.aload_n 0, 1) := by decide +kernel
theorem d_X2_readGroup_55 : decode (mC 16) 55 = .ok (.invokevirtual 79, 3) := by decide +kernel
theorem d_X2_readGroup_58 : decode (mC 16) 58 = .ok (.ifCond .eq 14, 3) := by decide +kernel
theorem d_X2_readGroup_61 : decode (mC 16) 61 = .ok (.aload_n 1, 1) := by decide +kernel
theorem d_X2_readGroup_62 : decode (mC 16) 62 = .ok (.iload_n 3, 1) := by decide +kernel
theorem d_X2_readGroup_63 : decode (mC 16) 63 = .ok (.iload 4, 2) := by decide +kernel
theorem d_X2_readGroup_65 : decode (mC 16) 65 = .ok (.iload 5, 2) := by decide +kernel
theorem d_X2_readGroup_67 : decode (mC 16) 67 = .ok (.iload 6, 2) := by decide +kernel
theorem d_X2_readGroup_69 : decode (mC 16) 69 = .ok (.invokevirtual 90, 3) := by decide +kernel
theorem d_X2_readGroup_72 : decode (mC 16) 72 = .ok (.return_, 1) := by decide +kernel
theorem fi_16_87 : mn_fi 16 2 87 5 4 = true := by decide +kernel
theorem cv_16_64 : mn_cvt 16 2 64 24 = true := by decide +kernel
theorem cv_16_75 : mn_cvt 16 2 75 21 = true := by decide +kernel
theorem fi_16_68 : mn_fi 16 2 68 5 0 = true := by decide +kernel
theorem cv_16_79 : mn_cvt 16 2 79 22 = true := by decide +kernel
theorem cv_16_90 : mn_cvt 16 2 90 43 = true := by decide +kernel
theorem b_X2_readGroup_0 {x2 : Int32} {a1 : Nat} {h h' : mn_H} {r : Option Value} (ha1 : mn_isT a1) : mn_E 16 0 [.ref 1, .ref a1, .int x2, .null, .null, .null, .null] [] h r h' ↔ if (h a1 4) < 6 then mn_E 16 15 [.ref 1, .ref a1, .int x2, .null, .null, .null, .null] [] h r h' else mn_E 16 9 [.ref 1, .ref a1, .int x2, .null, .null, .null, .null] [] h r h' :=
  (mX_aload_n d_X2_readGroup_0 rfl).trans <| (mG_i d_X2_readGroup_1 fi_16_87 (mn_shT0 ha1) (mn_ltT0 ha1)).trans <| (mX_bipush d_X2_readGroup_4 cb_6).trans <| mX_icmp_lt d_X2_readGroup_6 rfl
theorem b_X2_readGroup_9 {x2 : Int32} {a1 : Nat} {h h' : mn_H} {r : Option Value} (ha1 : mn_isT a1) : mn_E 16 9 [.ref 1, .ref a1, .int x2, .null, .null, .null, .null] [] h r h' ↔ ∃ h1, mn_X 24 [.ref 1, .int 3, .int x2] h none h1 ∧ mn_E 16 15 [.ref 1, .ref a1, .int x2, .null, .null, .null, .null] [] h1 r h' :=
  (mX_aload_n d_X2_readGroup_9 rfl).trans <| (mX_iconst d_X2_readGroup_10 ci_3).trans <| (mX_iload_n d_X2_readGroup_11 rfl).trans <| mV_v (a := 1) (vs := [.int 3, .int x2]) (st' := []) d_X2_readGroup_12 cv_16_64 rfl (Nat.le_of_ble_eq_true rfl) rfl rfl rfl rfl
theorem b_X2_readGroup_15 {x2 : Int32} {a1 : Nat} {h h' : mn_H} {r : Option Value} (ha1 : mn_isT a1) : mn_E 16 15 [.ref 1, .ref a1, .int x2, .null, .null, .null, .null] [] h r h' ↔ ∃ x h1, mn_X 21 [.ref 1, .int 1, .int 99] h (some (.int x)) h1 ∧ mn_E 16 22 [.ref 1, .ref a1, .int x2, .null, .null, .null, .null] [.int x] h1 r h' :=
  (mX_aload_n d_X2_readGroup_15 rfl).trans <| (mX_iconst d_X2_readGroup_16 ci_1).trans <| (mX_bipush d_X2_readGroup_17 cb_99).trans <| mV_i (a := 1) (vs := [.int 1, .int 99]) (st' := []) d_X2_readGroup_19 cv_16_75 (Or.inl rfl) (Nat.le_of_ble_eq_true rfl) rfl rfl rfl rfl
theorem b_X2_readGroup_22 {x2 s0 : Int32} {a1 : Nat} {h h' : mn_H} {r : Option Value} (ha1 : mn_isT a1) : mn_E 16 22 [.ref 1, .ref a1, .int x2, .null, .null, .null, .null] [.int s0] h r h' ↔ ∃ x h1, mn_X 21 [.ref 1, .int 0, .int ((h a1 0) - 1)] h (some (.int x)) h1 ∧ mn_E 16 34 [.ref 1, .ref a1, .int x2, .int s0, .null, .null, .null] [.int x] h1 r h' :=
  (mX_istore_n (ls' := [.ref 1, .ref a1, .int x2, .int s0, .null, .null, .null]) d_X2_readGroup_22 rfl rfl).trans <| (mX_aload_n d_X2_readGroup_23 rfl).trans <| (mX_iconst d_X2_readGroup_24 ci_0).trans <| (mX_aload_n d_X2_readGroup_25 rfl).trans <| (mG_i d_X2_readGroup_26 fi_16_68 (mn_shT0 ha1) (mn_ltT0 ha1)).trans <| (mX_iconst d_X2_readGroup_29 ci_1).trans <| (mX_isub d_X2_readGroup_30).trans <| mV_i (a := 1) (vs := [.int 0, .int ((h a1 0) - 1)]) (st' := []) d_X2_readGroup_31 cv_16_75 (Or.inl rfl) (Nat.le_of_ble_eq_true rfl) rfl rfl rfl rfl
theorem b_X2_readGroup_34 {x2 x3 s0 : Int32} {a1 : Nat} {h h' : mn_H} {r : Option Value} (ha1 : mn_isT a1) : mn_E 16 34 [.ref 1, .ref a1, .int x2, .int x3, .null, .null, .null] [.int s0] h r h' ↔ ∃ x h1, mn_X 21 [.ref 1, .int 0, .int 6] h (some (.int x)) h1 ∧ mn_E 16 43 [.ref 1, .ref a1, .int x2, .int x3, .int s0, .null, .null] [.int x] h1 r h' :=
  (mX_istore (ls' := [.ref 1, .ref a1, .int x2, .int x3, .int s0, .null, .null]) d_X2_readGroup_34 rfl rfl).trans <| (mX_aload_n d_X2_readGroup_36 rfl).trans <| (mX_iconst d_X2_readGroup_37 ci_0).trans <| (mX_bipush d_X2_readGroup_38 cb_6).trans <| mV_i (a := 1) (vs := [.int 0, .int 6]) (st' := []) d_X2_readGroup_40 cv_16_75 (Or.inl rfl) (Nat.le_of_ble_eq_true rfl) rfl rfl rfl rfl
theorem b_X2_readGroup_43 {x2 x3 x4 s0 : Int32} {a1 : Nat} {h h' : mn_H} {r : Option Value} (ha1 : mn_isT a1) : mn_E 16 43 [.ref 1, .ref a1, .int x2, .int x3, .int x4, .null, .null] [.int s0] h r h' ↔ ∃ x h1, mn_X 21 [.ref 1, .int 0, .int 6] h (some (.int x)) h1 ∧ mn_E 16 52 [.ref 1, .ref a1, .int x2, .int x3, .int x4, .int s0, .null] [.int x] h1 r h' :=
  (mX_istore (ls' := [.ref 1, .ref a1, .int x2, .int x3, .int x4, .int s0, .null]) d_X2_readGroup_43 rfl rfl).trans <| (mX_aload_n d_X2_readGroup_45 rfl).trans <| (mX_iconst d_X2_readGroup_46 ci_0).trans <| (mX_bipush d_X2_readGroup_47 cb_6).trans <| mV_i (a := 1) (vs := [.int 0, .int 6]) (st' := []) d_X2_readGroup_49 cv_16_75 (Or.inl rfl) (Nat.le_of_ble_eq_true rfl) rfl rfl rfl rfl
theorem b_X2_readGroup_52 {x2 x3 x4 x5 s0 : Int32} {a1 : Nat} {h h' : mn_H} {r : Option Value} (ha1 : mn_isT a1) : mn_E 16 52 [.ref 1, .ref a1, .int x2, .int x3, .int x4, .int x5, .null] [.int s0] h r h' ↔ ∃ x h1, mn_X 22 [.ref 1] h (some (.int x)) h1 ∧ mn_E 16 58 [.ref 1, .ref a1, .int x2, .int x3, .int x4, .int x5, .int s0] [.int x] h1 r h' :=
  (mX_istore (ls' := [.ref 1, .ref a1, .int x2, .int x3, .int x4, .int x5, .int s0]) d_X2_readGroup_52 rfl rfl).trans <| (mX_aload_n d_X2_readGroup_54 rfl).trans <| mV_i (a := 1) (vs := []) (st' := []) d_X2_readGroup_55 cv_16_79 (Or.inr (Or.inl rfl)) (Nat.le_of_ble_eq_true rfl) rfl rfl rfl rfl
theorem b_X2_readGroup_58 {x2 x3 x4 x5 x6 s0 : Int32} {a1 : Nat} {h h' : mn_H} {r : Option Value} (ha1 : mn_isT a1) : mn_E 16 58 [.ref 1, .ref a1, .int x2, .int x3, .int x4, .int x5, .int x6] [.int s0] h r h' ↔ if s0 = 0 then mn_E 16 72 [.ref 1, .ref a1, .int x2, .int x3, .int x4, .int x5, .int x6] [] h r h' else mn_E 16 61 [.ref 1, .ref a1, .int x2, .int x3, .int x4, .int x5, .int x6] [] h r h' :=
  mX_if_eq d_X2_readGroup_58 rfl
theorem b_X2_readGroup_61 {x2 x3 x4 x5 x6 : Int32} {a1 : Nat} {h h' : mn_H} {r : Option Value} (ha1 : mn_isT a1) : mn_E 16 61 [.ref 1, .ref a1, .int x2, .int x3, .int x4, .int x5, .int x6] [] h r h' ↔ ∃ h1, mn_X 43 [.ref a1, .int x3, .int x4, .int x5, .int x6] h none h1 ∧ mn_E 16 72 [.ref 1, .ref a1, .int x2, .int x3, .int x4, .int x5, .int x6] [] h1 r h' :=
  (mX_aload_n d_X2_readGroup_61 rfl).trans <| (mX_iload_n d_X2_readGroup_62 rfl).trans <| (mX_iload d_X2_readGroup_63 rfl).trans <| (mX_iload d_X2_readGroup_65 rfl).trans <| (mX_iload d_X2_readGroup_67 rfl).trans <| mV_v (a := a1) (vs := [.int x3, .int x4, .int x5, .int x6]) (st' := []) d_X2_readGroup_69 cv_16_90 rfl (Nat.le_of_ble_eq_true rfl) rfl rfl (mn_shT0 ha1) rfl
theorem b_X2_readGroup_72 {x2 x3 x4 x5 x6 : Int32} {a1 : Nat} {h h' : mn_H} {r : Option Value} (ha1 : mn_isT a1) : mn_E 16 72 [.ref 1, .ref a1, .int x2, .int x3, .int x4, .int x5, .int x6] [] h r h' ↔ r = none ∧ h' = h :=
  mX_vret d_X2_readGroup_72 rfl
-- X2_readThreshold
theorem mo_17 : mO 17 = 2 := rfl
theorem d_X2_readThreshold_0 : decode (mC 17) 0 = .ok (.aload_n 1, 1) := by decide +kernel
theorem d_X2_readThreshold_1 : decode (mC 17) 1 = .ok (.invokevirtual 94, 3) := by decide +kernel
theorem d_X2_readThreshold_4 : decode (mC 17) 4 = .ok (.ifCond .eq 9, 3) := by decide +kernel
theorem d_X2_readThreshold_7 : decode (mC 17) 7 = .ok (.aload_n 0, 1) := by decide +kernel
theorem d_X2_readThreshold_8 : decode (mC 17) 8 = .ok (.iconst 3, 1) := by decide +kernel
theorem d_X2_readThreshold_9 : decode (mC 17) 9 = .ok (.iload_n 2, 1) := by decide +kernel
theorem d_X2_readThreshold_10 : decode (mC 17) 10 = .ok (.invokevirtual 64, 3) := by decide +kernel
theorem d_X2_readThreshold_13 : decode (mC 17) 13 = .ok (.aload_n 0, 1) := by decide +kernel
theorem d_X2_readThreshold_14 : decode (mC 17) 14 = .ok (.iconst 0, 1) := by decide +kernel
theorem d_X2_readThreshold_15 : decode (mC 17) 15 = .ok (.iconst 5, 1) := by decide +kernel
theorem d_X2_readThreshold_16 : decode (mC 17) 16 = .ok (.invokevirtual 75, 3) := by decide +kernel
theorem d_X2_readThreshold_19 : decode (mC 17) 19 = .ok (.istore_n 3, 1) := by decide +kernel
theorem d_X2_readThreshold_20 : decode (mC 17) 20 = .ok (.aload_n 0, 1) := by decide +kernel
theorem d_X2_readThreshold_21 : decode (mC 17) 21 = .ok (.iconst 0, 1) := by decide +kernel
theorem d_X2_readThreshold_22 : decode (mC 17) 22 = .ok (.iconst 5, 1) := by decide +kernel
theorem d_X2_readThreshold_23 : decode (mC 17) 23 = .ok (.invokevirtual 75, 3) := by decide +kernel
theorem d_X2_readThreshold_26 : decode (mC 17) 26 = .ok (.istore 4, 2) := by decide +kernel
theorem d_X2_readThreshold_28 : decode (mC 17) 28 = .ok (.aload_n 0, 1) := by decide +kernel
theorem d_X2_readThreshold_29 : decode (mC 17) 29 = .ok (.iconst 1, 1) := by decide +kernel
theorem d_X2_readThreshold_30 : decode (mC 17) 30 = .ok (.sipush 999, 3) := by decide +kernel
theorem d_X2_readThreshold_33 : decode (mC 17) 33 = .ok (.invokevirtual 75, 3) := by decide +kernel
theorem d_X2_readThreshold_36 : decode (mC 17) 36 = .ok (.istore 5, 2) := by decide +kernel
theorem d_X2_readThreshold_38 : decode (mC 17) 38 = .ok (.aload_n 0, 1) := by decide +kernel
theorem d_X2_readThreshold_39 : decode (mC 17) 39 = .ok (.invokevirtual 79, 3) := by decide +kernel
theorem d_X2_readThreshold_42 : decode (mC 17) 42 = .ok (.ifCond .eq 12, 3) := by decide +kernel
theorem d_X2_readThreshold_45 : decode (mC 17) 45 = .ok (.aload_n 1, 1) := by decide +kernel
theorem d_X2_readThreshold_46 : decode (mC 17) 46 = .ok (.iload_n 3, 1) := by decide +kernel
theorem d_X2_readThreshold_47 : decode (mC 17) 47 = .ok (.iload 4, 2) := by decide +kernel
theorem d_X2_readThreshold_49 : decode (mC 17) 49 = .ok (.iload 5, 2) := by decide +kernel
theorem d_X2_readThreshold_51 : decode (mC 17) 51 = .ok (.invokevirtual 99, 3) := by decide +kernel
theorem d_X2_readThreshold_54 : decode (mC 17) 54 = .ok (.return_, 1) := by decide +kernel
theorem cv_17_94 : mn_cvt 17 2 94 36 = true := by decide +kernel
theorem cv_17_64 : mn_cvt 17 2 64 24 = true := by decide +kernel
theorem cv_17_75 : mn_cvt 17 2 75 21 = true := by decide +kernel
theorem cv_17_79 : mn_cvt 17 2 79 22 = true := by decide +kernel
theorem cv_17_99 : mn_cvt 17 2 99 38 = true := by decide +kernel
theorem b_X2_readThreshold_0 {x2 : Int32} {a1 : Nat} {h h' : mn_H} {r : Option Value} (ha1 : mn_isQ a1) : mn_E 17 0 [.ref 1, .ref a1, .int x2, .null, .null, .null] [] h r h' ↔ ∃ x h1, mn_X 36 [.ref a1] h (some (.int x)) h1 ∧ mn_E 17 4 [.ref 1, .ref a1, .int x2, .null, .null, .null] [.int x] h1 r h' :=
  (mX_aload_n d_X2_readThreshold_0 rfl).trans <| mV_i (a := a1) (vs := []) (st' := []) d_X2_readThreshold_1 cv_17_94 (Or.inr (Or.inl rfl)) (Nat.le_of_ble_eq_true rfl) rfl rfl (mn_shQ0 ha1) rfl
theorem b_X2_readThreshold_4 {x2 s0 : Int32} {a1 : Nat} {h h' : mn_H} {r : Option Value} (ha1 : mn_isQ a1) : mn_E 17 4 [.ref 1, .ref a1, .int x2, .null, .null, .null] [.int s0] h r h' ↔ if s0 = 0 then mn_E 17 13 [.ref 1, .ref a1, .int x2, .null, .null, .null] [] h r h' else mn_E 17 7 [.ref 1, .ref a1, .int x2, .null, .null, .null] [] h r h' :=
  mX_if_eq d_X2_readThreshold_4 rfl
theorem b_X2_readThreshold_7 {x2 : Int32} {a1 : Nat} {h h' : mn_H} {r : Option Value} (ha1 : mn_isQ a1) : mn_E 17 7 [.ref 1, .ref a1, .int x2, .null, .null, .null] [] h r h' ↔ ∃ h1, mn_X 24 [.ref 1, .int 3, .int x2] h none h1 ∧ mn_E 17 13 [.ref 1, .ref a1, .int x2, .null, .null, .null] [] h1 r h' :=
  (mX_aload_n d_X2_readThreshold_7 rfl).trans <| (mX_iconst d_X2_readThreshold_8 ci_3).trans <| (mX_iload_n d_X2_readThreshold_9 rfl).trans <| mV_v (a := 1) (vs := [.int 3, .int x2]) (st' := []) d_X2_readThreshold_10 cv_17_64 rfl (Nat.le_of_ble_eq_true rfl) rfl rfl rfl rfl
theorem b_X2_readThreshold_13 {x2 : Int32} {a1 : Nat} {h h' : mn_H} {r : Option Value} (ha1 : mn_isQ a1) : mn_E 17 13 [.ref 1, .ref a1, .int x2, .null, .null, .null] [] h r h' ↔ ∃ x h1, mn_X 21 [.ref 1, .int 0, .int 5] h (some (.int x)) h1 ∧ mn_E 17 19 [.ref 1, .ref a1, .int x2, .null, .null, .null] [.int x] h1 r h' :=
  (mX_aload_n d_X2_readThreshold_13 rfl).trans <| (mX_iconst d_X2_readThreshold_14 ci_0).trans <| (mX_iconst d_X2_readThreshold_15 ci_5).trans <| mV_i (a := 1) (vs := [.int 0, .int 5]) (st' := []) d_X2_readThreshold_16 cv_17_75 (Or.inl rfl) (Nat.le_of_ble_eq_true rfl) rfl rfl rfl rfl
theorem b_X2_readThreshold_19 {x2 s0 : Int32} {a1 : Nat} {h h' : mn_H} {r : Option Value} (ha1 : mn_isQ a1) : mn_E 17 19 [.ref 1, .ref a1, .int x2, .null, .null, .null] [.int s0] h r h' ↔ ∃ x h1, mn_X 21 [.ref 1, .int 0, .int 5] h (some (.int x)) h1 ∧ mn_E 17 26 [.ref 1, .ref a1, .int x2, .int s0, .null, .null] [.int x] h1 r h' :=
  (mX_istore_n (ls' := [.ref 1, .ref a1, .int x2, .int s0, .null, .null]) d_X2_readThreshold_19 rfl rfl).trans <| (mX_aload_n d_X2_readThreshold_20 rfl).trans <| (mX_iconst d_X2_readThreshold_21 ci_0).trans <| (mX_iconst d_X2_readThreshold_22 ci_5).trans <| mV_i (a := 1) (vs := [.int 0, .int 5]) (st' := []) d_X2_readThreshold_23 cv_17_75 (Or.inl rfl) (Nat.le_of_ble_eq_true rfl) rfl rfl rfl rfl
theorem b_X2_readThreshold_26 {x2 x3 s0 : Int32} {a1 : Nat} {h h' : mn_H} {r : Option Value} (ha1 : mn_isQ a1) : mn_E 17 26 [.ref 1, .ref a1, .int x2, .int x3, .null, .null] [.int s0] h r h' ↔ ∃ x h1, mn_X 21 [.ref 1, .int 1, .int 999] h (some (.int x)) h1 ∧ mn_E 17 36 [.ref 1, .ref a1, .int x2, .int x3, .int s0, .null] [.int x] h1 r h' :=
  (mX_istore (ls' := [.ref 1, .ref a1, .int x2, .int x3, .int s0, .null]) d_X2_readThreshold_26 rfl rfl).trans <| (mX_aload_n d_X2_readThreshold_28 rfl).trans <| (mX_iconst d_X2_readThreshold_29 ci_1).trans <| (mX_sipush d_X2_readThreshold_30 cs_999).trans <| mV_i (a := 1) (vs := [.int 1, .int 999]) (st' := []) d_X2_readThreshold_33 cv_17_75 (Or.inl rfl) (Nat.le_of_ble_eq_true rfl) rfl rfl rfl rfl
theorem b_X2_readThreshold_36 {x2 x3 x4 s0 : Int32} {a1 : Nat} {h h' : mn_H} {r : Option Value} (ha1 : mn_isQ a1) : mn_E 17 36 [.ref 1, .ref a1, .int x2, .int x3, .int x4, .null] [.int s0] h r h' ↔ ∃ x h1, mn_X 22 [.ref 1] h (some (.int x)) h1 ∧ mn_E 17 42 [.ref 1, .ref a1, .int x2, .int x3, .int x4, .int s0] [.int x] h1 r h' :=
  (mX_istore (ls' := [.ref 1, .ref a1, .int x2, .int x3, .int x4, .int s0]) d_X2_readThreshold_36 rfl rfl).trans <| (mX_aload_n d_X2_readThreshold_38 rfl).trans <| mV_i (a := 1) (vs := []) (st' := []) d_X2_readThreshold_39 cv_17_79 (Or.inr (Or.inl rfl)) (Nat.le_of_ble_eq_true rfl) rfl rfl rfl rfl
theorem b_X2_readThreshold_42 {x2 x3 x4 x5 s0 : Int32} {a1 : Nat} {h h' : mn_H} {r : Option Value} (ha1 : mn_isQ a1) : mn_E 17 42 [.ref 1, .ref a1, .int x2, .int x3, .int x4, .int x5] [.int s0] h r h' ↔ if s0 = 0 then mn_E 17 54 [.ref 1, .ref a1, .int x2, .int x3, .int x4, .int x5] [] h r h' else mn_E 17 45 [.ref 1, .ref a1, .int x2, .int x3, .int x4, .int x5] [] h r h' :=
  mX_if_eq d_X2_readThreshold_42 rfl
theorem b_X2_readThreshold_45 {x2 x3 x4 x5 : Int32} {a1 : Nat} {h h' : mn_H} {r : Option Value} (ha1 : mn_isQ a1) : mn_E 17 45 [.ref 1, .ref a1, .int x2, .int x3, .int x4, .int x5] [] h r h' ↔ ∃ h1, mn_X 38 [.ref a1, .int x3, .int x4, .int x5] h none h1 ∧ mn_E 17 54 [.ref 1, .ref a1, .int x2, .int x3, .int x4, .int x5] [] h1 r h' :=
  (mX_aload_n d_X2_readThreshold_45 rfl).trans <| (mX_iload_n d_X2_readThreshold_46 rfl).trans <| (mX_iload d_X2_readThreshold_47 rfl).trans <| (mX_iload d_X2_readThreshold_49 rfl).trans <| mV_v (a := a1) (vs := [.int x3, .int x4, .int x5]) (st' := []) d_X2_readThreshold_51 cv_17_99 rfl (Nat.le_of_ble_eq_true rfl) rfl rfl (mn_shQ0 ha1) rfl
theorem b_X2_readThreshold_54 {x2 x3 x4 x5 : Int32} {a1 : Nat} {h h' : mn_H} {r : Option Value} (ha1 : mn_isQ a1) : mn_E 17 54 [.ref 1, .ref a1, .int x2, .int x3, .int x4, .int x5] [] h r h' ↔ r = none ∧ h' = h :=
  mX_vret d_X2_readThreshold_54 rfl
-- X2_readSelf
theorem mo_18 : mO 18 = 2 := rfl
theorem d_X2_readSelf_0 : decode (mC 18) 0 = .ok (.aload_n 1, 1) := by decide +kernel
theorem d_X2_readSelf_1 : decode (mC 18) 1 = .ok (.getfield 102, 3) := by decide +kernel
theorem d_X2_readSelf_4 : decode (mC 18) 4 = .ok (.iconst 3, 1) := by decide +kernel
theorem d_X2_readSelf_5 : decode (mC 18) 5 = .ok (.if_icmp .lt 9, 3) := by decide +kernel
theorem d_X2_readSelf_8 : decode (mC 18) 8 = .ok (.aload_n 0, 1) := by decide +kernel
theorem d_X2_readSelf_9 : decode (mC 18) 9 = .ok (.iconst 3, 1) := by decide +kernel
theorem d_X2_readSelf_10 : decode (mC 18) 10 = .ok (.iload_n 2, 1) := by decide +kernel
theorem d_X2_readSelf_11 : decode (mC 18) 11 = .ok (.invokevirtual 64, 3) := by decide +kernel
theorem d_X2_readSelf_14 : decode (mC 18) 14 = .ok (.aload_n 0, 1) := by decide +kernel
theorem d_X2_readSelf_15 : decode (mC 18) 15 = .ok (.iconst 0, 1) := by decide +kernel
theorem d_X2_readSelf_16 : decode (mC 18) 16 = .ok (.iconst 5, 1) := by decide +kernel
theorem d_X2_readSelf_17 : decode (mC 18) 17 = .ok (.invokevirtual 75, 3) := by decide +kernel
theorem d_X2_readSelf_20 : decode (mC 18) 20 = .ok (.istore_n 3, 1) := by decide +kernel
theorem d_X2_readSelf_21 : decode (mC 18) 21 = .ok (.aload_n 0, 1) := by decide +kernel
theorem d_X2_readSelf_22 : decode (mC 18) 22 = .ok (.iconst 1, 1) := by decide +kernel
theorem d_X2_readSelf_23 : decode (mC 18) 23 = .ok (.bipush 12, 2) := by decide +kernel
theorem d_X2_readSelf_25 : decode (mC 18) 25 = .ok (.invokevirtual 75, 3) := by decide +kernel
theorem d_X2_readSelf_28 : decode (mC 18) 28 = .ok (.istore 4, 2) := by decide +kernel
theorem d_X2_readSelf_30 : decode (mC 18) 30 = .ok (.aload_n 0, 1) := by decide +kernel
theorem d_X2_readSelf_31 : decode (mC 18) 31 = .ok (.iconst 0, 1) := by decide +kernel
theorem d_X2_readSelf_32 : decode (mC 18) 32 = .ok (.bipush 11, 2) := by decide +kernel
theorem d_X2_readSelf_34 : decode (mC 18) 34 = .ok (.invokevirtual 75, 3) := by decide +kernel
theorem d_X2_readSelf_37 : decode (mC 18) 37 = .ok (.istore 5, 2) := by decide +kernel
theorem d_X2_readSelf_39 : decode (mC 18) 39 = .ok (.aload_n 0, 1) := by decide +kernel
theorem d_X2_readSelf_40 : decode (mC 18) 40 = .ok (.invokevirtual 79, 3) := by decide +kernel
theorem d_X2_readSelf_43 : decode (mC 18) 43 = .ok (.ifCond .eq 12, 3) := by decide +kernel
theorem d_X2_readSelf_46 : decode (mC 18) 46 = .ok (.aload_n 1, 1) := by decide +kernel
theorem d_X2_readSelf_47 : decode (mC 18) 47 = .ok (.iload_n 3, 1) := by decide +kernel
theorem d_X2_readSelf_48 : decode (mC 18) 48 = .ok (.iload 4, 2) := by decide +kernel
theorem d_X2_readSelf_50 : decode (mC 18) 50 = .ok (.iload 5, 2) := by decide +kernel
theorem d_X2_readSelf_52 : decode (mC 18) 52 = .ok (.invokevirtual 105, 3) := by decide +kernel
theorem d_X2_readSelf_55 : decode (mC 18) 55 = .ok (.return_, 1) := by decide +kernel
theorem fi_18_102 : mn_fi 18 2 102 5 11 = true := by decide +kernel
theorem cv_18_64 : mn_cvt 18 2 64 24 = true := by decide +kernel
theorem cv_18_75 : mn_cvt 18 2 75 21 = true := by decide +kernel
theorem cv_18_79 : mn_cvt 18 2 79 22 = true := by decide +kernel
theorem cv_18_105 : mn_cvt 18 2 105 44 = true := by decide +kernel
theorem b_X2_readSelf_0 {x2 : Int32} {a1 : Nat} {h h' : mn_H} {r : Option Value} (ha1 : mn_isT a1) : mn_E 18 0 [.ref 1, .ref a1, .int x2, .null, .null, .null] [] h r h' ↔ if (h a1 11) < 3 then mn_E 18 14 [.ref 1, .ref a1, .int x2, .null, .null, .null] [] h r h' else mn_E 18 8 [.ref 1, .ref a1, .int x2, .null, .null, .null] [] h r h' :=
  (mX_aload_n d_X2_readSelf_0 rfl).trans <| (mG_i d_X2_readSelf_1 fi_18_102 (mn_shT0 ha1) (mn_ltT0 ha1)).trans <| (mX_iconst d_X2_readSelf_4 ci_3).trans <| mX_icmp_lt d_X2_readSelf_5 rfl
theorem b_X2_readSelf_8 {x2 : Int32} {a1 : Nat} {h h' : mn_H} {r : Option Value} (ha1 : mn_isT a1) : mn_E 18 8 [.ref 1, .ref a1, .int x2, .null, .null, .null] [] h r h' ↔ ∃ h1, mn_X 24 [.ref 1, .int 3, .int x2] h none h1 ∧ mn_E 18 14 [.ref 1, .ref a1, .int x2, .null, .null, .null] [] h1 r h' :=
  (mX_aload_n d_X2_readSelf_8 rfl).trans <| (mX_iconst d_X2_readSelf_9 ci_3).trans <| (mX_iload_n d_X2_readSelf_10 rfl).trans <| mV_v (a := 1) (vs := [.int 3, .int x2]) (st' := []) d_X2_readSelf_11 cv_18_64 rfl (Nat.le_of_ble_eq_true rfl) rfl rfl rfl rfl
theorem b_X2_readSelf_14 {x2 : Int32} {a1 : Nat} {h h' : mn_H} {r : Option Value} (ha1 : mn_isT a1) : mn_E 18 14 [.ref 1, .ref a1, .int x2, .null, .null, .null] [] h r h' ↔ ∃ x h1, mn_X 21 [.ref 1, .int 0, .int 5] h (some (.int x)) h1 ∧ mn_E 18 20 [.ref 1, .ref a1, .int x2, .null, .null, .null] [.int x] h1 r h' :=
  (mX_aload_n d_X2_readSelf_14 rfl).trans <| (mX_iconst d_X2_readSelf_15 ci_0).trans <| (mX_iconst d_X2_readSelf_16 ci_5).trans <| mV_i (a := 1) (vs := [.int 0, .int 5]) (st' := []) d_X2_readSelf_17 cv_18_75 (Or.inl rfl) (Nat.le_of_ble_eq_true rfl) rfl rfl rfl rfl
theorem b_X2_readSelf_20 {x2 s0 : Int32} {a1 : Nat} {h h' : mn_H} {r : Option Value} (ha1 : mn_isT a1) : mn_E 18 20 [.ref 1, .ref a1, .int x2, .null, .null, .null] [.int s0] h r h' ↔ ∃ x h1, mn_X 21 [.ref 1, .int 1, .int 12] h (some (.int x)) h1 ∧ mn_E 18 28 [.ref 1, .ref a1, .int x2, .int s0, .null, .null] [.int x] h1 r h' :=
  (mX_istore_n (ls' := [.ref 1, .ref a1, .int x2, .int s0, .null, .null]) d_X2_readSelf_20 rfl rfl).trans <| (mX_aload_n d_X2_readSelf_21 rfl).trans <| (mX_iconst d_X2_readSelf_22 ci_1).trans <| (mX_bipush d_X2_readSelf_23 cb_12).trans <| mV_i (a := 1) (vs := [.int 1, .int 12]) (st' := []) d_X2_readSelf_25 cv_18_75 (Or.inl rfl) (Nat.le_of_ble_eq_true rfl) rfl rfl rfl rfl
theorem b_X2_readSelf_28 {x2 x3 s0 : Int32} {a1 : Nat} {h h' : mn_H} {r : Option Value} (ha1 : mn_isT a1) : mn_E 18 28 [.ref 1, .ref a1, .int x2, .int x3, .null, .null] [.int s0] h r h' ↔ ∃ x h1, mn_X 21 [.ref 1, .int 0, .int 11] h (some (.int x)) h1 ∧ mn_E 18 37 [.ref 1, .ref a1, .int x2, .int x3, .int s0, .null] [.int x] h1 r h' :=
  (mX_istore (ls' := [.ref 1, .ref a1, .int x2, .int x3, .int s0, .null]) d_X2_readSelf_28 rfl rfl).trans <| (mX_aload_n d_X2_readSelf_30 rfl).trans <| (mX_iconst d_X2_readSelf_31 ci_0).trans <| (mX_bipush d_X2_readSelf_32 cb_11).trans <| mV_i (a := 1) (vs := [.int 0, .int 11]) (st' := []) d_X2_readSelf_34 cv_18_75 (Or.inl rfl) (Nat.le_of_ble_eq_true rfl) rfl rfl rfl rfl
theorem b_X2_readSelf_37 {x2 x3 x4 s0 : Int32} {a1 : Nat} {h h' : mn_H} {r : Option Value} (ha1 : mn_isT a1) : mn_E 18 37 [.ref 1, .ref a1, .int x2, .int x3, .int x4, .null] [.int s0] h r h' ↔ ∃ x h1, mn_X 22 [.ref 1] h (some (.int x)) h1 ∧ mn_E 18 43 [.ref 1, .ref a1, .int x2, .int x3, .int x4, .int s0] [.int x] h1 r h' :=
  (mX_istore (ls' := [.ref 1, .ref a1, .int x2, .int x3, .int x4, .int s0]) d_X2_readSelf_37 rfl rfl).trans <| (mX_aload_n d_X2_readSelf_39 rfl).trans <| mV_i (a := 1) (vs := []) (st' := []) d_X2_readSelf_40 cv_18_79 (Or.inr (Or.inl rfl)) (Nat.le_of_ble_eq_true rfl) rfl rfl rfl rfl
theorem b_X2_readSelf_43 {x2 x3 x4 x5 s0 : Int32} {a1 : Nat} {h h' : mn_H} {r : Option Value} (ha1 : mn_isT a1) : mn_E 18 43 [.ref 1, .ref a1, .int x2, .int x3, .int x4, .int x5] [.int s0] h r h' ↔ if s0 = 0 then mn_E 18 55 [.ref 1, .ref a1, .int x2, .int x3, .int x4, .int x5] [] h r h' else mn_E 18 46 [.ref 1, .ref a1, .int x2, .int x3, .int x4, .int x5] [] h r h' :=
  mX_if_eq d_X2_readSelf_43 rfl
theorem b_X2_readSelf_46 {x2 x3 x4 x5 : Int32} {a1 : Nat} {h h' : mn_H} {r : Option Value} (ha1 : mn_isT a1) : mn_E 18 46 [.ref 1, .ref a1, .int x2, .int x3, .int x4, .int x5] [] h r h' ↔ ∃ h1, mn_X 44 [.ref a1, .int x3, .int x4, .int x5] h none h1 ∧ mn_E 18 55 [.ref 1, .ref a1, .int x2, .int x3, .int x4, .int x5] [] h1 r h' :=
  (mX_aload_n d_X2_readSelf_46 rfl).trans <| (mX_iload_n d_X2_readSelf_47 rfl).trans <| (mX_iload d_X2_readSelf_48 rfl).trans <| (mX_iload d_X2_readSelf_50 rfl).trans <| mV_v (a := a1) (vs := [.int x3, .int x4, .int x5]) (st' := []) d_X2_readSelf_52 cv_18_105 rfl (Nat.le_of_ble_eq_true rfl) rfl rfl (mn_shT0 ha1) rfl
theorem b_X2_readSelf_55 {x2 x3 x4 x5 : Int32} {a1 : Nat} {h h' : mn_H} {r : Option Value} (ha1 : mn_isT a1) : mn_E 18 55 [.ref 1, .ref a1, .int x2, .int x3, .int x4, .int x5] [] h r h' ↔ r = none ∧ h' = h :=
  mX_vret d_X2_readSelf_55 rfl
-- X2_readHarm
theorem mo_19 : mO 19 = 2 := rfl
theorem d_X2_readHarm_0 : decode (mC 19) 0 = .ok (.aload_n 0, 1) := by decide +kernel
theorem d_X2_readHarm_1 : decode (mC 19) 1 = .ok (.iconst 0, 1) := by decide +kernel
theorem d_X2_readHarm_2 : decode (mC 19) 2 = .ok (.iconst 5, 1) := by decide +kernel
theorem d_X2_readHarm_3 : decode (mC 19) 3 = .ok (.invokevirtual 75, 3) := by decide +kernel
theorem d_X2_readHarm_6 : decode (mC 19) 6 = .ok (.istore_n 2, 1) := by decide +kernel
theorem d_X2_readHarm_7 : decode (mC 19) 7 = .ok (.aload_n 0, 1) := by decide +kernel
theorem d_X2_readHarm_8 : decode (mC 19) 8 = .ok (.getfield 30, 3) := by decide +kernel
theorem d_X2_readHarm_11 : decode (mC 19) 11 = .ok (.ifCond .ne 20, 3) := by decide +kernel
theorem d_X2_readHarm_14 : decode (mC 19) 14 = .ok (.aload_n 1, 1) := by decide +kernel
theorem d_X2_readHarm_15 : decode (mC 19) 15 = .ok (.iload_n 2, 1) := by decide +kernel
theorem d_X2_readHarm_16 : decode (mC 19) 16 = .ok (.invokevirtual 108, 3) := by decide +kernel
theorem d_X2_readHarm_19 : decode (mC 19) 19 = .ok (.ifCond .eq 12, 3) := by decide +kernel
theorem d_X2_readHarm_22 : decode (mC 19) 22 = .ok (.aload_n 0, 1) := by decide +kernel
theorem d_X2_readHarm_23 : decode (mC 19) 23 = .ok (.iconst 4, 1) := by decide +kernel
theorem d_X2_readHarm_24 : decode (mC 19) 24 = .ok (.aload_n 0, 1) := by decide +kernel
theorem d_X2_readHarm_25 : decode (mC 19) 25 = .ok (.getfield 112, 3) := by decide +kernel
theorem d_X2_readHarm_28 : decode (mC 19) 28 = .ok (.invokevirtual 64, 3) := by decide +kernel
theorem d_X2_readHarm_31 : decode (mC 19) 31 = .ok (.aload_n 0, 1) := by decide +kernel
theorem d_X2_readHarm_32 : decode (mC 19) 32 = .ok (.iconst 0, 1) := by decide +kernel
theorem d_X2_readHarm_33 : decode (mC 19) 33 = .ok (.bipush 99, 2) := by decide +kernel
theorem d_X2_readHarm_35 : decode (mC 19) 35 = .ok (.invokevirtual 75, 3) := by decide +kernel
theorem d_X2_readHarm_38 : decode (mC 19) 38 = .ok (.istore_n 3, 1) := by decide +kernel
theorem d_X2_readHarm_39 : decode (mC 19) 39 = .ok (.aload_n 0, 1) := by decide +kernel
theorem d_X2_readHarm_40 : decode (mC 19) 40 = .ok (.invokevirtual 79, 3) := by decide +kernel
theorem d_X2_readHarm_43 : decode (mC 19) 43 = .ok (.ifCond .eq 12, 3) := by decide +kernel
theorem d_X2_readHarm_46 : decode (mC 19) 46 = .ok (.aload_n 1, 1) := by decide +kernel
theorem d_X2_readHarm_47 : decode (mC 19) 47 = .ok (.iload_n 2, 1) := by decide +kernel
theorem d_X2_readHarm_48 : decode (mC 19) 48 = .ok (.iload_n 3, 1) := by decide +kernel
theorem d_X2_readHarm_49 : decode (mC 19) 49 = .ok (.bipush 50, 2) := by decide +kernel
theorem d_X2_readHarm_51 : decode (mC 19) 51 = .ok (.isub, 1) := by decide +kernel
theorem d_X2_readHarm_52 : decode (mC 19) 52 = .ok (.invokevirtual 115, 3) := by decide +kernel
theorem d_X2_readHarm_55 : decode (mC 19) 55 = .ok (.return_, 1) := by decide +kernel
theorem cv_19_75 : mn_cvt 19 2 75 21 = true := by decide +kernel
theorem fi_19_30 : mn_fi 19 2 30 2 4 = true := by decide +kernel
theorem cv_19_108 : mn_cvt 19 2 108 45 = true := by decide +kernel
theorem fi_19_112 : mn_fi 19 2 112 2 3 = true := by decide +kernel
theorem cv_19_64 : mn_cvt 19 2 64 24 = true := by decide +kernel
theorem cv_19_79 : mn_cvt 19 2 79 22 = true := by decide +kernel
theorem cv_19_115 : mn_cvt 19 2 115 46 = true := by decide +kernel
theorem b_X2_readHarm_0 {a1 : Nat} {h h' : mn_H} {r : Option Value} (ha1 : mn_isT a1) : mn_E 19 0 [.ref 1, .ref a1, .null, .null] [] h r h' ↔ ∃ x h1, mn_X 21 [.ref 1, .int 0, .int 5] h (some (.int x)) h1 ∧ mn_E 19 6 [.ref 1, .ref a1, .null, .null] [.int x] h1 r h' :=
  (mX_aload_n d_X2_readHarm_0 rfl).trans <| (mX_iconst d_X2_readHarm_1 ci_0).trans <| (mX_iconst d_X2_readHarm_2 ci_5).trans <| mV_i (a := 1) (vs := [.int 0, .int 5]) (st' := []) d_X2_readHarm_3 cv_19_75 (Or.inl rfl) (Nat.le_of_ble_eq_true rfl) rfl rfl rfl rfl
theorem b_X2_readHarm_6 {s0 : Int32} {a1 : Nat} {h h' : mn_H} {r : Option Value} (ha1 : mn_isT a1) : mn_E 19 6 [.ref 1, .ref a1, .null, .null] [.int s0] h r h' ↔ if ¬ (h 1 4) = 0 then mn_E 19 31 [.ref 1, .ref a1, .int s0, .null] [] h r h' else mn_E 19 14 [.ref 1, .ref a1, .int s0, .null] [] h r h' :=
  (mX_istore_n (ls' := [.ref 1, .ref a1, .int s0, .null]) d_X2_readHarm_6 rfl rfl).trans <| (mX_aload_n d_X2_readHarm_7 rfl).trans <| (mG_i d_X2_readHarm_8 fi_19_30 rfl (by decide)).trans <| mX_if_ne d_X2_readHarm_11 rfl
theorem b_X2_readHarm_14 {x2 : Int32} {a1 : Nat} {h h' : mn_H} {r : Option Value} (ha1 : mn_isT a1) : mn_E 19 14 [.ref 1, .ref a1, .int x2, .null] [] h r h' ↔ ∃ x h1, mn_X 45 [.ref a1, .int x2] h (some (.int x)) h1 ∧ mn_E 19 19 [.ref 1, .ref a1, .int x2, .null] [.int x] h1 r h' :=
  (mX_aload_n d_X2_readHarm_14 rfl).trans <| (mX_iload_n d_X2_readHarm_15 rfl).trans <| mV_i (a := a1) (vs := [.int x2]) (st' := []) d_X2_readHarm_16 cv_19_108 (Or.inr (Or.inl rfl)) (Nat.le_of_ble_eq_true rfl) rfl rfl (mn_shT0 ha1) rfl
theorem b_X2_readHarm_19 {x2 s0 : Int32} {a1 : Nat} {h h' : mn_H} {r : Option Value} (ha1 : mn_isT a1) : mn_E 19 19 [.ref 1, .ref a1, .int x2, .null] [.int s0] h r h' ↔ if s0 = 0 then mn_E 19 31 [.ref 1, .ref a1, .int x2, .null] [] h r h' else mn_E 19 22 [.ref 1, .ref a1, .int x2, .null] [] h r h' :=
  mX_if_eq d_X2_readHarm_19 rfl
theorem b_X2_readHarm_22 {x2 : Int32} {a1 : Nat} {h h' : mn_H} {r : Option Value} (ha1 : mn_isT a1) : mn_E 19 22 [.ref 1, .ref a1, .int x2, .null] [] h r h' ↔ ∃ h1, mn_X 24 [.ref 1, .int 4, .int (h 1 3)] h none h1 ∧ mn_E 19 31 [.ref 1, .ref a1, .int x2, .null] [] h1 r h' :=
  (mX_aload_n d_X2_readHarm_22 rfl).trans <| (mX_iconst d_X2_readHarm_23 ci_4).trans <| (mX_aload_n d_X2_readHarm_24 rfl).trans <| (mG_i d_X2_readHarm_25 fi_19_112 rfl (by decide)).trans <| mV_v (a := 1) (vs := [.int 4, .int (h 1 3)]) (st' := []) d_X2_readHarm_28 cv_19_64 rfl (Nat.le_of_ble_eq_true rfl) rfl rfl rfl rfl
theorem b_X2_readHarm_31 {x2 : Int32} {a1 : Nat} {h h' : mn_H} {r : Option Value} (ha1 : mn_isT a1) : mn_E 19 31 [.ref 1, .ref a1, .int x2, .null] [] h r h' ↔ ∃ x h1, mn_X 21 [.ref 1, .int 0, .int 99] h (some (.int x)) h1 ∧ mn_E 19 38 [.ref 1, .ref a1, .int x2, .null] [.int x] h1 r h' :=
  (mX_aload_n d_X2_readHarm_31 rfl).trans <| (mX_iconst d_X2_readHarm_32 ci_0).trans <| (mX_bipush d_X2_readHarm_33 cb_99).trans <| mV_i (a := 1) (vs := [.int 0, .int 99]) (st' := []) d_X2_readHarm_35 cv_19_75 (Or.inl rfl) (Nat.le_of_ble_eq_true rfl) rfl rfl rfl rfl
theorem b_X2_readHarm_38 {x2 s0 : Int32} {a1 : Nat} {h h' : mn_H} {r : Option Value} (ha1 : mn_isT a1) : mn_E 19 38 [.ref 1, .ref a1, .int x2, .null] [.int s0] h r h' ↔ ∃ x h1, mn_X 22 [.ref 1] h (some (.int x)) h1 ∧ mn_E 19 43 [.ref 1, .ref a1, .int x2, .int s0] [.int x] h1 r h' :=
  (mX_istore_n (ls' := [.ref 1, .ref a1, .int x2, .int s0]) d_X2_readHarm_38 rfl rfl).trans <| (mX_aload_n d_X2_readHarm_39 rfl).trans <| mV_i (a := 1) (vs := []) (st' := []) d_X2_readHarm_40 cv_19_79 (Or.inr (Or.inl rfl)) (Nat.le_of_ble_eq_true rfl) rfl rfl rfl rfl
theorem b_X2_readHarm_43 {x2 x3 s0 : Int32} {a1 : Nat} {h h' : mn_H} {r : Option Value} (ha1 : mn_isT a1) : mn_E 19 43 [.ref 1, .ref a1, .int x2, .int x3] [.int s0] h r h' ↔ if s0 = 0 then mn_E 19 55 [.ref 1, .ref a1, .int x2, .int x3] [] h r h' else mn_E 19 46 [.ref 1, .ref a1, .int x2, .int x3] [] h r h' :=
  mX_if_eq d_X2_readHarm_43 rfl
theorem b_X2_readHarm_46 {x2 x3 : Int32} {a1 : Nat} {h h' : mn_H} {r : Option Value} (ha1 : mn_isT a1) : mn_E 19 46 [.ref 1, .ref a1, .int x2, .int x3] [] h r h' ↔ ∃ h1, mn_X 46 [.ref a1, .int x2, .int (x3 - 50)] h none h1 ∧ mn_E 19 55 [.ref 1, .ref a1, .int x2, .int x3] [] h1 r h' :=
  (mX_aload_n d_X2_readHarm_46 rfl).trans <| (mX_iload_n d_X2_readHarm_47 rfl).trans <| (mX_iload_n d_X2_readHarm_48 rfl).trans <| (mX_bipush d_X2_readHarm_49 cb_50).trans <| (mX_isub d_X2_readHarm_51).trans <| mV_v (a := a1) (vs := [.int x2, .int (x3 - 50)]) (st' := []) d_X2_readHarm_52 cv_19_115 rfl (Nat.le_of_ble_eq_true rfl) rfl rfl (mn_shT0 ha1) rfl
theorem b_X2_readHarm_55 {x2 x3 : Int32} {a1 : Nat} {h h' : mn_H} {r : Option Value} (ha1 : mn_isT a1) : mn_E 19 55 [.ref 1, .ref a1, .int x2, .int x3] [] h r h' ↔ r = none ∧ h' = h :=
  mX_vret d_X2_readHarm_55 rfl
-- X2_readKind
theorem mo_20 : mO 20 = 2 := rfl
theorem d_X2_readKind_0 : decode (mC 20) 0 = .ok (.aload_n 0, 1) := by decide +kernel
theorem d_X2_readKind_1 : decode (mC 20) 1 = .ok (.invokevirtual 33, 3) := by decide +kernel
theorem d_X2_readKind_4 : decode (mC 20) 4 = .ok (.aload_n 0, 1) := by decide +kernel
theorem d_X2_readKind_5 : decode (mC 20) 5 = .ok (.getfield 27, 3) := by decide +kernel
theorem d_X2_readKind_8 : decode (mC 20) 8 = .ok (.aload_n 0, 1) := by decide +kernel
theorem d_X2_readKind_9 : decode (mC 20) 9 = .ok (.getfield 19, 3) := by decide +kernel
theorem d_X2_readKind_12 : decode (mC 20) 12 = .ok (.if_icmp .ge 21, 3) := by decide +kernel
theorem d_X2_readKind_15 : decode (mC 20) 15 = .ok (.ldc 118, 2) := by decide +kernel
theorem d_X2_readKind_17 : decode (mC 20) 17 = .ok (.aload_n 0, 1) := by decide +kernel
theorem d_X2_readKind_18 : decode (mC 20) 18 = .ok (.getfield 9, 3) := by decide +kernel
theorem d_X2_readKind_21 : decode (mC 20) 21 = .ok (.aload_n 0, 1) := by decide +kernel
theorem d_X2_readKind_22 : decode (mC 20) 22 = .ok (.getfield 27, 3) := by decide +kernel
theorem d_X2_readKind_25 : decode (mC 20) 25 = .ok (.iaload, 1) := by decide +kernel
theorem d_X2_readKind_26 : decode (mC 20) 26 = .ok (.i2c, 1) := by decide +kernel
theorem d_X2_readKind_27 : decode (mC 20) 27 = .ok (.invokevirtual 120, 3) := by decide +kernel
theorem d_X2_readKind_30 : decode (mC 20) 30 = .ok (.goto 4, 3) := by decide +kernel
theorem d_X2_readKind_33 : decode (mC 20) 33 = .ok (.iconst (-1), 1) := by decide +kernel
theorem d_X2_readKind_34 : decode (mC 20) 34 = .ok (.istore_n 1, 1) := by decide +kernel
theorem d_X2_readKind_35 : decode (mC 20) 35 = .ok (.iload_n 1, 1) := by decide +kernel
theorem d_X2_readKind_36 : decode (mC 20) 36 = .ok (.ifCond .ge 14, 3) := by decide +kernel
theorem d_X2_readKind_39 : decode (mC 20) 39 = .ok (.aload_n 0, 1) := by decide +kernel
theorem d_X2_readKind_40 : decode (mC 20) 40 = .ok (.iconst 1, 1) := by decide +kernel
theorem d_X2_readKind_41 : decode (mC 20) 41 = .ok (.aload_n 0, 1) := by decide +kernel
theorem d_X2_readKind_42 : decode (mC 20) 42 = .ok (.getfield 27, 3) := by decide +kernel
theorem d_X2_readKind_45 : decode (mC 20) 45 = .ok (.invokevirtual 64, 3) := by decide +kernel
theorem d_X2_readKind_48 : decode (mC 20) 48 = .ok (.iconst 0, 1) := by decide +kernel
theorem d_X2_readKind_49 : decode (mC 20) 49 = .ok (.ireturn, 1) := by decide +kernel
theorem d_X2_readKind_50 : decode (mC 20) 50 = .ok (.aload_n 0, 1) := by decide +kernel
theorem d_X2_readKind_51 : decode (mC 20) 51 = .ok (.dup, 1) := by decide +kernel
theorem d_X2_readKind_52 : decode (mC 20) 52 = .ok (.getfield 27, 3) := by decide +kernel
theorem d_X2_readKind_55 : decode (mC 20) 55 = .ok (.iconst 1, 1) := by decide +kernel
theorem d_X2_readKind_56 : decode (mC 20) 56 = .ok (.iadd, 1) := by decide +kernel
theorem d_X2_readKind_57 : decode (mC 20) 57 = .ok (.putfield 27, 3) := by decide +kernel
theorem d_X2_readKind_60 : decode (mC 20) 60 = .ok (.iload_n 1, 1) := by decide +kernel
theorem d_X2_readKind_61 : decode (mC 20) 61 = .ok (.ireturn, 1) := by decide +kernel
theorem cv_20_33 : mn_cvt 20 2 33 23 = true := by decide +kernel
theorem fi_20_27 : mn_fi 20 2 27 2 2 = true := by decide +kernel
theorem fi_20_19 : mn_fi 20 2 19 2 1 = true := by decide +kernel
theorem fr_20_9 : mn_fr 20 2 9 2 0 = true := by decide +kernel
theorem cv_20_120 : mn_cvt 20 2 120 182 = true := by decide +kernel
theorem cv_20_64 : mn_cvt 20 2 64 24 = true := by decide +kernel
theorem b_X2_readKind_0 {h h' : mn_H} {r : Option Value} : mn_E 20 0 [.ref 1, .null] [] h r h' ↔ ∃ h1, mn_X 23 [.ref 1] h none h1 ∧ mn_E 20 4 [.ref 1, .null] [] h1 r h' :=
  (mX_aload_n d_X2_readKind_0 rfl).trans <| mV_v (a := 1) (vs := []) (st' := []) d_X2_readKind_1 cv_20_33 rfl (Nat.le_of_ble_eq_true rfl) rfl rfl rfl rfl
theorem b_X2_readKind_4 {h h' : mn_H} {r : Option Value} : mn_E 20 4 [.ref 1, .null] [] h r h' ↔ if (h 1 1) ≤ (h 1 2) then mn_E 20 33 [.ref 1, .null] [] h r h' else mn_E 20 15 [.ref 1, .null] [] h r h' :=
  (mX_aload_n d_X2_readKind_4 rfl).trans <| (mG_i d_X2_readKind_5 fi_20_27 rfl (by decide)).trans <| (mX_aload_n d_X2_readKind_8 rfl).trans <| (mG_i d_X2_readKind_9 fi_20_19 rfl (by decide)).trans <| mX_icmp_ge d_X2_readKind_12 rfl
theorem b_X2_readKind_15 {h h' : mn_H} {r : Option Value} (hy0 : vp_in (h 1 2) 250) : mn_E 20 15 [.ref 1, .null] [] h r h' ↔ ∃ x h1, mn_X 182 [.ref 75, .int (((h 2 (h 1 2).toNatClampNeg)).toUInt32 % 65536).toInt32] h (some (.int x)) h1 ∧ mn_E 20 30 [.ref 1, .null] [.int x] h1 r h' :=
  (mX_ldcS d_X2_readKind_15 mo_20 ⟨rfl, rfl⟩).trans <| (mX_aload_n d_X2_readKind_17 rfl).trans <| (mG_r (b := 2) d_X2_readKind_18 fr_20_9 rfl (by decide) rfl).trans <| (mX_aload_n d_X2_readKind_21 rfl).trans <| (mG_i d_X2_readKind_22 fi_20_27 rfl (by decide)).trans <| (mX_iaload d_X2_readKind_25 rfl (by decide) hy0).trans <| (mX_i2c d_X2_readKind_26).trans <| mV_i (a := 75) (vs := [.int (((h 2 (h 1 2).toNatClampNeg)).toUInt32 % 65536).toInt32]) (st' := []) d_X2_readKind_27 cv_20_120 (Or.inl rfl) (Nat.le_of_ble_eq_true rfl) rfl rfl rfl rfl
theorem b_X2_readKind_30 {s0 : Int32} {h h' : mn_H} {r : Option Value} : mn_E 20 30 [.ref 1, .null] [.int s0] h r h' ↔ mn_E 20 34 [.ref 1, .null] [.int s0] h r h' :=
  mX_goto d_X2_readKind_30 rfl
theorem b_X2_readKind_33 {h h' : mn_H} {r : Option Value} : mn_E 20 33 [.ref 1, .null] [] h r h' ↔ mn_E 20 34 [.ref 1, .null] [.int (-1)] h r h' :=
  mX_iconst d_X2_readKind_33 ci_m1
theorem b_X2_readKind_34 {s0 : Int32} {h h' : mn_H} {r : Option Value} : mn_E 20 34 [.ref 1, .null] [.int s0] h r h' ↔ if (0 : Int32) ≤ s0 then mn_E 20 50 [.ref 1, .int s0] [] h r h' else mn_E 20 39 [.ref 1, .int s0] [] h r h' :=
  (mX_istore_n (ls' := [.ref 1, .int s0]) d_X2_readKind_34 rfl rfl).trans <| (mX_iload_n d_X2_readKind_35 rfl).trans <| mX_if_ge d_X2_readKind_36 rfl
theorem b_X2_readKind_39 {x1 : Int32} {h h' : mn_H} {r : Option Value} : mn_E 20 39 [.ref 1, .int x1] [] h r h' ↔ ∃ h1, mn_X 24 [.ref 1, .int 1, .int (h 1 2)] h none h1 ∧ mn_E 20 48 [.ref 1, .int x1] [] h1 r h' :=
  (mX_aload_n d_X2_readKind_39 rfl).trans <| (mX_iconst d_X2_readKind_40 ci_1).trans <| (mX_aload_n d_X2_readKind_41 rfl).trans <| (mG_i d_X2_readKind_42 fi_20_27 rfl (by decide)).trans <| mV_v (a := 1) (vs := [.int 1, .int (h 1 2)]) (st' := []) d_X2_readKind_45 cv_20_64 rfl (Nat.le_of_ble_eq_true rfl) rfl rfl rfl rfl
theorem b_X2_readKind_48 {x1 : Int32} {h h' : mn_H} {r : Option Value} : mn_E 20 48 [.ref 1, .int x1] [] h r h' ↔ r = some (.int 0) ∧ h' = h :=
  (mX_iconst d_X2_readKind_48 ci_0).trans <| mX_iret d_X2_readKind_49 rfl
theorem b_X2_readKind_50 {x1 : Int32} {h h' : mn_H} {r : Option Value} : mn_E 20 50 [.ref 1, .int x1] [] h r h' ↔ r = some (.int x1) ∧ h' = mn_up h 1 2 ((h 1 2) + 1) :=
  (mX_aload_n d_X2_readKind_50 rfl).trans <| (mX_dup d_X2_readKind_51 rfl).trans <| (mG_i d_X2_readKind_52 fi_20_27 rfl (by decide)).trans <| (mX_iconst d_X2_readKind_55 ci_1).trans <| (mX_iadd d_X2_readKind_56).trans <| (mP_i d_X2_readKind_57 fi_20_27 rfl (by decide) rfl (Or.inl (by decide))).trans <| (mX_iload_n d_X2_readKind_60 rfl).trans <| mX_iret d_X2_readKind_61 rfl
-- X2_readNumber
theorem mo_21 : mO 21 = 2 := rfl
theorem d_X2_readNumber_0 : decode (mC 21) 0 = .ok (.aload_n 0, 1) := by decide +kernel
theorem d_X2_readNumber_1 : decode (mC 21) 1 = .ok (.invokevirtual 33, 3) := by decide +kernel
theorem d_X2_readNumber_4 : decode (mC 21) 4 = .ok (.aload_n 0, 1) := by decide +kernel
theorem d_X2_readNumber_5 : decode (mC 21) 5 = .ok (.aload_n 0, 1) := by decide +kernel
theorem d_X2_readNumber_6 : decode (mC 21) 6 = .ok (.getfield 27, 3) := by decide +kernel
theorem d_X2_readNumber_9 : decode (mC 21) 9 = .ok (.putfield 112, 3) := by decide +kernel
theorem d_X2_readNumber_12 : decode (mC 21) 12 = .ok (.iconst 0, 1) := by decide +kernel
theorem d_X2_readNumber_13 : decode (mC 21) 13 = .ok (.istore_n 3, 1) := by decide +kernel
theorem d_X2_readNumber_14 : decode (mC 21) 14 = .ok (.aload_n 0, 1) := by decide +kernel
theorem d_X2_readNumber_15 : decode (mC 21) 15 = .ok (.getfield 27, 3) := by decide +kernel
theorem d_X2_readNumber_18 : decode (mC 21) 18 = .ok (.aload_n 0, 1) := by decide +kernel
theorem d_X2_readNumber_19 : decode (mC 21) 19 = .ok (.getfield 19, 3) := by decide +kernel
theorem d_X2_readNumber_22 : decode (mC 21) 22 = .ok (.if_icmp .ge 75, 3) := by decide +kernel
theorem d_X2_readNumber_25 : decode (mC 21) 25 = .ok (.aload_n 0, 1) := by decide +kernel
theorem d_X2_readNumber_26 : decode (mC 21) 26 = .ok (.getfield 9, 3) := by decide +kernel
theorem d_X2_readNumber_29 : decode (mC 21) 29 = .ok (.aload_n 0, 1) := by decide +kernel
theorem d_X2_readNumber_30 : decode (mC 21) 30 = .ok (.getfield 27, 3) := by decide +kernel
theorem d_X2_readNumber_33 : decode (mC 21) 33 = .ok (.iaload, 1) := by decide +kernel
theorem d_X2_readNumber_34 : decode (mC 21) 34 = .ok (.bipush 48, 2) := by decide +kernel
theorem d_X2_readNumber_36 : decode (mC 21) 36 = .ok (.if_icmp .lt 61, 3) := by decide +kernel
theorem d_X2_readNumber_39 : decode (mC 21) 39 = .ok (.aload_n 0, 1) := by decide +kernel
theorem d_X2_readNumber_40 : decode (mC 21) 40 = .ok (.getfield 9, 3) := by decide +kernel
theorem d_X2_readNumber_43 : decode (mC 21) 43 = .ok (.aload_n 0, 1) := by decide +kernel
theorem d_X2_readNumber_44 : decode (mC 21) 44 = .ok (.getfield 27, 3) := by decide +kernel
theorem d_X2_readNumber_47 : decode (mC 21) 47 = .ok (.iaload, 1) := by decide +kernel
theorem d_X2_readNumber_48 : decode (mC 21) 48 = .ok (.bipush 57, 2) := by decide +kernel
theorem d_X2_readNumber_50 : decode (mC 21) 50 = .ok (.if_icmp .gt 47, 3) := by decide +kernel
theorem d_X2_readNumber_53 : decode (mC 21) 53 = .ok (.aload_n 0, 1) := by decide +kernel
theorem d_X2_readNumber_54 : decode (mC 21) 54 = .ok (.getfield 27, 3) := by decide +kernel
theorem d_X2_readNumber_57 : decode (mC 21) 57 = .ok (.aload_n 0, 1) := by decide +kernel
theorem d_X2_readNumber_58 : decode (mC 21) 58 = .ok (.getfield 112, 3) := by decide +kernel
theorem d_X2_readNumber_61 : decode (mC 21) 61 = .ok (.isub, 1) := by decide +kernel
theorem d_X2_readNumber_62 : decode (mC 21) 62 = .ok (.iconst 3, 1) := by decide +kernel
theorem d_X2_readNumber_63 : decode (mC 21) 63 = .ok (.if_icmp .ge 21, 3) := by decide +kernel
theorem d_X2_readNumber_66 : decode (mC 21) 66 = .ok (.iload_n 3, 1) := by decide +kernel
theorem d_X2_readNumber_67 : decode (mC 21) 67 = .ok (.bipush 10, 2) := by decide +kernel
theorem d_X2_readNumber_69 : decode (mC 21) 69 = .ok (.imul, 1) := by decide +kernel
theorem d_X2_readNumber_70 : decode (mC 21) 70 = .ok (.aload_n 0, 1) := by decide +kernel
theorem d_X2_readNumber_71 : decode (mC 21) 71 = .ok (.getfield 9, 3) := by decide +kernel
theorem d_X2_readNumber_74 : decode (mC 21) 74 = .ok (.aload_n 0, 1) := by decide +kernel
theorem d_X2_readNumber_75 : decode (mC 21) 75 = .ok (.getfield 27, 3) := by decide +kernel
theorem d_X2_readNumber_78 : decode (mC 21) 78 = .ok (.iaload, 1) := by decide +kernel
theorem d_X2_readNumber_79 : decode (mC 21) 79 = .ok (.bipush 48, 2) := by decide +kernel
theorem d_X2_readNumber_81 : decode (mC 21) 81 = .ok (.isub, 1) := by decide +kernel
theorem d_X2_readNumber_82 : decode (mC 21) 82 = .ok (.iadd, 1) := by decide +kernel
theorem d_X2_readNumber_83 : decode (mC 21) 83 = .ok (.istore_n 3, 1) := by decide +kernel
theorem d_X2_readNumber_84 : decode (mC 21) 84 = .ok (.aload_n 0, 1) := by decide +kernel
theorem d_X2_readNumber_85 : decode (mC 21) 85 = .ok (.dup, 1) := by decide +kernel
theorem d_X2_readNumber_86 : decode (mC 21) 86 = .ok (.getfield 27, 3) := by decide +kernel
theorem d_X2_readNumber_89 : decode (mC 21) 89 = .ok (.iconst 1, 1) := by decide +kernel
theorem d_X2_readNumber_90 : decode (mC 21) 90 = .ok (.iadd, 1) := by decide +kernel
theorem d_X2_readNumber_91 : decode (mC 21) 91 = .ok (.putfield 27, 3) := by decide +kernel
theorem d_X2_readNumber_94 : decode (mC 21) 94 = .ok (.goto (-80), 3) := by decide +kernel
theorem d_X2_readNumber_97 : decode (mC 21) 97 = .ok (.aload_n 0, 1) := by decide +kernel
theorem d_X2_readNumber_98 : decode (mC 21) 98 = .ok (.getfield 27, 3) := by decide +kernel
theorem d_X2_readNumber_101 : decode (mC 21) 101 = .ok (.aload_n 0, 1) := by decide +kernel
theorem d_X2_readNumber_102 : decode (mC 21) 102 = .ok (.getfield 112, 3) := by decide +kernel
theorem d_X2_readNumber_105 : decode (mC 21) 105 = .ok (.if_icmp .ne 15, 3) := by decide +kernel
theorem d_X2_readNumber_108 : decode (mC 21) 108 = .ok (.aload_n 0, 1) := by decide +kernel
theorem d_X2_readNumber_109 : decode (mC 21) 109 = .ok (.iconst 1, 1) := by decide +kernel
theorem d_X2_readNumber_110 : decode (mC 21) 110 = .ok (.aload_n 0, 1) := by decide +kernel
theorem d_X2_readNumber_111 : decode (mC 21) 111 = .ok (.getfield 27, 3) := by decide +kernel
theorem d_X2_readNumber_114 : decode (mC 21) 114 = .ok (.invokevirtual 64, 3) := by decide +kernel
theorem d_X2_readNumber_117 : decode (mC 21) 117 = .ok (.goto 35, 3) := by decide +kernel
theorem d_X2_readNumber_120 : decode (mC 21) 120 = .ok (.aload_n 0, 1) := by decide +kernel
theorem d_X2_readNumber_121 : decode (mC 21) 121 = .ok (.getfield 27, 3) := by decide +kernel
theorem d_X2_readNumber_124 : decode (mC 21) 124 = .ok (.aload_n 0, 1) := by decide +kernel
theorem d_X2_readNumber_125 : decode (mC 21) 125 = .ok (.getfield 112, 3) := by decide +kernel
theorem d_X2_readNumber_128 : decode (mC 21) 128 = .ok (.isub, 1) := by decide +kernel
theorem d_X2_readNumber_129 : decode (mC 21) 129 = .ok (.iconst 3, 1) := by decide +kernel
theorem d_X2_readNumber_130 : decode (mC 21) 130 = .ok (.if_icmp .gt 13, 3) := by decide +kernel
theorem d_X2_readNumber_133 : decode (mC 21) 133 = .ok (.iload_n 3, 1) := by decide +kernel
theorem d_X2_readNumber_134 : decode (mC 21) 134 = .ok (.iload_n 1, 1) := by decide +kernel
theorem d_X2_readNumber_135 : decode (mC 21) 135 = .ok (.if_icmp .lt 8, 3) := by decide +kernel
theorem d_X2_readNumber_138 : decode (mC 21) 138 = .ok (.iload_n 3, 1) := by decide +kernel
theorem d_X2_readNumber_139 : decode (mC 21) 139 = .ok (.iload_n 2, 1) := by decide +kernel
theorem d_X2_readNumber_140 : decode (mC 21) 140 = .ok (.if_icmp .le 12, 3) := by decide +kernel
theorem d_X2_readNumber_143 : decode (mC 21) 143 = .ok (.aload_n 0, 1) := by decide +kernel
theorem d_X2_readNumber_144 : decode (mC 21) 144 = .ok (.iconst 2, 1) := by decide +kernel
theorem d_X2_readNumber_145 : decode (mC 21) 145 = .ok (.aload_n 0, 1) := by decide +kernel
theorem d_X2_readNumber_146 : decode (mC 21) 146 = .ok (.getfield 112, 3) := by decide +kernel
theorem d_X2_readNumber_149 : decode (mC 21) 149 = .ok (.invokevirtual 64, 3) := by decide +kernel
theorem d_X2_readNumber_152 : decode (mC 21) 152 = .ok (.iload_n 3, 1) := by decide +kernel
theorem d_X2_readNumber_153 : decode (mC 21) 153 = .ok (.ireturn, 1) := by decide +kernel
theorem cv_21_33 : mn_cvt 21 2 33 23 = true := by decide +kernel
theorem fi_21_27 : mn_fi 21 2 27 2 2 = true := by decide +kernel
theorem fi_21_112 : mn_fi 21 2 112 2 3 = true := by decide +kernel
theorem fi_21_19 : mn_fi 21 2 19 2 1 = true := by decide +kernel
theorem fr_21_9 : mn_fr 21 2 9 2 0 = true := by decide +kernel
theorem cv_21_64 : mn_cvt 21 2 64 24 = true := by decide +kernel
theorem b_X2_readNumber_0 {x1 x2 : Int32} {h h' : mn_H} {r : Option Value} : mn_E 21 0 [.ref 1, .int x1, .int x2, .null] [] h r h' ↔ ∃ h1, mn_X 23 [.ref 1] h none h1 ∧ mn_E 21 4 [.ref 1, .int x1, .int x2, .null] [] h1 r h' :=
  (mX_aload_n d_X2_readNumber_0 rfl).trans <| mV_v (a := 1) (vs := []) (st' := []) d_X2_readNumber_1 cv_21_33 rfl (Nat.le_of_ble_eq_true rfl) rfl rfl rfl rfl
theorem b_X2_readNumber_4 {x1 x2 : Int32} {h h' : mn_H} {r : Option Value} : mn_E 21 4 [.ref 1, .int x1, .int x2, .null] [] h r h' ↔ mn_E 21 14 [.ref 1, .int x1, .int x2, .int 0] [] (mn_up h 1 3 (h 1 2)) r h' :=
  (mX_aload_n d_X2_readNumber_4 rfl).trans <| (mX_aload_n d_X2_readNumber_5 rfl).trans <| (mG_i d_X2_readNumber_6 fi_21_27 rfl (by decide)).trans <| (mP_i d_X2_readNumber_9 fi_21_112 rfl (by decide) rfl (Or.inl (by decide))).trans <| (mX_iconst d_X2_readNumber_12 ci_0).trans <| mX_istore_n (ls' := [.ref 1, .int x1, .int x2, .int 0]) d_X2_readNumber_13 rfl rfl
theorem b_X2_readNumber_14 {x1 x2 x3 : Int32} {h h' : mn_H} {r : Option Value} : mn_E 21 14 [.ref 1, .int x1, .int x2, .int x3] [] h r h' ↔ if (h 1 1) ≤ (h 1 2) then mn_E 21 97 [.ref 1, .int x1, .int x2, .int x3] [] h r h' else mn_E 21 25 [.ref 1, .int x1, .int x2, .int x3] [] h r h' :=
  (mX_aload_n d_X2_readNumber_14 rfl).trans <| (mG_i d_X2_readNumber_15 fi_21_27 rfl (by decide)).trans <| (mX_aload_n d_X2_readNumber_18 rfl).trans <| (mG_i d_X2_readNumber_19 fi_21_19 rfl (by decide)).trans <| mX_icmp_ge d_X2_readNumber_22 rfl
theorem b_X2_readNumber_25 {x1 x2 x3 : Int32} {h h' : mn_H} {r : Option Value} (hy0 : vp_in (h 1 2) 250) : mn_E 21 25 [.ref 1, .int x1, .int x2, .int x3] [] h r h' ↔ if (h 2 (h 1 2).toNatClampNeg) < 48 then mn_E 21 97 [.ref 1, .int x1, .int x2, .int x3] [] h r h' else mn_E 21 39 [.ref 1, .int x1, .int x2, .int x3] [] h r h' :=
  (mX_aload_n d_X2_readNumber_25 rfl).trans <| (mG_r (b := 2) d_X2_readNumber_26 fr_21_9 rfl (by decide) rfl).trans <| (mX_aload_n d_X2_readNumber_29 rfl).trans <| (mG_i d_X2_readNumber_30 fi_21_27 rfl (by decide)).trans <| (mX_iaload d_X2_readNumber_33 rfl (by decide) hy0).trans <| (mX_bipush d_X2_readNumber_34 cb_48).trans <| mX_icmp_lt d_X2_readNumber_36 rfl
theorem b_X2_readNumber_39 {x1 x2 x3 : Int32} {h h' : mn_H} {r : Option Value} (hy0 : vp_in (h 1 2) 250) : mn_E 21 39 [.ref 1, .int x1, .int x2, .int x3] [] h r h' ↔ if (57 : Int32) < (h 2 (h 1 2).toNatClampNeg) then mn_E 21 97 [.ref 1, .int x1, .int x2, .int x3] [] h r h' else mn_E 21 53 [.ref 1, .int x1, .int x2, .int x3] [] h r h' :=
  (mX_aload_n d_X2_readNumber_39 rfl).trans <| (mG_r (b := 2) d_X2_readNumber_40 fr_21_9 rfl (by decide) rfl).trans <| (mX_aload_n d_X2_readNumber_43 rfl).trans <| (mG_i d_X2_readNumber_44 fi_21_27 rfl (by decide)).trans <| (mX_iaload d_X2_readNumber_47 rfl (by decide) hy0).trans <| (mX_bipush d_X2_readNumber_48 cb_57).trans <| mX_icmp_gt d_X2_readNumber_50 rfl
theorem b_X2_readNumber_53 {x1 x2 x3 : Int32} {h h' : mn_H} {r : Option Value} : mn_E 21 53 [.ref 1, .int x1, .int x2, .int x3] [] h r h' ↔ if (3 : Int32) ≤ ((h 1 2) - (h 1 3)) then mn_E 21 84 [.ref 1, .int x1, .int x2, .int x3] [] h r h' else mn_E 21 66 [.ref 1, .int x1, .int x2, .int x3] [] h r h' :=
  (mX_aload_n d_X2_readNumber_53 rfl).trans <| (mG_i d_X2_readNumber_54 fi_21_27 rfl (by decide)).trans <| (mX_aload_n d_X2_readNumber_57 rfl).trans <| (mG_i d_X2_readNumber_58 fi_21_112 rfl (by decide)).trans <| (mX_isub d_X2_readNumber_61).trans <| (mX_iconst d_X2_readNumber_62 ci_3).trans <| mX_icmp_ge d_X2_readNumber_63 rfl
theorem b_X2_readNumber_66 {x1 x2 x3 : Int32} {h h' : mn_H} {r : Option Value} (hy0 : vp_in (h 1 2) 250) : mn_E 21 66 [.ref 1, .int x1, .int x2, .int x3] [] h r h' ↔ mn_E 21 84 [.ref 1, .int x1, .int x2, .int ((x3 * 10) + ((h 2 (h 1 2).toNatClampNeg) - 48))] [] h r h' :=
  (mX_iload_n d_X2_readNumber_66 rfl).trans <| (mX_bipush d_X2_readNumber_67 cb_10).trans <| (mX_imul d_X2_readNumber_69).trans <| (mX_aload_n d_X2_readNumber_70 rfl).trans <| (mG_r (b := 2) d_X2_readNumber_71 fr_21_9 rfl (by decide) rfl).trans <| (mX_aload_n d_X2_readNumber_74 rfl).trans <| (mG_i d_X2_readNumber_75 fi_21_27 rfl (by decide)).trans <| (mX_iaload d_X2_readNumber_78 rfl (by decide) hy0).trans <| (mX_bipush d_X2_readNumber_79 cb_48).trans <| (mX_isub d_X2_readNumber_81).trans <| (mX_iadd d_X2_readNumber_82).trans <| mX_istore_n (ls' := [.ref 1, .int x1, .int x2, .int ((x3 * 10) + ((h 2 (h 1 2).toNatClampNeg) - 48))]) d_X2_readNumber_83 rfl rfl
theorem b_X2_readNumber_84 {x1 x2 x3 : Int32} {h h' : mn_H} {r : Option Value} : mn_E 21 84 [.ref 1, .int x1, .int x2, .int x3] [] h r h' ↔ mn_E 21 14 [.ref 1, .int x1, .int x2, .int x3] [] (mn_up h 1 2 ((h 1 2) + 1)) r h' :=
  (mX_aload_n d_X2_readNumber_84 rfl).trans <| (mX_dup d_X2_readNumber_85 rfl).trans <| (mG_i d_X2_readNumber_86 fi_21_27 rfl (by decide)).trans <| (mX_iconst d_X2_readNumber_89 ci_1).trans <| (mX_iadd d_X2_readNumber_90).trans <| (mP_i d_X2_readNumber_91 fi_21_27 rfl (by decide) rfl (Or.inl (by decide))).trans <| mX_goto d_X2_readNumber_94 rfl
theorem b_X2_readNumber_97 {x1 x2 x3 : Int32} {h h' : mn_H} {r : Option Value} : mn_E 21 97 [.ref 1, .int x1, .int x2, .int x3] [] h r h' ↔ if ¬ (h 1 2) = (h 1 3) then mn_E 21 120 [.ref 1, .int x1, .int x2, .int x3] [] h r h' else mn_E 21 108 [.ref 1, .int x1, .int x2, .int x3] [] h r h' :=
  (mX_aload_n d_X2_readNumber_97 rfl).trans <| (mG_i d_X2_readNumber_98 fi_21_27 rfl (by decide)).trans <| (mX_aload_n d_X2_readNumber_101 rfl).trans <| (mG_i d_X2_readNumber_102 fi_21_112 rfl (by decide)).trans <| mX_icmp_ne d_X2_readNumber_105 rfl
theorem b_X2_readNumber_108 {x1 x2 x3 : Int32} {h h' : mn_H} {r : Option Value} : mn_E 21 108 [.ref 1, .int x1, .int x2, .int x3] [] h r h' ↔ ∃ h1, mn_X 24 [.ref 1, .int 1, .int (h 1 2)] h none h1 ∧ mn_E 21 117 [.ref 1, .int x1, .int x2, .int x3] [] h1 r h' :=
  (mX_aload_n d_X2_readNumber_108 rfl).trans <| (mX_iconst d_X2_readNumber_109 ci_1).trans <| (mX_aload_n d_X2_readNumber_110 rfl).trans <| (mG_i d_X2_readNumber_111 fi_21_27 rfl (by decide)).trans <| mV_v (a := 1) (vs := [.int 1, .int (h 1 2)]) (st' := []) d_X2_readNumber_114 cv_21_64 rfl (Nat.le_of_ble_eq_true rfl) rfl rfl rfl rfl
theorem b_X2_readNumber_117 {x1 x2 x3 : Int32} {h h' : mn_H} {r : Option Value} : mn_E 21 117 [.ref 1, .int x1, .int x2, .int x3] [] h r h' ↔ mn_E 21 152 [.ref 1, .int x1, .int x2, .int x3] [] h r h' :=
  mX_goto d_X2_readNumber_117 rfl
theorem b_X2_readNumber_120 {x1 x2 x3 : Int32} {h h' : mn_H} {r : Option Value} : mn_E 21 120 [.ref 1, .int x1, .int x2, .int x3] [] h r h' ↔ if (3 : Int32) < ((h 1 2) - (h 1 3)) then mn_E 21 143 [.ref 1, .int x1, .int x2, .int x3] [] h r h' else mn_E 21 133 [.ref 1, .int x1, .int x2, .int x3] [] h r h' :=
  (mX_aload_n d_X2_readNumber_120 rfl).trans <| (mG_i d_X2_readNumber_121 fi_21_27 rfl (by decide)).trans <| (mX_aload_n d_X2_readNumber_124 rfl).trans <| (mG_i d_X2_readNumber_125 fi_21_112 rfl (by decide)).trans <| (mX_isub d_X2_readNumber_128).trans <| (mX_iconst d_X2_readNumber_129 ci_3).trans <| mX_icmp_gt d_X2_readNumber_130 rfl
theorem b_X2_readNumber_133 {x1 x2 x3 : Int32} {h h' : mn_H} {r : Option Value} : mn_E 21 133 [.ref 1, .int x1, .int x2, .int x3] [] h r h' ↔ if x3 < x1 then mn_E 21 143 [.ref 1, .int x1, .int x2, .int x3] [] h r h' else mn_E 21 138 [.ref 1, .int x1, .int x2, .int x3] [] h r h' :=
  (mX_iload_n d_X2_readNumber_133 rfl).trans <| (mX_iload_n d_X2_readNumber_134 rfl).trans <| mX_icmp_lt d_X2_readNumber_135 rfl
theorem b_X2_readNumber_138 {x1 x2 x3 : Int32} {h h' : mn_H} {r : Option Value} : mn_E 21 138 [.ref 1, .int x1, .int x2, .int x3] [] h r h' ↔ if x3 ≤ x2 then mn_E 21 152 [.ref 1, .int x1, .int x2, .int x3] [] h r h' else mn_E 21 143 [.ref 1, .int x1, .int x2, .int x3] [] h r h' :=
  (mX_iload_n d_X2_readNumber_138 rfl).trans <| (mX_iload_n d_X2_readNumber_139 rfl).trans <| mX_icmp_le d_X2_readNumber_140 rfl
theorem b_X2_readNumber_143 {x1 x2 x3 : Int32} {h h' : mn_H} {r : Option Value} : mn_E 21 143 [.ref 1, .int x1, .int x2, .int x3] [] h r h' ↔ ∃ h1, mn_X 24 [.ref 1, .int 2, .int (h 1 3)] h none h1 ∧ mn_E 21 152 [.ref 1, .int x1, .int x2, .int x3] [] h1 r h' :=
  (mX_aload_n d_X2_readNumber_143 rfl).trans <| (mX_iconst d_X2_readNumber_144 ci_2).trans <| (mX_aload_n d_X2_readNumber_145 rfl).trans <| (mG_i d_X2_readNumber_146 fi_21_112 rfl (by decide)).trans <| mV_v (a := 1) (vs := [.int 2, .int (h 1 3)]) (st' := []) d_X2_readNumber_149 cv_21_64 rfl (Nat.le_of_ble_eq_true rfl) rfl rfl rfl rfl
theorem b_X2_readNumber_152 {x1 x2 x3 : Int32} {h h' : mn_H} {r : Option Value} : mn_E 21 152 [.ref 1, .int x1, .int x2, .int x3] [] h r h' ↔ r = some (.int x3) ∧ h' = h :=
  (mX_iload_n d_X2_readNumber_152 rfl).trans <| mX_iret d_X2_readNumber_153 rfl
-- X2_clauseEnds
theorem mo_22 : mO 22 = 2 := rfl
theorem d_X2_clauseEnds_0 : decode (mC 22) 0 = .ok (.aload_n 0, 1) := by decide +kernel
theorem d_X2_clauseEnds_1 : decode (mC 22) 1 = .ok (.invokevirtual 33, 3) := by decide +kernel
theorem d_X2_clauseEnds_4 : decode (mC 22) 4 = .ok (.aload_n 0, 1) := by decide +kernel
theorem d_X2_clauseEnds_5 : decode (mC 22) 5 = .ok (.getfield 27, 3) := by decide +kernel
theorem d_X2_clauseEnds_8 : decode (mC 22) 8 = .ok (.aload_n 0, 1) := by decide +kernel
theorem d_X2_clauseEnds_9 : decode (mC 22) 9 = .ok (.getfield 19, 3) := by decide +kernel
theorem d_X2_clauseEnds_12 : decode (mC 22) 12 = .ok (.if_icmp .ge 17, 3) := by decide +kernel
theorem d_X2_clauseEnds_15 : decode (mC 22) 15 = .ok (.aload_n 0, 1) := by decide +kernel
theorem d_X2_clauseEnds_16 : decode (mC 22) 16 = .ok (.getfield 9, 3) := by decide +kernel
theorem d_X2_clauseEnds_19 : decode (mC 22) 19 = .ok (.aload_n 0, 1) := by decide +kernel
theorem d_X2_clauseEnds_20 : decode (mC 22) 20 = .ok (.getfield 27, 3) := by decide +kernel
theorem d_X2_clauseEnds_23 : decode (mC 22) 23 = .ok (.iaload, 1) := by decide +kernel
theorem d_X2_clauseEnds_24 : decode (mC 22) 24 = .ok (.bipush 59, 2) := by decide +kernel
theorem d_X2_clauseEnds_26 : decode (mC 22) 26 = .ok (.if_icmp .eq 15, 3) := by decide +kernel
theorem d_X2_clauseEnds_29 : decode (mC 22) 29 = .ok (.aload_n 0, 1) := by decide +kernel
theorem d_X2_clauseEnds_30 : decode (mC 22) 30 = .ok (.iconst 1, 1) := by decide +kernel
theorem d_X2_clauseEnds_31 : decode (mC 22) 31 = .ok (.aload_n 0, 1) := by decide +kernel
theorem d_X2_clauseEnds_32 : decode (mC 22) 32 = .ok (.getfield 27, 3) := by decide +kernel
theorem d_X2_clauseEnds_35 : decode (mC 22) 35 = .ok (.invokevirtual 64, 3) := by decide +kernel
theorem d_X2_clauseEnds_38 : decode (mC 22) 38 = .ok (.goto 13, 3) := by decide +kernel
theorem d_X2_clauseEnds_41 : decode (mC 22) 41 = .ok (.aload_n 0, 1) := by decide +kernel
theorem d_X2_clauseEnds_42 : decode (mC 22) 42 = .ok (.dup, 1) := by decide +kernel
theorem d_X2_clauseEnds_43 : decode (mC 22) 43 = .ok (.getfield 27, 3) := by decide +kernel
theorem d_X2_clauseEnds_46 : decode (mC 22) 46 = .ok (.iconst 1, 1) := by decide +kernel
theorem d_X2_clauseEnds_47 : decode (mC 22) 47 = .ok (.iadd, 1) := by decide +kernel
theorem d_X2_clauseEnds_48 : decode (mC 22) 48 = .ok (.putfield 27, 3) := by decide +kernel
theorem d_X2_clauseEnds_51 : decode (mC 22) 51 = .ok (.aload_n 0, 1) := by decide +kernel
theorem d_X2_clauseEnds_52 : decode (mC 22) 52 = .ok (.getfield 30, 3) := by decide +kernel
theorem d_X2_clauseEnds_55 : decode (mC 22) 55 = .ok (.ifCond .ne 7, 3) := by decide +kernel
theorem d_X2_clauseEnds_58 : decode (mC 22) 58 = .ok (.iconst 1, 1) := by decide +kernel
theorem d_X2_clauseEnds_59 : decode (mC 22) 59 = .ok (.goto 4, 3) := by decide +kernel
theorem d_X2_clauseEnds_62 : decode (mC 22) 62 = .ok (.iconst 0, 1) := by decide +kernel
theorem d_X2_clauseEnds_63 : decode (mC 22) 63 = .ok (.ireturn, 1) := by decide +kernel
theorem cv_22_33 : mn_cvt 22 2 33 23 = true := by decide +kernel
theorem fi_22_27 : mn_fi 22 2 27 2 2 = true := by decide +kernel
theorem fi_22_19 : mn_fi 22 2 19 2 1 = true := by decide +kernel
theorem fr_22_9 : mn_fr 22 2 9 2 0 = true := by decide +kernel
theorem fi_22_30 : mn_fi 22 2 30 2 4 = true := by decide +kernel
theorem cv_22_64 : mn_cvt 22 2 64 24 = true := by decide +kernel
theorem b_X2_clauseEnds_0 {h h' : mn_H} {r : Option Value} : mn_E 22 0 [.ref 1] [] h r h' ↔ ∃ h1, mn_X 23 [.ref 1] h none h1 ∧ mn_E 22 4 [.ref 1] [] h1 r h' :=
  (mX_aload_n d_X2_clauseEnds_0 rfl).trans <| mV_v (a := 1) (vs := []) (st' := []) d_X2_clauseEnds_1 cv_22_33 rfl (Nat.le_of_ble_eq_true rfl) rfl rfl rfl rfl
theorem b_X2_clauseEnds_4 {h h' : mn_H} {r : Option Value} : mn_E 22 4 [.ref 1] [] h r h' ↔ if (h 1 1) ≤ (h 1 2) then mn_E 22 29 [.ref 1] [] h r h' else mn_E 22 15 [.ref 1] [] h r h' :=
  (mX_aload_n d_X2_clauseEnds_4 rfl).trans <| (mG_i d_X2_clauseEnds_5 fi_22_27 rfl (by decide)).trans <| (mX_aload_n d_X2_clauseEnds_8 rfl).trans <| (mG_i d_X2_clauseEnds_9 fi_22_19 rfl (by decide)).trans <| mX_icmp_ge d_X2_clauseEnds_12 rfl
theorem b_X2_clauseEnds_15 {h h' : mn_H} {r : Option Value} (hy0 : vp_in (h 1 2) 250) : mn_E 22 15 [.ref 1] [] h r h' ↔ if (h 2 (h 1 2).toNatClampNeg) = 59 then mn_E 22 41 [.ref 1] [] h r h' else mn_E 22 29 [.ref 1] [] h r h' :=
  (mX_aload_n d_X2_clauseEnds_15 rfl).trans <| (mG_r (b := 2) d_X2_clauseEnds_16 fr_22_9 rfl (by decide) rfl).trans <| (mX_aload_n d_X2_clauseEnds_19 rfl).trans <| (mG_i d_X2_clauseEnds_20 fi_22_27 rfl (by decide)).trans <| (mX_iaload d_X2_clauseEnds_23 rfl (by decide) hy0).trans <| (mX_bipush d_X2_clauseEnds_24 cb_59).trans <| mX_icmp_eq d_X2_clauseEnds_26 rfl
theorem b_X2_clauseEnds_29 {h h' : mn_H} {r : Option Value} : mn_E 22 29 [.ref 1] [] h r h' ↔ ∃ h1, mn_X 24 [.ref 1, .int 1, .int (h 1 2)] h none h1 ∧ mn_E 22 38 [.ref 1] [] h1 r h' :=
  (mX_aload_n d_X2_clauseEnds_29 rfl).trans <| (mX_iconst d_X2_clauseEnds_30 ci_1).trans <| (mX_aload_n d_X2_clauseEnds_31 rfl).trans <| (mG_i d_X2_clauseEnds_32 fi_22_27 rfl (by decide)).trans <| mV_v (a := 1) (vs := [.int 1, .int (h 1 2)]) (st' := []) d_X2_clauseEnds_35 cv_22_64 rfl (Nat.le_of_ble_eq_true rfl) rfl rfl rfl rfl
theorem b_X2_clauseEnds_38 {h h' : mn_H} {r : Option Value} : mn_E 22 38 [.ref 1] [] h r h' ↔ mn_E 22 51 [.ref 1] [] h r h' :=
  mX_goto d_X2_clauseEnds_38 rfl
theorem b_X2_clauseEnds_41 {h h' : mn_H} {r : Option Value} : mn_E 22 41 [.ref 1] [] h r h' ↔ mn_E 22 51 [.ref 1] [] (mn_up h 1 2 ((h 1 2) + 1)) r h' :=
  (mX_aload_n d_X2_clauseEnds_41 rfl).trans <| (mX_dup d_X2_clauseEnds_42 rfl).trans <| (mG_i d_X2_clauseEnds_43 fi_22_27 rfl (by decide)).trans <| (mX_iconst d_X2_clauseEnds_46 ci_1).trans <| (mX_iadd d_X2_clauseEnds_47).trans <| mP_i d_X2_clauseEnds_48 fi_22_27 rfl (by decide) rfl (Or.inl (by decide))
theorem b_X2_clauseEnds_51 {h h' : mn_H} {r : Option Value} : mn_E 22 51 [.ref 1] [] h r h' ↔ if ¬ (h 1 4) = 0 then mn_E 22 62 [.ref 1] [] h r h' else mn_E 22 58 [.ref 1] [] h r h' :=
  (mX_aload_n d_X2_clauseEnds_51 rfl).trans <| (mG_i d_X2_clauseEnds_52 fi_22_30 rfl (by decide)).trans <| mX_if_ne d_X2_clauseEnds_55 rfl
theorem b_X2_clauseEnds_58 {h h' : mn_H} {r : Option Value} : mn_E 22 58 [.ref 1] [] h r h' ↔ mn_E 22 63 [.ref 1] [.int 1] h r h' :=
  (mX_iconst d_X2_clauseEnds_58 ci_1).trans <| mX_goto d_X2_clauseEnds_59 rfl
theorem b_X2_clauseEnds_62 {h h' : mn_H} {r : Option Value} : mn_E 22 62 [.ref 1] [] h r h' ↔ mn_E 22 63 [.ref 1] [.int 0] h r h' :=
  mX_iconst d_X2_clauseEnds_62 ci_0
theorem b_X2_clauseEnds_63 {s0 : Int32} {h h' : mn_H} {r : Option Value} (hy0 : s0 = 0 ∨ s0 = 1) : mn_E 22 63 [.ref 1] [.int s0] h r h' ↔ r = some (.int s0) ∧ h' = h :=
  mX_zret d_X2_clauseEnds_63 rfl hy0
-- X2_skipBlanks
theorem mo_23 : mO 23 = 2 := rfl
theorem d_X2_skipBlanks_0 : decode (mC 23) 0 = .ok (.aload_n 0, 1) := by decide +kernel
theorem d_X2_skipBlanks_1 : decode (mC 23) 1 = .ok (.getfield 27, 3) := by decide +kernel
theorem d_X2_skipBlanks_4 : decode (mC 23) 4 = .ok (.aload_n 0, 1) := by decide +kernel
theorem d_X2_skipBlanks_5 : decode (mC 23) 5 = .ok (.getfield 19, 3) := by decide +kernel
theorem d_X2_skipBlanks_8 : decode (mC 23) 8 = .ok (.if_icmp .ge 30, 3) := by decide +kernel
theorem d_X2_skipBlanks_11 : decode (mC 23) 11 = .ok (.aload_n 0, 1) := by decide +kernel
theorem d_X2_skipBlanks_12 : decode (mC 23) 12 = .ok (.getfield 9, 3) := by decide +kernel
theorem d_X2_skipBlanks_15 : decode (mC 23) 15 = .ok (.aload_n 0, 1) := by decide +kernel
theorem d_X2_skipBlanks_16 : decode (mC 23) 16 = .ok (.getfield 27, 3) := by decide +kernel
theorem d_X2_skipBlanks_19 : decode (mC 23) 19 = .ok (.iaload, 1) := by decide +kernel
theorem d_X2_skipBlanks_20 : decode (mC 23) 20 = .ok (.bipush 32, 2) := by decide +kernel
theorem d_X2_skipBlanks_22 : decode (mC 23) 22 = .ok (.if_icmp .ne 16, 3) := by decide +kernel
theorem d_X2_skipBlanks_25 : decode (mC 23) 25 = .ok (.aload_n 0, 1) := by decide +kernel
theorem d_X2_skipBlanks_26 : decode (mC 23) 26 = .ok (.dup, 1) := by decide +kernel
theorem d_X2_skipBlanks_27 : decode (mC 23) 27 = .ok (.getfield 27, 3) := by decide +kernel
theorem d_X2_skipBlanks_30 : decode (mC 23) 30 = .ok (.iconst 1, 1) := by decide +kernel
theorem d_X2_skipBlanks_31 : decode (mC 23) 31 = .ok (.iadd, 1) := by decide +kernel
theorem d_X2_skipBlanks_32 : decode (mC 23) 32 = .ok (.putfield 27, 3) := by decide +kernel
theorem d_X2_skipBlanks_35 : decode (mC 23) 35 = .ok (.goto (-35), 3) := by decide +kernel
theorem d_X2_skipBlanks_38 : decode (mC 23) 38 = .ok (.return_, 1) := by decide +kernel
theorem fi_23_27 : mn_fi 23 2 27 2 2 = true := by decide +kernel
theorem fi_23_19 : mn_fi 23 2 19 2 1 = true := by decide +kernel
theorem fr_23_9 : mn_fr 23 2 9 2 0 = true := by decide +kernel
theorem b_X2_skipBlanks_0 {h h' : mn_H} {r : Option Value} : mn_E 23 0 [.ref 1] [] h r h' ↔ if (h 1 1) ≤ (h 1 2) then mn_E 23 38 [.ref 1] [] h r h' else mn_E 23 11 [.ref 1] [] h r h' :=
  (mX_aload_n d_X2_skipBlanks_0 rfl).trans <| (mG_i d_X2_skipBlanks_1 fi_23_27 rfl (by decide)).trans <| (mX_aload_n d_X2_skipBlanks_4 rfl).trans <| (mG_i d_X2_skipBlanks_5 fi_23_19 rfl (by decide)).trans <| mX_icmp_ge d_X2_skipBlanks_8 rfl
theorem b_X2_skipBlanks_11 {h h' : mn_H} {r : Option Value} (hy0 : vp_in (h 1 2) 250) : mn_E 23 11 [.ref 1] [] h r h' ↔ if ¬ (h 2 (h 1 2).toNatClampNeg) = 32 then mn_E 23 38 [.ref 1] [] h r h' else mn_E 23 25 [.ref 1] [] h r h' :=
  (mX_aload_n d_X2_skipBlanks_11 rfl).trans <| (mG_r (b := 2) d_X2_skipBlanks_12 fr_23_9 rfl (by decide) rfl).trans <| (mX_aload_n d_X2_skipBlanks_15 rfl).trans <| (mG_i d_X2_skipBlanks_16 fi_23_27 rfl (by decide)).trans <| (mX_iaload d_X2_skipBlanks_19 rfl (by decide) hy0).trans <| (mX_bipush d_X2_skipBlanks_20 cb_32).trans <| mX_icmp_ne d_X2_skipBlanks_22 rfl
theorem b_X2_skipBlanks_25 {h h' : mn_H} {r : Option Value} : mn_E 23 25 [.ref 1] [] h r h' ↔ mn_E 23 0 [.ref 1] [] (mn_up h 1 2 ((h 1 2) + 1)) r h' :=
  (mX_aload_n d_X2_skipBlanks_25 rfl).trans <| (mX_dup d_X2_skipBlanks_26 rfl).trans <| (mG_i d_X2_skipBlanks_27 fi_23_27 rfl (by decide)).trans <| (mX_iconst d_X2_skipBlanks_30 ci_1).trans <| (mX_iadd d_X2_skipBlanks_31).trans <| (mP_i d_X2_skipBlanks_32 fi_23_27 rfl (by decide) rfl (Or.inl (by decide))).trans <| mX_goto d_X2_skipBlanks_35 rfl
theorem b_X2_skipBlanks_38 {h h' : mn_H} {r : Option Value} : mn_E 23 38 [.ref 1] [] h r h' ↔ r = none ∧ h' = h :=
  mX_vret d_X2_skipBlanks_38 rfl
-- X2_blame
theorem mo_24 : mO 24 = 2 := rfl
theorem d_X2_blame_0 : decode (mC 24) 0 = .ok (.aload_n 0, 1) := by decide +kernel
theorem d_X2_blame_1 : decode (mC 24) 1 = .ok (.getfield 30, 3) := by decide +kernel
theorem d_X2_blame_4 : decode (mC 24) 4 = .ok (.ifCond .ne 13, 3) := by decide +kernel
theorem d_X2_blame_7 : decode (mC 24) 7 = .ok (.aload_n 0, 1) := by decide +kernel
theorem d_X2_blame_8 : decode (mC 24) 8 = .ok (.iload_n 1, 1) := by decide +kernel
theorem d_X2_blame_9 : decode (mC 24) 9 = .ok (.putfield 30, 3) := by decide +kernel
theorem d_X2_blame_12 : decode (mC 24) 12 = .ok (.aload_n 0, 1) := by decide +kernel
theorem d_X2_blame_13 : decode (mC 24) 13 = .ok (.iload_n 2, 1) := by decide +kernel
theorem d_X2_blame_14 : decode (mC 24) 14 = .ok (.putfield 15, 3) := by decide +kernel
theorem d_X2_blame_17 : decode (mC 24) 17 = .ok (.return_, 1) := by decide +kernel
theorem fi_24_30 : mn_fi 24 2 30 2 4 = true := by decide +kernel
theorem fi_24_15 : mn_fi 24 2 15 2 5 = true := by decide +kernel
theorem b_X2_blame_0 {x1 x2 : Int32} {h h' : mn_H} {r : Option Value} : mn_E 24 0 [.ref 1, .int x1, .int x2] [] h r h' ↔ if ¬ (h 1 4) = 0 then mn_E 24 17 [.ref 1, .int x1, .int x2] [] h r h' else mn_E 24 7 [.ref 1, .int x1, .int x2] [] h r h' :=
  (mX_aload_n d_X2_blame_0 rfl).trans <| (mG_i d_X2_blame_1 fi_24_30 rfl (by decide)).trans <| mX_if_ne d_X2_blame_4 rfl
theorem b_X2_blame_7 {x1 x2 : Int32} {h h' : mn_H} {r : Option Value} : mn_E 24 7 [.ref 1, .int x1, .int x2] [] h r h' ↔ mn_E 24 17 [.ref 1, .int x1, .int x2] [] (mn_up (mn_up h 1 4 x1) 1 5 x2) r h' :=
  (mX_aload_n d_X2_blame_7 rfl).trans <| (mX_iload_n d_X2_blame_8 rfl).trans <| (mP_i d_X2_blame_9 fi_24_30 rfl (by decide) rfl (Or.inl (by decide))).trans <| (mX_aload_n d_X2_blame_12 rfl).trans <| (mX_iload_n d_X2_blame_13 rfl).trans <| mP_i d_X2_blame_14 fi_24_15 rfl (by decide) rfl (Or.inl (by decide))
theorem b_X2_blame_17 {x1 x2 : Int32} {h h' : mn_H} {r : Option Value} : mn_E 24 17 [.ref 1, .int x1, .int x2] [] h r h' ↔ r = none ∧ h' = h :=
  mX_vret d_X2_blame_17 rfl
-- X3_countOf
theorem mo_25 : mO 25 = 3 := rfl
theorem d_X3_countOf_0 : decode (mC 25) 0 = .ok (.aload_n 0, 1) := by decide +kernel
theorem d_X3_countOf_1 : decode (mC 25) 1 = .ok (.getfield 9, 3) := by decide +kernel
theorem d_X3_countOf_4 : decode (mC 25) 4 = .ok (.iload_n 1, 1) := by decide +kernel
theorem d_X3_countOf_5 : decode (mC 25) 5 = .ok (.iaload, 1) := by decide +kernel
theorem d_X3_countOf_6 : decode (mC 25) 6 = .ok (.ireturn, 1) := by decide +kernel
theorem fr_25_9 : mn_fr 25 3 9 3 0 = true := by decide +kernel
theorem b_X3_countOf_0 {x1 : Int32} {h h' : mn_H} {r : Option Value} (hy0 : vp_in x1 5) : mn_E 25 0 [.ref 10, .int x1] [] h r h' ↔ r = some (.int (h 11 x1.toNatClampNeg)) ∧ h' = h :=
  (mX_aload_n d_X3_countOf_0 rfl).trans <| (mG_r (b := 11) d_X3_countOf_1 fr_25_9 rfl (by decide) rfl).trans <| (mX_iload_n d_X3_countOf_4 rfl).trans <| (mX_iaload d_X3_countOf_5 rfl (by decide) hy0).trans <| mX_iret d_X3_countOf_6 rfl
-- X3_countAll
theorem mo_26 : mO 26 = 3 := rfl
theorem d_X3_countAll_0 : decode (mC 26) 0 = .ok (.iconst 0, 1) := by decide +kernel
theorem d_X3_countAll_1 : decode (mC 26) 1 = .ok (.istore_n 1, 1) := by decide +kernel
theorem d_X3_countAll_2 : decode (mC 26) 2 = .ok (.iconst 0, 1) := by decide +kernel
theorem d_X3_countAll_3 : decode (mC 26) 3 = .ok (.istore_n 2, 1) := by decide +kernel
theorem d_X3_countAll_4 : decode (mC 26) 4 = .ok (.iload_n 2, 1) := by decide +kernel
theorem d_X3_countAll_5 : decode (mC 26) 5 = .ok (.iconst 5, 1) := by decide +kernel
theorem d_X3_countAll_6 : decode (mC 26) 6 = .ok (.if_icmp .ge 18, 3) := by decide +kernel
theorem d_X3_countAll_9 : decode (mC 26) 9 = .ok (.iload_n 1, 1) := by decide +kernel
theorem d_X3_countAll_10 : decode (mC 26) 10 = .ok (.aload_n 0, 1) := by decide +kernel
theorem d_X3_countAll_11 : decode (mC 26) 11 = .ok (.getfield 9, 3) := by decide +kernel
theorem d_X3_countAll_14 : decode (mC 26) 14 = .ok (.iload_n 2, 1) := by decide +kernel
theorem d_X3_countAll_15 : decode (mC 26) 15 = .ok (.iaload, 1) := by decide +kernel
theorem d_X3_countAll_16 : decode (mC 26) 16 = .ok (.iadd, 1) := by decide +kernel
theorem d_X3_countAll_17 : decode (mC 26) 17 = .ok (.istore_n 1, 1) := by decide +kernel
theorem d_X3_countAll_18 : decode (mC 26) 18 = .ok (.iinc 2 1, 3) := by decide +kernel
theorem d_X3_countAll_21 : decode (mC 26) 21 = .ok (.goto (-17), 3) := by decide +kernel
theorem d_X3_countAll_24 : decode (mC 26) 24 = .ok (.iload_n 1, 1) := by decide +kernel
theorem d_X3_countAll_25 : decode (mC 26) 25 = .ok (.ireturn, 1) := by decide +kernel
theorem fr_26_9 : mn_fr 26 3 9 3 0 = true := by decide +kernel
theorem b_X3_countAll_0 {h h' : mn_H} {r : Option Value} : mn_E 26 0 [.ref 10, .null, .null] [] h r h' ↔ mn_E 26 4 [.ref 10, .int 0, .int 0] [] h r h' :=
  (mX_iconst d_X3_countAll_0 ci_0).trans <| (mX_istore_n (ls' := [.ref 10, .int 0, .null]) d_X3_countAll_1 rfl rfl).trans <| (mX_iconst d_X3_countAll_2 ci_0).trans <| mX_istore_n (ls' := [.ref 10, .int 0, .int 0]) d_X3_countAll_3 rfl rfl
theorem b_X3_countAll_4 {x1 x2 : Int32} {h h' : mn_H} {r : Option Value} : mn_E 26 4 [.ref 10, .int x1, .int x2] [] h r h' ↔ if (5 : Int32) ≤ x2 then mn_E 26 24 [.ref 10, .int x1, .int x2] [] h r h' else mn_E 26 9 [.ref 10, .int x1, .int x2] [] h r h' :=
  (mX_iload_n d_X3_countAll_4 rfl).trans <| (mX_iconst d_X3_countAll_5 ci_5).trans <| mX_icmp_ge d_X3_countAll_6 rfl
theorem b_X3_countAll_9 {x1 x2 : Int32} {h h' : mn_H} {r : Option Value} (hy0 : vp_in x2 5) : mn_E 26 9 [.ref 10, .int x1, .int x2] [] h r h' ↔ mn_E 26 4 [.ref 10, .int (x1 + (h 11 x2.toNatClampNeg)), .int (x2 + 1)] [] h r h' :=
  (mX_iload_n d_X3_countAll_9 rfl).trans <| (mX_aload_n d_X3_countAll_10 rfl).trans <| (mG_r (b := 11) d_X3_countAll_11 fr_26_9 rfl (by decide) rfl).trans <| (mX_iload_n d_X3_countAll_14 rfl).trans <| (mX_iaload d_X3_countAll_15 rfl (by decide) hy0).trans <| (mX_iadd d_X3_countAll_16).trans <| (mX_istore_n (ls' := [.ref 10, .int (x1 + (h 11 x2.toNatClampNeg)), .int x2]) d_X3_countAll_17 rfl rfl).trans <| (mX_iinc (ls' := [.ref 10, .int (x1 + (h 11 x2.toNatClampNeg)), .int (x2 + 1)]) d_X3_countAll_18 rfl ci_1 rfl rfl).trans <| mX_goto d_X3_countAll_21 rfl
theorem b_X3_countAll_24 {x1 x2 : Int32} {h h' : mn_H} {r : Option Value} : mn_E 26 24 [.ref 10, .int x1, .int x2] [] h r h' ↔ r = some (.int x1) ∧ h' = h :=
  (mX_iload_n d_X3_countAll_24 rfl).trans <| mX_iret d_X3_countAll_25 rfl
-- X3_forgetAll
theorem mo_27 : mO 27 = 3 := rfl
theorem d_X3_forgetAll_0 : decode (mC 27) 0 = .ok (.aload_n 0, 1) := by decide +kernel
theorem d_X3_forgetAll_1 : decode (mC 27) 1 = .ok (.getfield 9, 3) := by decide +kernel
theorem d_X3_forgetAll_4 : decode (mC 27) 4 = .ok (.iconst 0, 1) := by decide +kernel
theorem d_X3_forgetAll_5 : decode (mC 27) 5 = .ok (.invokestatic 28, 3) := by decide +kernel
theorem d_X3_forgetAll_8 : decode (mC 27) 8 = .ok (.return_, 1) := by decide +kernel
theorem fr_27_9 : mn_fr 27 3 9 3 0 = true := by decide +kernel
theorem cs_27_28 : mn_cs 27 3 28 192 = true := by decide +kernel
theorem b_X3_forgetAll_0 {h h' : mn_H} {r : Option Value} : mn_E 27 0 [.ref 10] [] h r h' ↔ ∃ h1, mn_X 192 [.ref 11, .int 0] h none h1 ∧ mn_E 27 8 [.ref 10] [] h1 r h' :=
  (mX_aload_n d_X3_forgetAll_0 rfl).trans <| (mG_r (b := 11) d_X3_forgetAll_1 fr_27_9 rfl (by decide) rfl).trans <| (mX_iconst d_X3_forgetAll_4 ci_0).trans <| mS_v (vs := [.ref 11, .int 0]) (st' := []) d_X3_forgetAll_5 cs_27_28 rfl (Nat.le_of_ble_eq_true rfl) rfl rfl rfl
theorem b_X3_forgetAll_8 {h h' : mn_H} {r : Option Value} : mn_E 27 8 [.ref 10] [] h r h' ↔ r = none ∧ h' = h :=
  mX_vret d_X3_forgetAll_8 rfl
-- X3_add
theorem mo_28 : mO 28 = 3 := rfl
theorem d_X3_add_0 : decode (mC 28) 0 = .ok (.aload_n 0, 1) := by decide +kernel
theorem d_X3_add_1 : decode (mC 28) 1 = .ok (.getfield 9, 3) := by decide +kernel
theorem d_X3_add_4 : decode (mC 28) 4 = .ok (.iload_n 1, 1) := by decide +kernel
theorem d_X3_add_5 : decode (mC 28) 5 = .ok (.iaload, 1) := by decide +kernel
theorem d_X3_add_6 : decode (mC 28) 6 = .ok (.bipush 12, 2) := by decide +kernel
theorem d_X3_add_8 : decode (mC 28) 8 = .ok (.if_icmp .lt 5, 3) := by decide +kernel
theorem d_X3_add_11 : decode (mC 28) 11 = .ok (.iconst 0, 1) := by decide +kernel
theorem d_X3_add_12 : decode (mC 28) 12 = .ok (.ireturn, 1) := by decide +kernel
theorem d_X3_add_13 : decode (mC 28) 13 = .ok (.iload_n 1, 1) := by decide +kernel
theorem d_X3_add_14 : decode (mC 28) 14 = .ok (.bipush 12, 2) := by decide +kernel
theorem d_X3_add_16 : decode (mC 28) 16 = .ok (.imul, 1) := by decide +kernel
theorem d_X3_add_17 : decode (mC 28) 17 = .ok (.aload_n 0, 1) := by decide +kernel
theorem d_X3_add_18 : decode (mC 28) 18 = .ok (.getfield 9, 3) := by decide +kernel
theorem d_X3_add_21 : decode (mC 28) 21 = .ok (.iload_n 1, 1) := by decide +kernel
theorem d_X3_add_22 : decode (mC 28) 22 = .ok (.iaload, 1) := by decide +kernel
theorem d_X3_add_23 : decode (mC 28) 23 = .ok (.iadd, 1) := by decide +kernel
theorem d_X3_add_24 : decode (mC 28) 24 = .ok (.istore 5, 2) := by decide +kernel
theorem d_X3_add_26 : decode (mC 28) 26 = .ok (.aload_n 0, 1) := by decide +kernel
theorem d_X3_add_27 : decode (mC 28) 27 = .ok (.getfield 15, 3) := by decide +kernel
theorem d_X3_add_30 : decode (mC 28) 30 = .ok (.iload 5, 2) := by decide +kernel
theorem d_X3_add_32 : decode (mC 28) 32 = .ok (.iload_n 2, 1) := by decide +kernel
theorem d_X3_add_33 : decode (mC 28) 33 = .ok (.bastore, 1) := by decide +kernel
theorem d_X3_add_34 : decode (mC 28) 34 = .ok (.aload_n 0, 1) := by decide +kernel
theorem d_X3_add_35 : decode (mC 28) 35 = .ok (.getfield 19, 3) := by decide +kernel
theorem d_X3_add_38 : decode (mC 28) 38 = .ok (.iload 5, 2) := by decide +kernel
theorem d_X3_add_40 : decode (mC 28) 40 = .ok (.iload_n 3, 1) := by decide +kernel
theorem d_X3_add_41 : decode (mC 28) 41 = .ok (.iastore, 1) := by decide +kernel
theorem d_X3_add_42 : decode (mC 28) 42 = .ok (.aload_n 0, 1) := by decide +kernel
theorem d_X3_add_43 : decode (mC 28) 43 = .ok (.getfield 22, 3) := by decide +kernel
theorem d_X3_add_46 : decode (mC 28) 46 = .ok (.iload 5, 2) := by decide +kernel
theorem d_X3_add_48 : decode (mC 28) 48 = .ok (.iload 4, 2) := by decide +kernel
theorem d_X3_add_50 : decode (mC 28) 50 = .ok (.iastore, 1) := by decide +kernel
theorem d_X3_add_51 : decode (mC 28) 51 = .ok (.aload_n 0, 1) := by decide +kernel
theorem d_X3_add_52 : decode (mC 28) 52 = .ok (.getfield 9, 3) := by decide +kernel
theorem d_X3_add_55 : decode (mC 28) 55 = .ok (.iload_n 1, 1) := by decide +kernel
theorem d_X3_add_56 : decode (mC 28) 56 = .ok (.dup2, 1) := by decide +kernel
theorem d_X3_add_57 : decode (mC 28) 57 = .ok (.iaload, 1) := by decide +kernel
theorem d_X3_add_58 : decode (mC 28) 58 = .ok (.iconst 1, 1) := by decide +kernel
theorem d_X3_add_59 : decode (mC 28) 59 = .ok (.iadd, 1) := by decide +kernel
theorem d_X3_add_60 : decode (mC 28) 60 = .ok (.iastore, 1) := by decide +kernel
theorem d_X3_add_61 : decode (mC 28) 61 = .ok (.iconst 1, 1) := by decide +kernel
theorem d_X3_add_62 : decode (mC 28) 62 = .ok (.ireturn, 1) := by decide +kernel
theorem fr_28_9 : mn_fr 28 3 9 3 0 = true := by decide +kernel
theorem fr_28_15 : mn_fr 28 3 15 3 1 = true := by decide +kernel
theorem fr_28_19 : mn_fr 28 3 19 3 2 = true := by decide +kernel
theorem fr_28_22 : mn_fr 28 3 22 3 3 = true := by decide +kernel
theorem b_X3_add_0 {x1 x2 x3 x4 : Int32} {h h' : mn_H} {r : Option Value} (hy0 : vp_in x1 5) : mn_E 28 0 [.ref 10, .int x1, .int x2, .int x3, .int x4, .null] [] h r h' ↔ if (h 11 x1.toNatClampNeg) < 12 then mn_E 28 13 [.ref 10, .int x1, .int x2, .int x3, .int x4, .null] [] h r h' else mn_E 28 11 [.ref 10, .int x1, .int x2, .int x3, .int x4, .null] [] h r h' :=
  (mX_aload_n d_X3_add_0 rfl).trans <| (mG_r (b := 11) d_X3_add_1 fr_28_9 rfl (by decide) rfl).trans <| (mX_iload_n d_X3_add_4 rfl).trans <| (mX_iaload d_X3_add_5 rfl (by decide) hy0).trans <| (mX_bipush d_X3_add_6 cb_12).trans <| mX_icmp_lt d_X3_add_8 rfl
theorem b_X3_add_11 {x1 x2 x3 x4 : Int32} {h h' : mn_H} {r : Option Value} : mn_E 28 11 [.ref 10, .int x1, .int x2, .int x3, .int x4, .null] [] h r h' ↔ r = some (.int 0) ∧ h' = h :=
  (mX_iconst d_X3_add_11 ci_0).trans <| mX_zret d_X3_add_12 rfl (by decide)
theorem b_X3_add_13 {x1 x2 x3 x4 : Int32} {h h' : mn_H} {r : Option Value} (hy0 : vp_in x1 5) (hy1 : x2 = 0 ∨ x2 = 1) (hy2 : vp_in ((x1 * 12) + (h 11 x1.toNatClampNeg)) 60) : mn_E 28 13 [.ref 10, .int x1, .int x2, .int x3, .int x4, .null] [] h r h' ↔ r = some (.int 1) ∧ h' = mn_up (mn_up (mn_up (mn_up h 12 (((x1 * 12) + (h 11 x1.toNatClampNeg)).toNatClampNeg) x2) 13 (((x1 * 12) + (h 11 x1.toNatClampNeg)).toNatClampNeg) x3) 14 (((x1 * 12) + (h 11 x1.toNatClampNeg)).toNatClampNeg) x4) 11 (x1.toNatClampNeg) (((mn_up (mn_up (mn_up h 12 (((x1 * 12) + (h 11 x1.toNatClampNeg)).toNatClampNeg) x2) 13 (((x1 * 12) + (h 11 x1.toNatClampNeg)).toNatClampNeg) x3) 14 (((x1 * 12) + (h 11 x1.toNatClampNeg)).toNatClampNeg) x4) 11 x1.toNatClampNeg) + 1) :=
  (mX_iload_n d_X3_add_13 rfl).trans <| (mX_bipush d_X3_add_14 cb_12).trans <| (mX_imul d_X3_add_16).trans <| (mX_aload_n d_X3_add_17 rfl).trans <| (mG_r (b := 11) d_X3_add_18 fr_28_9 rfl (by decide) rfl).trans <| (mX_iload_n d_X3_add_21 rfl).trans <| (mX_iaload d_X3_add_22 rfl (by decide) hy0).trans <| (mX_iadd d_X3_add_23).trans <| (mX_istore (ls' := [.ref 10, .int x1, .int x2, .int x3, .int x4, .int ((x1 * 12) + (h 11 x1.toNatClampNeg))]) d_X3_add_24 rfl rfl).trans <| (mX_aload_n d_X3_add_26 rfl).trans <| (mG_r (b := 12) d_X3_add_27 fr_28_15 rfl (by decide) rfl).trans <| (mX_iload d_X3_add_30 rfl).trans <| (mX_iload_n d_X3_add_32 rfl).trans <| (mX_bastore d_X3_add_33 rfl (by decide) hy2 hy1).trans <| (mX_aload_n d_X3_add_34 rfl).trans <| (mG_r (b := 13) d_X3_add_35 fr_28_19 rfl (by decide) rfl).trans <| (mX_iload d_X3_add_38 rfl).trans <| (mX_iload_n d_X3_add_40 rfl).trans <| (mX_iastore d_X3_add_41 rfl (by decide) hy2).trans <| (mX_aload_n d_X3_add_42 rfl).trans <| (mG_r (b := 14) d_X3_add_43 fr_28_22 rfl (by decide) rfl).trans <| (mX_iload d_X3_add_46 rfl).trans <| (mX_iload d_X3_add_48 rfl).trans <| (mX_iastore d_X3_add_50 rfl (by decide) hy2).trans <| (mX_aload_n d_X3_add_51 rfl).trans <| (mG_r (b := 11) d_X3_add_52 fr_28_9 rfl (by decide) rfl).trans <| (mX_iload_n d_X3_add_55 rfl).trans <| (mX_dup2 d_X3_add_56 ⟨rfl, rfl⟩).trans <| (mX_iaload d_X3_add_57 rfl (by decide) hy0).trans <| (mX_iconst d_X3_add_58 ci_1).trans <| (mX_iadd d_X3_add_59).trans <| (mX_iastore d_X3_add_60 rfl (by decide) hy0).trans <| (mX_iconst d_X3_add_61 ci_1).trans <| mX_zret d_X3_add_62 rfl (by decide)
-- X3_findSigns
theorem mo_29 : mO 29 = 3 := rfl
theorem d_X3_findSigns_0 : decode (mC 29) 0 = .ok (.aload_n 0, 1) := by decide +kernel
theorem d_X3_findSigns_1 : decode (mC 29) 1 = .ok (.iconst 0, 1) := by decide +kernel
theorem d_X3_findSigns_2 : decode (mC 29) 2 = .ok (.putfield 34, 3) := by decide +kernel
theorem d_X3_findSigns_5 : decode (mC 29) 5 = .ok (.iconst 0, 1) := by decide +kernel
theorem d_X3_findSigns_6 : decode (mC 29) 6 = .ok (.istore_n 2, 1) := by decide +kernel
theorem d_X3_findSigns_7 : decode (mC 29) 7 = .ok (.iload_n 2, 1) := by decide +kernel
theorem d_X3_findSigns_8 : decode (mC 29) 8 = .ok (.iconst 5, 1) := by decide +kernel
theorem d_X3_findSigns_9 : decode (mC 29) 9 = .ok (.if_icmp .ge 130, 3) := by decide +kernel
theorem d_X3_findSigns_12 : decode (mC 29) 12 = .ok (.iload_n 2, 1) := by decide +kernel
theorem d_X3_findSigns_13 : decode (mC 29) 13 = .ok (.iconst 2, 1) := by decide +kernel
theorem d_X3_findSigns_14 : decode (mC 29) 14 = .ok (.if_icmp .eq 8, 3) := by decide +kernel
theorem d_X3_findSigns_17 : decode (mC 29) 17 = .ok (.iload_n 2, 1) := by decide +kernel
theorem d_X3_findSigns_18 : decode (mC 29) 18 = .ok (.iconst 3, 1) := by decide +kernel
theorem d_X3_findSigns_19 : decode (mC 29) 19 = .ok (.if_icmp .ne 7, 3) := by decide +kernel
theorem d_X3_findSigns_22 : decode (mC 29) 22 = .ok (.iconst 1, 1) := by decide +kernel
theorem d_X3_findSigns_23 : decode (mC 29) 23 = .ok (.goto 4, 3) := by decide +kernel
theorem d_X3_findSigns_26 : decode (mC 29) 26 = .ok (.iconst 0, 1) := by decide +kernel
theorem d_X3_findSigns_27 : decode (mC 29) 27 = .ok (.istore_n 3, 1) := by decide +kernel
theorem d_X3_findSigns_28 : decode (mC 29) 28 = .ok (.iconst 0, 1) := by decide +kernel
theorem d_X3_findSigns_29 : decode (mC 29) 29 = .ok (.istore 4, 2) := by decide +kernel
theorem d_X3_findSigns_31 : decode (mC 29) 31 = .ok (.iload 4, 2) := by decide +kernel
theorem d_X3_findSigns_33 : decode (mC 29) 33 = .ok (.bipush 6, 2) := by decide +kernel
theorem d_X3_findSigns_35 : decode (mC 29) 35 = .ok (.if_icmp .ge 98, 3) := by decide +kernel
theorem d_X3_findSigns_38 : decode (mC 29) 38 = .ok (.iload_n 3, 1) := by decide +kernel
theorem d_X3_findSigns_39 : decode (mC 29) 39 = .ok (.ifCond .eq 10, 3) := by decide +kernel
theorem d_X3_findSigns_42 : decode (mC 29) 42 = .ok (.iload 4, 2) := by decide +kernel
theorem d_X3_findSigns_44 : decode (mC 29) 44 = .ok (.iconst 1, 1) := by decide +kernel
theorem d_X3_findSigns_45 : decode (mC 29) 45 = .ok (.iadd, 1) := by decide +kernel
theorem d_X3_findSigns_46 : decode (mC 29) 46 = .ok (.goto 4, 3) := by decide +kernel
theorem d_X3_findSigns_49 : decode (mC 29) 49 = .ok (.iconst 0, 1) := by decide +kernel
theorem d_X3_findSigns_50 : decode (mC 29) 50 = .ok (.istore 5, 2) := by decide +kernel
theorem d_X3_findSigns_52 : decode (mC 29) 52 = .ok (.iload 5, 2) := by decide +kernel
theorem d_X3_findSigns_54 : decode (mC 29) 54 = .ok (.iload_n 3, 1) := by decide +kernel
theorem d_X3_findSigns_55 : decode (mC 29) 55 = .ok (.ifCond .eq 8, 3) := by decide +kernel
theorem d_X3_findSigns_58 : decode (mC 29) 58 = .ok (.bipush 6, 2) := by decide +kernel
theorem d_X3_findSigns_60 : decode (mC 29) 60 = .ok (.goto 4, 3) := by decide +kernel
theorem d_X3_findSigns_63 : decode (mC 29) 63 = .ok (.iconst 1, 1) := by decide +kernel
theorem d_X3_findSigns_64 : decode (mC 29) 64 = .ok (.if_icmp .ge 63, 3) := by decide +kernel
theorem d_X3_findSigns_67 : decode (mC 29) 67 = .ok (.aload_n 0, 1) := by decide +kernel
theorem d_X3_findSigns_68 : decode (mC 29) 68 = .ok (.iload_n 1, 1) := by decide +kernel
theorem d_X3_findSigns_69 : decode (mC 29) 69 = .ok (.iload_n 2, 1) := by decide +kernel
theorem d_X3_findSigns_70 : decode (mC 29) 70 = .ok (.iload 4, 2) := by decide +kernel
theorem d_X3_findSigns_72 : decode (mC 29) 72 = .ok (.iload 5, 2) := by decide +kernel
theorem d_X3_findSigns_74 : decode (mC 29) 74 = .ok (.invokevirtual 38, 3) := by decide +kernel
theorem d_X3_findSigns_77 : decode (mC 29) 77 = .ok (.ifCond .eq 44, 3) := by decide +kernel
theorem d_X3_findSigns_80 : decode (mC 29) 80 = .ok (.aload_n 0, 1) := by decide +kernel
theorem d_X3_findSigns_81 : decode (mC 29) 81 = .ok (.getfield 34, 3) := by decide +kernel
theorem d_X3_findSigns_84 : decode (mC 29) 84 = .ok (.bipush 48, 2) := by decide +kernel
theorem d_X3_findSigns_86 : decode (mC 29) 86 = .ok (.if_icmp .ge 35, 3) := by decide +kernel
theorem d_X3_findSigns_89 : decode (mC 29) 89 = .ok (.aload_n 0, 1) := by decide +kernel
theorem d_X3_findSigns_90 : decode (mC 29) 90 = .ok (.getfield 25, 3) := by decide +kernel
theorem d_X3_findSigns_93 : decode (mC 29) 93 = .ok (.aload_n 0, 1) := by decide +kernel
theorem d_X3_findSigns_94 : decode (mC 29) 94 = .ok (.getfield 34, 3) := by decide +kernel
theorem d_X3_findSigns_97 : decode (mC 29) 97 = .ok (.bipush 100, 2) := by decide +kernel
theorem d_X3_findSigns_99 : decode (mC 29) 99 = .ok (.iload_n 2, 1) := by decide +kernel
theorem d_X3_findSigns_100 : decode (mC 29) 100 = .ok (.imul, 1) := by decide +kernel
theorem d_X3_findSigns_101 : decode (mC 29) 101 = .ok (.bipush 10, 2) := by decide +kernel
theorem d_X3_findSigns_103 : decode (mC 29) 103 = .ok (.iload 4, 2) := by decide +kernel
theorem d_X3_findSigns_105 : decode (mC 29) 105 = .ok (.imul, 1) := by decide +kernel
theorem d_X3_findSigns_106 : decode (mC 29) 106 = .ok (.iadd, 1) := by decide +kernel
theorem d_X3_findSigns_107 : decode (mC 29) 107 = .ok (.iload 5, 2) := by decide +kernel
theorem d_X3_findSigns_109 : decode (mC 29) 109 = .ok (.iadd, 1) := by decide +kernel
theorem d_X3_findSigns_110 : decode (mC 29) 110 = .ok (.iastore, 1) := by decide +kernel
theorem d_X3_findSigns_111 : decode (mC 29) 111 = .ok (.aload_n 0, 1) := by decide +kernel
theorem d_X3_findSigns_112 : decode (mC 29) 112 = .ok (.dup, 1) := by decide +kernel
theorem d_X3_findSigns_113 : decode (mC 29) 113 = .ok (.getfield 34, 3) := by decide +kernel
theorem d_X3_findSigns_116 : decode (mC 29) 116 = .ok (.iconst 1, 1) := by decide +kernel
theorem d_X3_findSigns_117 : decode (mC 29) 117 = .ok (.iadd, 1) := by decide +kernel
theorem d_X3_findSigns_118 : decode (mC 29) 118 = .ok (.putfield 34, 3) := by decide +kernel
theorem d_X3_findSigns_121 : decode (mC 29) 121 = .ok (.iinc 5 1, 3) := by decide +kernel
theorem d_X3_findSigns_124 : decode (mC 29) 124 = .ok (.goto (-72), 3) := by decide +kernel
theorem d_X3_findSigns_127 : decode (mC 29) 127 = .ok (.iinc 4 1, 3) := by decide +kernel
theorem d_X3_findSigns_130 : decode (mC 29) 130 = .ok (.goto (-99), 3) := by decide +kernel
theorem d_X3_findSigns_133 : decode (mC 29) 133 = .ok (.iinc 2 1, 3) := by decide +kernel
theorem d_X3_findSigns_136 : decode (mC 29) 136 = .ok (.goto (-129), 3) := by decide +kernel
theorem d_X3_findSigns_139 : decode (mC 29) 139 = .ok (.return_, 1) := by decide +kernel
theorem fi_29_34 : mn_fi 29 3 34 3 5 = true := by decide +kernel
theorem cv_29_38 : mn_cvt 29 3 38 30 = true := by decide +kernel
theorem fr_29_25 : mn_fr 29 3 25 3 4 = true := by decide +kernel
theorem b_X3_findSigns_0 {x1 : Int32} {h h' : mn_H} {r : Option Value} : mn_E 29 0 [.ref 10, .int x1, .null, .null, .null, .null] [] h r h' ↔ mn_E 29 7 [.ref 10, .int x1, .int 0, .null, .null, .null] [] (mn_up h 10 5 0) r h' :=
  (mX_aload_n d_X3_findSigns_0 rfl).trans <| (mX_iconst d_X3_findSigns_1 ci_0).trans <| (mP_i d_X3_findSigns_2 fi_29_34 rfl (by decide) rfl (Or.inl (by decide))).trans <| (mX_iconst d_X3_findSigns_5 ci_0).trans <| mX_istore_n (ls' := [.ref 10, .int x1, .int 0, .null, .null, .null]) d_X3_findSigns_6 rfl rfl
theorem b_X3_findSigns_7 {x1 x2 : Int32} {w3 w4 w5 : Value} {h h' : mn_H} {r : Option Value} : mn_E 29 7 [.ref 10, .int x1, .int x2, w3, w4, w5] [] h r h' ↔ if (5 : Int32) ≤ x2 then mn_E 29 139 [.ref 10, .int x1, .int x2, w3, w4, w5] [] h r h' else mn_E 29 12 [.ref 10, .int x1, .int x2, w3, w4, w5] [] h r h' :=
  (mX_iload_n d_X3_findSigns_7 rfl).trans <| (mX_iconst d_X3_findSigns_8 ci_5).trans <| mX_icmp_ge d_X3_findSigns_9 rfl
theorem b_X3_findSigns_12 {x1 x2 : Int32} {w3 w4 w5 : Value} {h h' : mn_H} {r : Option Value} : mn_E 29 12 [.ref 10, .int x1, .int x2, w3, w4, w5] [] h r h' ↔ if x2 = 2 then mn_E 29 22 [.ref 10, .int x1, .int x2, w3, w4, w5] [] h r h' else mn_E 29 17 [.ref 10, .int x1, .int x2, w3, w4, w5] [] h r h' :=
  (mX_iload_n d_X3_findSigns_12 rfl).trans <| (mX_iconst d_X3_findSigns_13 ci_2).trans <| mX_icmp_eq d_X3_findSigns_14 rfl
theorem b_X3_findSigns_17 {x1 x2 : Int32} {w3 w4 w5 : Value} {h h' : mn_H} {r : Option Value} : mn_E 29 17 [.ref 10, .int x1, .int x2, w3, w4, w5] [] h r h' ↔ if ¬ x2 = 3 then mn_E 29 26 [.ref 10, .int x1, .int x2, w3, w4, w5] [] h r h' else mn_E 29 22 [.ref 10, .int x1, .int x2, w3, w4, w5] [] h r h' :=
  (mX_iload_n d_X3_findSigns_17 rfl).trans <| (mX_iconst d_X3_findSigns_18 ci_3).trans <| mX_icmp_ne d_X3_findSigns_19 rfl
theorem b_X3_findSigns_22 {x1 x2 : Int32} {w3 w4 w5 : Value} {h h' : mn_H} {r : Option Value} : mn_E 29 22 [.ref 10, .int x1, .int x2, w3, w4, w5] [] h r h' ↔ mn_E 29 27 [.ref 10, .int x1, .int x2, w3, w4, w5] [.int 1] h r h' :=
  (mX_iconst d_X3_findSigns_22 ci_1).trans <| mX_goto d_X3_findSigns_23 rfl
theorem b_X3_findSigns_26 {x1 x2 : Int32} {w3 w4 w5 : Value} {h h' : mn_H} {r : Option Value} : mn_E 29 26 [.ref 10, .int x1, .int x2, w3, w4, w5] [] h r h' ↔ mn_E 29 27 [.ref 10, .int x1, .int x2, w3, w4, w5] [.int 0] h r h' :=
  mX_iconst d_X3_findSigns_26 ci_0
theorem b_X3_findSigns_27 {x1 x2 s0 : Int32} {w3 w4 w5 : Value} {h h' : mn_H} {r : Option Value} : mn_E 29 27 [.ref 10, .int x1, .int x2, w3, w4, w5] [.int s0] h r h' ↔ mn_E 29 31 [.ref 10, .int x1, .int x2, .int s0, .int 0, w5] [] h r h' :=
  (mX_istore_n (ls' := [.ref 10, .int x1, .int x2, .int s0, w4, w5]) d_X3_findSigns_27 rfl rfl).trans <| (mX_iconst d_X3_findSigns_28 ci_0).trans <| mX_istore (ls' := [.ref 10, .int x1, .int x2, .int s0, .int 0, w5]) d_X3_findSigns_29 rfl rfl
theorem b_X3_findSigns_31 {x1 x2 x3 x4 : Int32} {w5 : Value} {h h' : mn_H} {r : Option Value} : mn_E 29 31 [.ref 10, .int x1, .int x2, .int x3, .int x4, w5] [] h r h' ↔ if (6 : Int32) ≤ x4 then mn_E 29 133 [.ref 10, .int x1, .int x2, .int x3, .int x4, w5] [] h r h' else mn_E 29 38 [.ref 10, .int x1, .int x2, .int x3, .int x4, w5] [] h r h' :=
  (mX_iload d_X3_findSigns_31 rfl).trans <| (mX_bipush d_X3_findSigns_33 cb_6).trans <| mX_icmp_ge d_X3_findSigns_35 rfl
theorem b_X3_findSigns_38 {x1 x2 x3 x4 : Int32} {w5 : Value} {h h' : mn_H} {r : Option Value} : mn_E 29 38 [.ref 10, .int x1, .int x2, .int x3, .int x4, w5] [] h r h' ↔ if x3 = 0 then mn_E 29 49 [.ref 10, .int x1, .int x2, .int x3, .int x4, w5] [] h r h' else mn_E 29 42 [.ref 10, .int x1, .int x2, .int x3, .int x4, w5] [] h r h' :=
  (mX_iload_n d_X3_findSigns_38 rfl).trans <| mX_if_eq d_X3_findSigns_39 rfl
theorem b_X3_findSigns_42 {x1 x2 x3 x4 : Int32} {w5 : Value} {h h' : mn_H} {r : Option Value} : mn_E 29 42 [.ref 10, .int x1, .int x2, .int x3, .int x4, w5] [] h r h' ↔ mn_E 29 50 [.ref 10, .int x1, .int x2, .int x3, .int x4, w5] [.int (x4 + 1)] h r h' :=
  (mX_iload d_X3_findSigns_42 rfl).trans <| (mX_iconst d_X3_findSigns_44 ci_1).trans <| (mX_iadd d_X3_findSigns_45).trans <| mX_goto d_X3_findSigns_46 rfl
theorem b_X3_findSigns_49 {x1 x2 x3 x4 : Int32} {w5 : Value} {h h' : mn_H} {r : Option Value} : mn_E 29 49 [.ref 10, .int x1, .int x2, .int x3, .int x4, w5] [] h r h' ↔ mn_E 29 50 [.ref 10, .int x1, .int x2, .int x3, .int x4, w5] [.int 0] h r h' :=
  mX_iconst d_X3_findSigns_49 ci_0
theorem b_X3_findSigns_50 {x1 x2 x3 x4 s0 : Int32} {w5 : Value} {h h' : mn_H} {r : Option Value} : mn_E 29 50 [.ref 10, .int x1, .int x2, .int x3, .int x4, w5] [.int s0] h r h' ↔ mn_E 29 52 [.ref 10, .int x1, .int x2, .int x3, .int x4, .int s0] [] h r h' :=
  mX_istore (ls' := [.ref 10, .int x1, .int x2, .int x3, .int x4, .int s0]) d_X3_findSigns_50 rfl rfl
theorem b_X3_findSigns_52 {x1 x2 x3 x4 x5 : Int32} {h h' : mn_H} {r : Option Value} : mn_E 29 52 [.ref 10, .int x1, .int x2, .int x3, .int x4, .int x5] [] h r h' ↔ if x3 = 0 then mn_E 29 63 [.ref 10, .int x1, .int x2, .int x3, .int x4, .int x5] [.int x5] h r h' else mn_E 29 58 [.ref 10, .int x1, .int x2, .int x3, .int x4, .int x5] [.int x5] h r h' :=
  (mX_iload d_X3_findSigns_52 rfl).trans <| (mX_iload_n d_X3_findSigns_54 rfl).trans <| mX_if_eq d_X3_findSigns_55 rfl
theorem b_X3_findSigns_58 {x1 x2 x3 x4 x5 s0 : Int32} {h h' : mn_H} {r : Option Value} : mn_E 29 58 [.ref 10, .int x1, .int x2, .int x3, .int x4, .int x5] [.int s0] h r h' ↔ mn_E 29 64 [.ref 10, .int x1, .int x2, .int x3, .int x4, .int x5] [.int 6, .int s0] h r h' :=
  (mX_bipush d_X3_findSigns_58 cb_6).trans <| mX_goto d_X3_findSigns_60 rfl
theorem b_X3_findSigns_63 {x1 x2 x3 x4 x5 s0 : Int32} {h h' : mn_H} {r : Option Value} : mn_E 29 63 [.ref 10, .int x1, .int x2, .int x3, .int x4, .int x5] [.int s0] h r h' ↔ mn_E 29 64 [.ref 10, .int x1, .int x2, .int x3, .int x4, .int x5] [.int 1, .int s0] h r h' :=
  mX_iconst d_X3_findSigns_63 ci_1
theorem b_X3_findSigns_64 {x1 x2 x3 x4 x5 s0 s1 : Int32} {h h' : mn_H} {r : Option Value} : mn_E 29 64 [.ref 10, .int x1, .int x2, .int x3, .int x4, .int x5] [.int s0, .int s1] h r h' ↔ if s0 ≤ s1 then mn_E 29 127 [.ref 10, .int x1, .int x2, .int x3, .int x4, .int x5] [] h r h' else mn_E 29 67 [.ref 10, .int x1, .int x2, .int x3, .int x4, .int x5] [] h r h' :=
  mX_icmp_ge d_X3_findSigns_64 rfl
theorem b_X3_findSigns_67 {x1 x2 x3 x4 x5 : Int32} {h h' : mn_H} {r : Option Value} : mn_E 29 67 [.ref 10, .int x1, .int x2, .int x3, .int x4, .int x5] [] h r h' ↔ ∃ x h1, mn_X 30 [.ref 10, .int x1, .int x2, .int x4, .int x5] h (some (.int x)) h1 ∧ mn_E 29 77 [.ref 10, .int x1, .int x2, .int x3, .int x4, .int x5] [.int x] h1 r h' :=
  (mX_aload_n d_X3_findSigns_67 rfl).trans <| (mX_iload_n d_X3_findSigns_68 rfl).trans <| (mX_iload_n d_X3_findSigns_69 rfl).trans <| (mX_iload d_X3_findSigns_70 rfl).trans <| (mX_iload d_X3_findSigns_72 rfl).trans <| mV_i (a := 10) (vs := [.int x1, .int x2, .int x4, .int x5]) (st' := []) d_X3_findSigns_74 cv_29_38 (Or.inr (Or.inl rfl)) (Nat.le_of_ble_eq_true rfl) rfl rfl rfl rfl
theorem b_X3_findSigns_77 {x1 x2 x3 x4 x5 s0 : Int32} {h h' : mn_H} {r : Option Value} : mn_E 29 77 [.ref 10, .int x1, .int x2, .int x3, .int x4, .int x5] [.int s0] h r h' ↔ if s0 = 0 then mn_E 29 121 [.ref 10, .int x1, .int x2, .int x3, .int x4, .int x5] [] h r h' else mn_E 29 80 [.ref 10, .int x1, .int x2, .int x3, .int x4, .int x5] [] h r h' :=
  mX_if_eq d_X3_findSigns_77 rfl
theorem b_X3_findSigns_80 {x1 x2 x3 x4 x5 : Int32} {h h' : mn_H} {r : Option Value} : mn_E 29 80 [.ref 10, .int x1, .int x2, .int x3, .int x4, .int x5] [] h r h' ↔ if (48 : Int32) ≤ (h 10 5) then mn_E 29 121 [.ref 10, .int x1, .int x2, .int x3, .int x4, .int x5] [] h r h' else mn_E 29 89 [.ref 10, .int x1, .int x2, .int x3, .int x4, .int x5] [] h r h' :=
  (mX_aload_n d_X3_findSigns_80 rfl).trans <| (mG_i d_X3_findSigns_81 fi_29_34 rfl (by decide)).trans <| (mX_bipush d_X3_findSigns_84 cb_48).trans <| mX_icmp_ge d_X3_findSigns_86 rfl
theorem b_X3_findSigns_89 {x1 x2 x3 x4 x5 : Int32} {h h' : mn_H} {r : Option Value} (hy0 : vp_in (h 10 5) 48) : mn_E 29 89 [.ref 10, .int x1, .int x2, .int x3, .int x4, .int x5] [] h r h' ↔ mn_E 29 121 [.ref 10, .int x1, .int x2, .int x3, .int x4, .int x5] [] (mn_up (mn_up h 15 ((h 10 5).toNatClampNeg) (((100 * x2) + (10 * x4)) + x5)) 10 5 (((mn_up h 15 ((h 10 5).toNatClampNeg) (((100 * x2) + (10 * x4)) + x5)) 10 5) + 1)) r h' :=
  (mX_aload_n d_X3_findSigns_89 rfl).trans <| (mG_r (b := 15) d_X3_findSigns_90 fr_29_25 rfl (by decide) rfl).trans <| (mX_aload_n d_X3_findSigns_93 rfl).trans <| (mG_i d_X3_findSigns_94 fi_29_34 rfl (by decide)).trans <| (mX_bipush d_X3_findSigns_97 cb_100).trans <| (mX_iload_n d_X3_findSigns_99 rfl).trans <| (mX_imul d_X3_findSigns_100).trans <| (mX_bipush d_X3_findSigns_101 cb_10).trans <| (mX_iload d_X3_findSigns_103 rfl).trans <| (mX_imul d_X3_findSigns_105).trans <| (mX_iadd d_X3_findSigns_106).trans <| (mX_iload d_X3_findSigns_107 rfl).trans <| (mX_iadd d_X3_findSigns_109).trans <| (mX_iastore d_X3_findSigns_110 rfl (by decide) hy0).trans <| (mX_aload_n d_X3_findSigns_111 rfl).trans <| (mX_dup d_X3_findSigns_112 rfl).trans <| (mG_i d_X3_findSigns_113 fi_29_34 rfl (by decide)).trans <| (mX_iconst d_X3_findSigns_116 ci_1).trans <| (mX_iadd d_X3_findSigns_117).trans <| mP_i d_X3_findSigns_118 fi_29_34 rfl (by decide) rfl (Or.inl (by decide))
theorem b_X3_findSigns_121 {x1 x2 x3 x4 x5 : Int32} {h h' : mn_H} {r : Option Value} : mn_E 29 121 [.ref 10, .int x1, .int x2, .int x3, .int x4, .int x5] [] h r h' ↔ mn_E 29 52 [.ref 10, .int x1, .int x2, .int x3, .int x4, .int (x5 + 1)] [] h r h' :=
  (mX_iinc (ls' := [.ref 10, .int x1, .int x2, .int x3, .int x4, .int (x5 + 1)]) d_X3_findSigns_121 rfl ci_1 rfl rfl).trans <| mX_goto d_X3_findSigns_124 rfl
theorem b_X3_findSigns_127 {x1 x2 x3 x4 x5 : Int32} {h h' : mn_H} {r : Option Value} : mn_E 29 127 [.ref 10, .int x1, .int x2, .int x3, .int x4, .int x5] [] h r h' ↔ mn_E 29 31 [.ref 10, .int x1, .int x2, .int x3, .int (x4 + 1), .int x5] [] h r h' :=
  (mX_iinc (ls' := [.ref 10, .int x1, .int x2, .int x3, .int (x4 + 1), .int x5]) d_X3_findSigns_127 rfl ci_1 rfl rfl).trans <| mX_goto d_X3_findSigns_130 rfl
theorem b_X3_findSigns_133 {x1 x2 x3 x4 : Int32} {w5 : Value} {h h' : mn_H} {r : Option Value} : mn_E 29 133 [.ref 10, .int x1, .int x2, .int x3, .int x4, w5] [] h r h' ↔ mn_E 29 7 [.ref 10, .int x1, .int (x2 + 1), .int x3, .int x4, w5] [] h r h' :=
  (mX_iinc (ls' := [.ref 10, .int x1, .int (x2 + 1), .int x3, .int x4, w5]) d_X3_findSigns_133 rfl ci_1 rfl rfl).trans <| mX_goto d_X3_findSigns_136 rfl
theorem b_X3_findSigns_139 {x1 x2 : Int32} {w3 w4 w5 : Value} {h h' : mn_H} {r : Option Value} : mn_E 29 139 [.ref 10, .int x1, .int x2, w3, w4, w5] [] h r h' ↔ r = none ∧ h' = h :=
  mX_vret d_X3_findSigns_139 rfl
-- X3_agrees
theorem mo_30 : mO 30 = 3 := rfl
theorem d_X3_agrees_0 : decode (mC 30) 0 = .ok (.iconst 0, 1) := by decide +kernel
theorem d_X3_agrees_1 : decode (mC 30) 1 = .ok (.istore 5, 2) := by decide +kernel
theorem d_X3_agrees_3 : decode (mC 30) 3 = .ok (.iload 5, 2) := by decide +kernel
theorem d_X3_agrees_5 : decode (mC 30) 5 = .ok (.aload_n 0, 1) := by decide +kernel
theorem d_X3_agrees_6 : decode (mC 30) 6 = .ok (.getfield 9, 3) := by decide +kernel
theorem d_X3_agrees_9 : decode (mC 30) 9 = .ok (.iload_n 1, 1) := by decide +kernel
theorem d_X3_agrees_10 : decode (mC 30) 10 = .ok (.iaload, 1) := by decide +kernel
theorem d_X3_agrees_11 : decode (mC 30) 11 = .ok (.if_icmp .ge 51, 3) := by decide +kernel
theorem d_X3_agrees_14 : decode (mC 30) 14 = .ok (.iload_n 1, 1) := by decide +kernel
theorem d_X3_agrees_15 : decode (mC 30) 15 = .ok (.bipush 12, 2) := by decide +kernel
theorem d_X3_agrees_17 : decode (mC 30) 17 = .ok (.imul, 1) := by decide +kernel
theorem d_X3_agrees_18 : decode (mC 30) 18 = .ok (.iload 5, 2) := by decide +kernel
theorem d_X3_agrees_20 : decode (mC 30) 20 = .ok (.iadd, 1) := by decide +kernel
theorem d_X3_agrees_21 : decode (mC 30) 21 = .ok (.istore 6, 2) := by decide +kernel
theorem d_X3_agrees_23 : decode (mC 30) 23 = .ok (.iload_n 2, 1) := by decide +kernel
theorem d_X3_agrees_24 : decode (mC 30) 24 = .ok (.iload_n 3, 1) := by decide +kernel
theorem d_X3_agrees_25 : decode (mC 30) 25 = .ok (.iload 4, 2) := by decide +kernel
theorem d_X3_agrees_27 : decode (mC 30) 27 = .ok (.aload_n 0, 1) := by decide +kernel
theorem d_X3_agrees_28 : decode (mC 30) 28 = .ok (.getfield 19, 3) := by decide +kernel
theorem d_X3_agrees_31 : decode (mC 30) 31 = .ok (.iload 6, 2) := by decide +kernel
theorem d_X3_agrees_33 : decode (mC 30) 33 = .ok (.iaload, 1) := by decide +kernel
theorem d_X3_agrees_34 : decode (mC 30) 34 = .ok (.aload_n 0, 1) := by decide +kernel
theorem d_X3_agrees_35 : decode (mC 30) 35 = .ok (.getfield 22, 3) := by decide +kernel
theorem d_X3_agrees_38 : decode (mC 30) 38 = .ok (.iload 6, 2) := by decide +kernel
theorem d_X3_agrees_40 : decode (mC 30) 40 = .ok (.iaload, 1) := by decide +kernel
theorem d_X3_agrees_41 : decode (mC 30) 41 = .ok (.invokestatic 42, 3) := by decide +kernel
theorem d_X3_agrees_44 : decode (mC 30) 44 = .ok (.aload_n 0, 1) := by decide +kernel
theorem d_X3_agrees_45 : decode (mC 30) 45 = .ok (.getfield 15, 3) := by decide +kernel
theorem d_X3_agrees_48 : decode (mC 30) 48 = .ok (.iload 6, 2) := by decide +kernel
theorem d_X3_agrees_50 : decode (mC 30) 50 = .ok (.baload, 1) := by decide +kernel
theorem d_X3_agrees_51 : decode (mC 30) 51 = .ok (.if_icmp .eq 5, 3) := by decide +kernel
theorem d_X3_agrees_54 : decode (mC 30) 54 = .ok (.iconst 0, 1) := by decide +kernel
theorem d_X3_agrees_55 : decode (mC 30) 55 = .ok (.ireturn, 1) := by decide +kernel
theorem d_X3_agrees_56 : decode (mC 30) 56 = .ok (.iinc 5 1, 3) := by decide +kernel
theorem d_X3_agrees_59 : decode (mC 30) 59 = .ok (.goto (-56), 3) := by decide +kernel
theorem d_X3_agrees_62 : decode (mC 30) 62 = .ok (.iconst 1, 1) := by decide +kernel
theorem d_X3_agrees_63 : decode (mC 30) 63 = .ok (.ireturn, 1) := by decide +kernel
theorem fr_30_9 : mn_fr 30 3 9 3 0 = true := by decide +kernel
theorem fr_30_19 : mn_fr 30 3 19 3 2 = true := by decide +kernel
theorem fr_30_22 : mn_fr 30 3 22 3 3 = true := by decide +kernel
theorem cs_30_42 : mn_cs 30 3 42 113 = true := by decide +kernel
theorem fr_30_15 : mn_fr 30 3 15 3 1 = true := by decide +kernel
theorem b_X3_agrees_0 {x1 x2 x3 x4 : Int32} {h h' : mn_H} {r : Option Value} : mn_E 30 0 [.ref 10, .int x1, .int x2, .int x3, .int x4, .null, .null] [] h r h' ↔ mn_E 30 3 [.ref 10, .int x1, .int x2, .int x3, .int x4, .int 0, .null] [] h r h' :=
  (mX_iconst d_X3_agrees_0 ci_0).trans <| mX_istore (ls' := [.ref 10, .int x1, .int x2, .int x3, .int x4, .int 0, .null]) d_X3_agrees_1 rfl rfl
theorem b_X3_agrees_3 {x1 x2 x3 x4 x5 : Int32} {w6 : Value} {h h' : mn_H} {r : Option Value} (hy0 : vp_in x1 5) : mn_E 30 3 [.ref 10, .int x1, .int x2, .int x3, .int x4, .int x5, w6] [] h r h' ↔ if (h 11 x1.toNatClampNeg) ≤ x5 then mn_E 30 62 [.ref 10, .int x1, .int x2, .int x3, .int x4, .int x5, w6] [] h r h' else mn_E 30 14 [.ref 10, .int x1, .int x2, .int x3, .int x4, .int x5, w6] [] h r h' :=
  (mX_iload d_X3_agrees_3 rfl).trans <| (mX_aload_n d_X3_agrees_5 rfl).trans <| (mG_r (b := 11) d_X3_agrees_6 fr_30_9 rfl (by decide) rfl).trans <| (mX_iload_n d_X3_agrees_9 rfl).trans <| (mX_iaload d_X3_agrees_10 rfl (by decide) hy0).trans <| mX_icmp_ge d_X3_agrees_11 rfl
theorem b_X3_agrees_14 {x1 x2 x3 x4 x5 : Int32} {w6 : Value} {h h' : mn_H} {r : Option Value} (hy0 : vp_in ((x1 * 12) + x5) 60) : mn_E 30 14 [.ref 10, .int x1, .int x2, .int x3, .int x4, .int x5, w6] [] h r h' ↔ ∃ x h1, mn_X 113 [.int x2, .int x3, .int x4, .int (h 13 ((x1 * 12) + x5).toNatClampNeg), .int (h 14 ((x1 * 12) + x5).toNatClampNeg)] h (some (.int x)) h1 ∧ mn_E 30 44 [.ref 10, .int x1, .int x2, .int x3, .int x4, .int x5, .int ((x1 * 12) + x5)] [.int x] h1 r h' :=
  (mX_iload_n d_X3_agrees_14 rfl).trans <| (mX_bipush d_X3_agrees_15 cb_12).trans <| (mX_imul d_X3_agrees_17).trans <| (mX_iload d_X3_agrees_18 rfl).trans <| (mX_iadd d_X3_agrees_20).trans <| (mX_istore (ls' := [.ref 10, .int x1, .int x2, .int x3, .int x4, .int x5, .int ((x1 * 12) + x5)]) d_X3_agrees_21 rfl rfl).trans <| (mX_iload_n d_X3_agrees_23 rfl).trans <| (mX_iload_n d_X3_agrees_24 rfl).trans <| (mX_iload d_X3_agrees_25 rfl).trans <| (mX_aload_n d_X3_agrees_27 rfl).trans <| (mG_r (b := 13) d_X3_agrees_28 fr_30_19 rfl (by decide) rfl).trans <| (mX_iload d_X3_agrees_31 rfl).trans <| (mX_iaload d_X3_agrees_33 rfl (by decide) hy0).trans <| (mX_aload_n d_X3_agrees_34 rfl).trans <| (mG_r (b := 14) d_X3_agrees_35 fr_30_22 rfl (by decide) rfl).trans <| (mX_iload d_X3_agrees_38 rfl).trans <| (mX_iaload d_X3_agrees_40 rfl (by decide) hy0).trans <| mS_i (vs := [.int x2, .int x3, .int x4, .int (h 13 ((x1 * 12) + x5).toNatClampNeg), .int (h 14 ((x1 * 12) + x5).toNatClampNeg)]) (st' := []) d_X3_agrees_41 cs_30_42 (Or.inr (Or.inl rfl)) (Nat.le_of_ble_eq_true rfl) rfl rfl rfl
theorem b_X3_agrees_44 {x1 x2 x3 x4 x5 x6 s0 : Int32} {h h' : mn_H} {r : Option Value} (hy0 : vp_in x6 60) : mn_E 30 44 [.ref 10, .int x1, .int x2, .int x3, .int x4, .int x5, .int x6] [.int s0] h r h' ↔ if s0 = (h 12 x6.toNatClampNeg) then mn_E 30 56 [.ref 10, .int x1, .int x2, .int x3, .int x4, .int x5, .int x6] [] h r h' else mn_E 30 54 [.ref 10, .int x1, .int x2, .int x3, .int x4, .int x5, .int x6] [] h r h' :=
  (mX_aload_n d_X3_agrees_44 rfl).trans <| (mG_r (b := 12) d_X3_agrees_45 fr_30_15 rfl (by decide) rfl).trans <| (mX_iload d_X3_agrees_48 rfl).trans <| (mX_baload d_X3_agrees_50 rfl (by decide) hy0).trans <| mX_icmp_eq d_X3_agrees_51 rfl
theorem b_X3_agrees_54 {x1 x2 x3 x4 x5 x6 : Int32} {h h' : mn_H} {r : Option Value} : mn_E 30 54 [.ref 10, .int x1, .int x2, .int x3, .int x4, .int x5, .int x6] [] h r h' ↔ r = some (.int 0) ∧ h' = h :=
  (mX_iconst d_X3_agrees_54 ci_0).trans <| mX_zret d_X3_agrees_55 rfl (by decide)
theorem b_X3_agrees_56 {x1 x2 x3 x4 x5 x6 : Int32} {h h' : mn_H} {r : Option Value} : mn_E 30 56 [.ref 10, .int x1, .int x2, .int x3, .int x4, .int x5, .int x6] [] h r h' ↔ mn_E 30 3 [.ref 10, .int x1, .int x2, .int x3, .int x4, .int (x5 + 1), .int x6] [] h r h' :=
  (mX_iinc (ls' := [.ref 10, .int x1, .int x2, .int x3, .int x4, .int (x5 + 1), .int x6]) d_X3_agrees_56 rfl ci_1 rfl rfl).trans <| mX_goto d_X3_agrees_59 rfl
theorem b_X3_agrees_62 {x1 x2 x3 x4 x5 : Int32} {w6 : Value} {h h' : mn_H} {r : Option Value} : mn_E 30 62 [.ref 10, .int x1, .int x2, .int x3, .int x4, .int x5, w6] [] h r h' ↔ r = some (.int 1) ∧ h' = h :=
  (mX_iconst d_X3_agrees_62 ci_1).trans <| mX_zret d_X3_agrees_63 rfl (by decide)
-- X3_signsLeft
theorem mo_31 : mO 31 = 3 := rfl
theorem d_X3_signsLeft_0 : decode (mC 31) 0 = .ok (.aload_n 0, 1) := by decide +kernel
theorem d_X3_signsLeft_1 : decode (mC 31) 1 = .ok (.getfield 34, 3) := by decide +kernel
theorem d_X3_signsLeft_4 : decode (mC 31) 4 = .ok (.ireturn, 1) := by decide +kernel
theorem fi_31_34 : mn_fi 31 3 34 3 5 = true := by decide +kernel
theorem b_X3_signsLeft_0 {h h' : mn_H} {r : Option Value} : mn_E 31 0 [.ref 10] [] h r h' ↔ r = some (.int (h 10 5)) ∧ h' = h :=
  (mX_aload_n d_X3_signsLeft_0 rfl).trans <| (mG_i d_X3_signsLeft_1 fi_31_34 rfl (by decide)).trans <| mX_iret d_X3_signsLeft_4 rfl
-- X3_signAt
theorem mo_32 : mO 32 = 3 := rfl
theorem d_X3_signAt_0 : decode (mC 32) 0 = .ok (.iload_n 1, 1) := by decide +kernel
theorem d_X3_signAt_1 : decode (mC 32) 1 = .ok (.ifCond .lt 20, 3) := by decide +kernel
theorem d_X3_signAt_4 : decode (mC 32) 4 = .ok (.iload_n 1, 1) := by decide +kernel
theorem d_X3_signAt_5 : decode (mC 32) 5 = .ok (.aload_n 0, 1) := by decide +kernel
theorem d_X3_signAt_6 : decode (mC 32) 6 = .ok (.getfield 34, 3) := by decide +kernel
theorem d_X3_signAt_9 : decode (mC 32) 9 = .ok (.if_icmp .ge 12, 3) := by decide +kernel
theorem d_X3_signAt_12 : decode (mC 32) 12 = .ok (.aload_n 0, 1) := by decide +kernel
theorem d_X3_signAt_13 : decode (mC 32) 13 = .ok (.getfield 25, 3) := by decide +kernel
theorem d_X3_signAt_16 : decode (mC 32) 16 = .ok (.iload_n 1, 1) := by decide +kernel
theorem d_X3_signAt_17 : decode (mC 32) 17 = .ok (.iaload, 1) := by decide +kernel
theorem d_X3_signAt_18 : decode (mC 32) 18 = .ok (.goto 4, 3) := by decide +kernel
theorem d_X3_signAt_21 : decode (mC 32) 21 = .ok (.iconst (-1), 1) := by decide +kernel
theorem d_X3_signAt_22 : decode (mC 32) 22 = .ok (.ireturn, 1) := by decide +kernel
theorem fi_32_34 : mn_fi 32 3 34 3 5 = true := by decide +kernel
theorem fr_32_25 : mn_fr 32 3 25 3 4 = true := by decide +kernel
theorem b_X3_signAt_0 {x1 : Int32} {h h' : mn_H} {r : Option Value} : mn_E 32 0 [.ref 10, .int x1] [] h r h' ↔ if x1 < 0 then mn_E 32 21 [.ref 10, .int x1] [] h r h' else mn_E 32 4 [.ref 10, .int x1] [] h r h' :=
  (mX_iload_n d_X3_signAt_0 rfl).trans <| mX_if_lt d_X3_signAt_1 rfl
theorem b_X3_signAt_4 {x1 : Int32} {h h' : mn_H} {r : Option Value} : mn_E 32 4 [.ref 10, .int x1] [] h r h' ↔ if (h 10 5) ≤ x1 then mn_E 32 21 [.ref 10, .int x1] [] h r h' else mn_E 32 12 [.ref 10, .int x1] [] h r h' :=
  (mX_iload_n d_X3_signAt_4 rfl).trans <| (mX_aload_n d_X3_signAt_5 rfl).trans <| (mG_i d_X3_signAt_6 fi_32_34 rfl (by decide)).trans <| mX_icmp_ge d_X3_signAt_9 rfl
theorem b_X3_signAt_12 {x1 : Int32} {h h' : mn_H} {r : Option Value} (hy0 : vp_in x1 48) : mn_E 32 12 [.ref 10, .int x1] [] h r h' ↔ mn_E 32 22 [.ref 10, .int x1] [.int (h 15 x1.toNatClampNeg)] h r h' :=
  (mX_aload_n d_X3_signAt_12 rfl).trans <| (mG_r (b := 15) d_X3_signAt_13 fr_32_25 rfl (by decide) rfl).trans <| (mX_iload_n d_X3_signAt_16 rfl).trans <| (mX_iaload d_X3_signAt_17 rfl (by decide) hy0).trans <| mX_goto d_X3_signAt_18 rfl
theorem b_X3_signAt_21 {x1 : Int32} {h h' : mn_H} {r : Option Value} : mn_E 32 21 [.ref 10, .int x1] [] h r h' ↔ mn_E 32 22 [.ref 10, .int x1] [.int (-1)] h r h' :=
  mX_iconst d_X3_signAt_21 ci_m1
theorem b_X3_signAt_22 {x1 s0 : Int32} {h h' : mn_H} {r : Option Value} : mn_E 32 22 [.ref 10, .int x1] [.int s0] h r h' ↔ r = some (.int s0) ∧ h' = h :=
  mX_iret d_X3_signAt_22 rfl
-- X3_dayThatParts
theorem mo_33 : mO 33 = 3 := rfl
theorem d_X3_dayThatParts_0 : decode (mC 33) 0 = .ok (.iconst (-1), 1) := by decide +kernel
theorem d_X3_dayThatParts_1 : decode (mC 33) 1 = .ok (.istore_n 1, 1) := by decide +kernel
theorem d_X3_dayThatParts_2 : decode (mC 33) 2 = .ok (.aload_n 0, 1) := by decide +kernel
theorem d_X3_dayThatParts_3 : decode (mC 33) 3 = .ok (.getfield 34, 3) := by decide +kernel
theorem d_X3_dayThatParts_6 : decode (mC 33) 6 = .ok (.istore_n 2, 1) := by decide +kernel
theorem d_X3_dayThatParts_7 : decode (mC 33) 7 = .ok (.iconst 0, 1) := by decide +kernel
theorem d_X3_dayThatParts_8 : decode (mC 33) 8 = .ok (.istore_n 3, 1) := by decide +kernel
theorem d_X3_dayThatParts_9 : decode (mC 33) 9 = .ok (.iload_n 3, 1) := by decide +kernel
theorem d_X3_dayThatParts_10 : decode (mC 33) 10 = .ok (.bipush 64, 2) := by decide +kernel
theorem d_X3_dayThatParts_12 : decode (mC 33) 12 = .ok (.if_icmp .ge 41, 3) := by decide +kernel
theorem d_X3_dayThatParts_15 : decode (mC 33) 15 = .ok (.aload_n 0, 1) := by decide +kernel
theorem d_X3_dayThatParts_16 : decode (mC 33) 16 = .ok (.iload_n 3, 1) := by decide +kernel
theorem d_X3_dayThatParts_17 : decode (mC 33) 17 = .ok (.invokevirtual 46, 3) := by decide +kernel
theorem d_X3_dayThatParts_20 : decode (mC 33) 20 = .ok (.istore 4, 2) := by decide +kernel
theorem d_X3_dayThatParts_22 : decode (mC 33) 22 = .ok (.iload 4, 2) := by decide +kernel
theorem d_X3_dayThatParts_24 : decode (mC 33) 24 = .ok (.aload_n 0, 1) := by decide +kernel
theorem d_X3_dayThatParts_25 : decode (mC 33) 25 = .ok (.getfield 34, 3) := by decide +kernel
theorem d_X3_dayThatParts_28 : decode (mC 33) 28 = .ok (.iload 4, 2) := by decide +kernel
theorem d_X3_dayThatParts_30 : decode (mC 33) 30 = .ok (.isub, 1) := by decide +kernel
theorem d_X3_dayThatParts_31 : decode (mC 33) 31 = .ok (.invokestatic 50, 3) := by decide +kernel
theorem d_X3_dayThatParts_34 : decode (mC 33) 34 = .ok (.istore 5, 2) := by decide +kernel
theorem d_X3_dayThatParts_36 : decode (mC 33) 36 = .ok (.iload 5, 2) := by decide +kernel
theorem d_X3_dayThatParts_38 : decode (mC 33) 38 = .ok (.iload_n 2, 1) := by decide +kernel
theorem d_X3_dayThatParts_39 : decode (mC 33) 39 = .ok (.if_icmp .ge 8, 3) := by decide +kernel
theorem d_X3_dayThatParts_42 : decode (mC 33) 42 = .ok (.iload 5, 2) := by decide +kernel
theorem d_X3_dayThatParts_44 : decode (mC 33) 44 = .ok (.istore_n 2, 1) := by decide +kernel
theorem d_X3_dayThatParts_45 : decode (mC 33) 45 = .ok (.iload_n 3, 1) := by decide +kernel
theorem d_X3_dayThatParts_46 : decode (mC 33) 46 = .ok (.istore_n 1, 1) := by decide +kernel
theorem d_X3_dayThatParts_47 : decode (mC 33) 47 = .ok (.iinc 3 1, 3) := by decide +kernel
theorem d_X3_dayThatParts_50 : decode (mC 33) 50 = .ok (.goto (-41), 3) := by decide +kernel
theorem d_X3_dayThatParts_53 : decode (mC 33) 53 = .ok (.iload_n 1, 1) := by decide +kernel
theorem d_X3_dayThatParts_54 : decode (mC 33) 54 = .ok (.ireturn, 1) := by decide +kernel
theorem fi_33_34 : mn_fi 33 3 34 3 5 = true := by decide +kernel
theorem cv_33_46 : mn_cvt 33 3 46 34 = true := by decide +kernel
theorem ma_3_50 : mn_ml 3 50 = none ∧ mn_nl 3 50 = none ∧ mn_ma 3 50 = some 0 := by decide +kernel
theorem b_X3_dayThatParts_0 {h h' : mn_H} {r : Option Value} : mn_E 33 0 [.ref 10, .null, .null, .null, .null, .null] [] h r h' ↔ mn_E 33 9 [.ref 10, .int (-1), .int (h 10 5), .int 0, .null, .null] [] h r h' :=
  (mX_iconst d_X3_dayThatParts_0 ci_m1).trans <| (mX_istore_n (ls' := [.ref 10, .int (-1), .null, .null, .null, .null]) d_X3_dayThatParts_1 rfl rfl).trans <| (mX_aload_n d_X3_dayThatParts_2 rfl).trans <| (mG_i d_X3_dayThatParts_3 fi_33_34 rfl (by decide)).trans <| (mX_istore_n (ls' := [.ref 10, .int (-1), .int (h 10 5), .null, .null, .null]) d_X3_dayThatParts_6 rfl rfl).trans <| (mX_iconst d_X3_dayThatParts_7 ci_0).trans <| mX_istore_n (ls' := [.ref 10, .int (-1), .int (h 10 5), .int 0, .null, .null]) d_X3_dayThatParts_8 rfl rfl
theorem b_X3_dayThatParts_9 {x1 x2 x3 : Int32} {w4 w5 : Value} {h h' : mn_H} {r : Option Value} : mn_E 33 9 [.ref 10, .int x1, .int x2, .int x3, w4, w5] [] h r h' ↔ if (64 : Int32) ≤ x3 then mn_E 33 53 [.ref 10, .int x1, .int x2, .int x3, w4, w5] [] h r h' else mn_E 33 15 [.ref 10, .int x1, .int x2, .int x3, w4, w5] [] h r h' :=
  (mX_iload_n d_X3_dayThatParts_9 rfl).trans <| (mX_bipush d_X3_dayThatParts_10 cb_64).trans <| mX_icmp_ge d_X3_dayThatParts_12 rfl
theorem b_X3_dayThatParts_15 {x1 x2 x3 : Int32} {w4 w5 : Value} {h h' : mn_H} {r : Option Value} : mn_E 33 15 [.ref 10, .int x1, .int x2, .int x3, w4, w5] [] h r h' ↔ ∃ x h1, mn_X 34 [.ref 10, .int x3] h (some (.int x)) h1 ∧ mn_E 33 20 [.ref 10, .int x1, .int x2, .int x3, w4, w5] [.int x] h1 r h' :=
  (mX_aload_n d_X3_dayThatParts_15 rfl).trans <| (mX_iload_n d_X3_dayThatParts_16 rfl).trans <| mV_i (a := 10) (vs := [.int x3]) (st' := []) d_X3_dayThatParts_17 cv_33_46 (Or.inl rfl) (Nat.le_of_ble_eq_true rfl) rfl rfl rfl rfl
theorem b_X3_dayThatParts_20 {x1 x2 x3 s0 : Int32} {w4 w5 : Value} {h h' : mn_H} {r : Option Value} : mn_E 33 20 [.ref 10, .int x1, .int x2, .int x3, w4, w5] [.int s0] h r h' ↔ if x2 ≤ (if s0 < ((h 10 5) - s0) then ((h 10 5) - s0) else s0) then mn_E 33 47 [.ref 10, .int x1, .int x2, .int x3, .int s0, .int (if s0 < ((h 10 5) - s0) then ((h 10 5) - s0) else s0)] [] h r h' else mn_E 33 42 [.ref 10, .int x1, .int x2, .int x3, .int s0, .int (if s0 < ((h 10 5) - s0) then ((h 10 5) - s0) else s0)] [] h r h' :=
  (mX_istore (ls' := [.ref 10, .int x1, .int x2, .int x3, .int s0, w5]) d_X3_dayThatParts_20 rfl rfl).trans <| (mX_iload d_X3_dayThatParts_22 rfl).trans <| (mX_aload_n d_X3_dayThatParts_24 rfl).trans <| (mG_i d_X3_dayThatParts_25 fi_33_34 rfl (by decide)).trans <| (mX_iload d_X3_dayThatParts_28 rfl).trans <| (mX_isub d_X3_dayThatParts_30).trans <| (mX_max d_X3_dayThatParts_31 mo_33 ma_3_50 (by decide)).trans <| (mX_istore (ls' := [.ref 10, .int x1, .int x2, .int x3, .int s0, .int (if s0 < ((h 10 5) - s0) then ((h 10 5) - s0) else s0)]) d_X3_dayThatParts_34 rfl rfl).trans <| (mX_iload d_X3_dayThatParts_36 rfl).trans <| (mX_iload_n d_X3_dayThatParts_38 rfl).trans <| mX_icmp_ge d_X3_dayThatParts_39 rfl
theorem b_X3_dayThatParts_42 {x1 x2 x3 x4 x5 : Int32} {h h' : mn_H} {r : Option Value} : mn_E 33 42 [.ref 10, .int x1, .int x2, .int x3, .int x4, .int x5] [] h r h' ↔ mn_E 33 47 [.ref 10, .int x3, .int x5, .int x3, .int x4, .int x5] [] h r h' :=
  (mX_iload d_X3_dayThatParts_42 rfl).trans <| (mX_istore_n (ls' := [.ref 10, .int x1, .int x5, .int x3, .int x4, .int x5]) d_X3_dayThatParts_44 rfl rfl).trans <| (mX_iload_n d_X3_dayThatParts_45 rfl).trans <| mX_istore_n (ls' := [.ref 10, .int x3, .int x5, .int x3, .int x4, .int x5]) d_X3_dayThatParts_46 rfl rfl
theorem b_X3_dayThatParts_47 {x1 x2 x3 x4 x5 : Int32} {h h' : mn_H} {r : Option Value} : mn_E 33 47 [.ref 10, .int x1, .int x2, .int x3, .int x4, .int x5] [] h r h' ↔ mn_E 33 9 [.ref 10, .int x1, .int x2, .int (x3 + 1), .int x4, .int x5] [] h r h' :=
  (mX_iinc (ls' := [.ref 10, .int x1, .int x2, .int (x3 + 1), .int x4, .int x5]) d_X3_dayThatParts_47 rfl ci_1 rfl rfl).trans <| mX_goto d_X3_dayThatParts_50 rfl
theorem b_X3_dayThatParts_53 {x1 x2 x3 : Int32} {w4 w5 : Value} {h h' : mn_H} {r : Option Value} : mn_E 33 53 [.ref 10, .int x1, .int x2, .int x3, w4, w5] [] h r h' ↔ r = some (.int x1) ∧ h' = h :=
  (mX_iload_n d_X3_dayThatParts_53 rfl).trans <| mX_iret d_X3_dayThatParts_54 rfl
-- X3_countRinging
theorem mo_34 : mO 34 = 3 := rfl
theorem d_X3_countRinging_0 : decode (mC 34) 0 = .ok (.iconst 0, 1) := by decide +kernel
theorem d_X3_countRinging_1 : decode (mC 34) 1 = .ok (.istore_n 2, 1) := by decide +kernel
theorem d_X3_countRinging_2 : decode (mC 34) 2 = .ok (.iconst 0, 1) := by decide +kernel
theorem d_X3_countRinging_3 : decode (mC 34) 3 = .ok (.istore_n 3, 1) := by decide +kernel
theorem d_X3_countRinging_4 : decode (mC 34) 4 = .ok (.iload_n 3, 1) := by decide +kernel
theorem d_X3_countRinging_5 : decode (mC 34) 5 = .ok (.aload_n 0, 1) := by decide +kernel
theorem d_X3_countRinging_6 : decode (mC 34) 6 = .ok (.getfield 34, 3) := by decide +kernel
theorem d_X3_countRinging_9 : decode (mC 34) 9 = .ok (.if_icmp .ge 50, 3) := by decide +kernel
theorem d_X3_countRinging_12 : decode (mC 34) 12 = .ok (.aload_n 0, 1) := by decide +kernel
theorem d_X3_countRinging_13 : decode (mC 34) 13 = .ok (.getfield 25, 3) := by decide +kernel
theorem d_X3_countRinging_16 : decode (mC 34) 16 = .ok (.iload_n 3, 1) := by decide +kernel
theorem d_X3_countRinging_17 : decode (mC 34) 17 = .ok (.iaload, 1) := by decide +kernel
theorem d_X3_countRinging_18 : decode (mC 34) 18 = .ok (.bipush 100, 2) := by decide +kernel
theorem d_X3_countRinging_20 : decode (mC 34) 20 = .ok (.idiv, 1) := by decide +kernel
theorem d_X3_countRinging_21 : decode (mC 34) 21 = .ok (.aload_n 0, 1) := by decide +kernel
theorem d_X3_countRinging_22 : decode (mC 34) 22 = .ok (.getfield 25, 3) := by decide +kernel
theorem d_X3_countRinging_25 : decode (mC 34) 25 = .ok (.iload_n 3, 1) := by decide +kernel
theorem d_X3_countRinging_26 : decode (mC 34) 26 = .ok (.iaload, 1) := by decide +kernel
theorem d_X3_countRinging_27 : decode (mC 34) 27 = .ok (.bipush 10, 2) := by decide +kernel
theorem d_X3_countRinging_29 : decode (mC 34) 29 = .ok (.idiv, 1) := by decide +kernel
theorem d_X3_countRinging_30 : decode (mC 34) 30 = .ok (.bipush 10, 2) := by decide +kernel
theorem d_X3_countRinging_32 : decode (mC 34) 32 = .ok (.irem, 1) := by decide +kernel
theorem d_X3_countRinging_33 : decode (mC 34) 33 = .ok (.aload_n 0, 1) := by decide +kernel
theorem d_X3_countRinging_34 : decode (mC 34) 34 = .ok (.getfield 25, 3) := by decide +kernel
theorem d_X3_countRinging_37 : decode (mC 34) 37 = .ok (.iload_n 3, 1) := by decide +kernel
theorem d_X3_countRinging_38 : decode (mC 34) 38 = .ok (.iaload, 1) := by decide +kernel
theorem d_X3_countRinging_39 : decode (mC 34) 39 = .ok (.bipush 10, 2) := by decide +kernel
theorem d_X3_countRinging_41 : decode (mC 34) 41 = .ok (.irem, 1) := by decide +kernel
theorem d_X3_countRinging_42 : decode (mC 34) 42 = .ok (.iconst 0, 1) := by decide +kernel
theorem d_X3_countRinging_43 : decode (mC 34) 43 = .ok (.iload_n 1, 1) := by decide +kernel
theorem d_X3_countRinging_44 : decode (mC 34) 44 = .ok (.invokestatic 42, 3) := by decide +kernel
theorem d_X3_countRinging_47 : decode (mC 34) 47 = .ok (.ifCond .eq 6, 3) := by decide +kernel
theorem d_X3_countRinging_50 : decode (mC 34) 50 = .ok (.iinc 2 1, 3) := by decide +kernel
theorem d_X3_countRinging_53 : decode (mC 34) 53 = .ok (.iinc 3 1, 3) := by decide +kernel
theorem d_X3_countRinging_56 : decode (mC 34) 56 = .ok (.goto (-52), 3) := by decide +kernel
theorem d_X3_countRinging_59 : decode (mC 34) 59 = .ok (.iload_n 2, 1) := by decide +kernel
theorem d_X3_countRinging_60 : decode (mC 34) 60 = .ok (.ireturn, 1) := by decide +kernel
theorem fi_34_34 : mn_fi 34 3 34 3 5 = true := by decide +kernel
theorem fr_34_25 : mn_fr 34 3 25 3 4 = true := by decide +kernel
theorem cs_34_42 : mn_cs 34 3 42 113 = true := by decide +kernel
theorem b_X3_countRinging_0 {x1 : Int32} {h h' : mn_H} {r : Option Value} : mn_E 34 0 [.ref 10, .int x1, .null, .null] [] h r h' ↔ mn_E 34 4 [.ref 10, .int x1, .int 0, .int 0] [] h r h' :=
  (mX_iconst d_X3_countRinging_0 ci_0).trans <| (mX_istore_n (ls' := [.ref 10, .int x1, .int 0, .null]) d_X3_countRinging_1 rfl rfl).trans <| (mX_iconst d_X3_countRinging_2 ci_0).trans <| mX_istore_n (ls' := [.ref 10, .int x1, .int 0, .int 0]) d_X3_countRinging_3 rfl rfl
theorem b_X3_countRinging_4 {x1 x2 x3 : Int32} {h h' : mn_H} {r : Option Value} : mn_E 34 4 [.ref 10, .int x1, .int x2, .int x3] [] h r h' ↔ if (h 10 5) ≤ x3 then mn_E 34 59 [.ref 10, .int x1, .int x2, .int x3] [] h r h' else mn_E 34 12 [.ref 10, .int x1, .int x2, .int x3] [] h r h' :=
  (mX_iload_n d_X3_countRinging_4 rfl).trans <| (mX_aload_n d_X3_countRinging_5 rfl).trans <| (mG_i d_X3_countRinging_6 fi_34_34 rfl (by decide)).trans <| mX_icmp_ge d_X3_countRinging_9 rfl
theorem b_X3_countRinging_12 {x1 x2 x3 : Int32} {h h' : mn_H} {r : Option Value} (hy0 : vp_in x3 48) : mn_E 34 12 [.ref 10, .int x1, .int x2, .int x3] [] h r h' ↔ ∃ x h1, mn_X 113 [.int ((h 15 x3.toNatClampNeg) / 100), .int (((h 15 x3.toNatClampNeg) / 10) - ((h 15 x3.toNatClampNeg) / 10) / 10 * 10), .int ((h 15 x3.toNatClampNeg) - (h 15 x3.toNatClampNeg) / 10 * 10), .int 0, .int x1] h (some (.int x)) h1 ∧ mn_E 34 47 [.ref 10, .int x1, .int x2, .int x3] [.int x] h1 r h' :=
  (mX_aload_n d_X3_countRinging_12 rfl).trans <| (mG_r (b := 15) d_X3_countRinging_13 fr_34_25 rfl (by decide) rfl).trans <| (mX_iload_n d_X3_countRinging_16 rfl).trans <| (mX_iaload d_X3_countRinging_17 rfl (by decide) hy0).trans <| (mX_bipush d_X3_countRinging_18 cb_100).trans <| (mX_idiv d_X3_countRinging_20 (by decide)).trans <| (mX_aload_n d_X3_countRinging_21 rfl).trans <| (mG_r (b := 15) d_X3_countRinging_22 fr_34_25 rfl (by decide) rfl).trans <| (mX_iload_n d_X3_countRinging_25 rfl).trans <| (mX_iaload d_X3_countRinging_26 rfl (by decide) hy0).trans <| (mX_bipush d_X3_countRinging_27 cb_10).trans <| (mX_idiv d_X3_countRinging_29 (by decide)).trans <| (mX_bipush d_X3_countRinging_30 cb_10).trans <| (mX_irem d_X3_countRinging_32 (by decide)).trans <| (mX_aload_n d_X3_countRinging_33 rfl).trans <| (mG_r (b := 15) d_X3_countRinging_34 fr_34_25 rfl (by decide) rfl).trans <| (mX_iload_n d_X3_countRinging_37 rfl).trans <| (mX_iaload d_X3_countRinging_38 rfl (by decide) hy0).trans <| (mX_bipush d_X3_countRinging_39 cb_10).trans <| (mX_irem d_X3_countRinging_41 (by decide)).trans <| (mX_iconst d_X3_countRinging_42 ci_0).trans <| (mX_iload_n d_X3_countRinging_43 rfl).trans <| mS_i (vs := [.int ((h 15 x3.toNatClampNeg) / 100), .int (((h 15 x3.toNatClampNeg) / 10) - ((h 15 x3.toNatClampNeg) / 10) / 10 * 10), .int ((h 15 x3.toNatClampNeg) - (h 15 x3.toNatClampNeg) / 10 * 10), .int 0, .int x1]) (st' := []) d_X3_countRinging_44 cs_34_42 (Or.inr (Or.inl rfl)) (Nat.le_of_ble_eq_true rfl) rfl rfl rfl
theorem b_X3_countRinging_47 {x1 x2 x3 s0 : Int32} {h h' : mn_H} {r : Option Value} : mn_E 34 47 [.ref 10, .int x1, .int x2, .int x3] [.int s0] h r h' ↔ if s0 = 0 then mn_E 34 53 [.ref 10, .int x1, .int x2, .int x3] [] h r h' else mn_E 34 50 [.ref 10, .int x1, .int x2, .int x3] [] h r h' :=
  mX_if_eq d_X3_countRinging_47 rfl
theorem b_X3_countRinging_50 {x1 x2 x3 : Int32} {h h' : mn_H} {r : Option Value} : mn_E 34 50 [.ref 10, .int x1, .int x2, .int x3] [] h r h' ↔ mn_E 34 53 [.ref 10, .int x1, .int (x2 + 1), .int x3] [] h r h' :=
  mX_iinc (ls' := [.ref 10, .int x1, .int (x2 + 1), .int x3]) d_X3_countRinging_50 rfl ci_1 rfl rfl
theorem b_X3_countRinging_53 {x1 x2 x3 : Int32} {h h' : mn_H} {r : Option Value} : mn_E 34 53 [.ref 10, .int x1, .int x2, .int x3] [] h r h' ↔ mn_E 34 4 [.ref 10, .int x1, .int x2, .int (x3 + 1)] [] h r h' :=
  (mX_iinc (ls' := [.ref 10, .int x1, .int x2, .int (x3 + 1)]) d_X3_countRinging_53 rfl ci_1 rfl rfl).trans <| mX_goto d_X3_countRinging_56 rfl
theorem b_X3_countRinging_59 {x1 x2 x3 : Int32} {h h' : mn_H} {r : Option Value} : mn_E 34 59 [.ref 10, .int x1, .int x2, .int x3] [] h r h' ↔ r = some (.int x2) ∧ h' = h :=
  (mX_iload_n d_X3_countRinging_59 rfl).trans <| mX_iret d_X3_countRinging_60 rfl
-- X4_size
theorem mo_35 : mO 35 = 4 := rfl
theorem d_X4_size_0 : decode (mC 35) 0 = .ok (.aload_n 0, 1) := by decide +kernel
theorem d_X4_size_1 : decode (mC 35) 1 = .ok (.getfield 27, 3) := by decide +kernel
theorem d_X4_size_4 : decode (mC 35) 4 = .ok (.ireturn, 1) := by decide +kernel
theorem fi_35_27 : mn_fi 35 4 27 4 3 = true := by decide +kernel
theorem b_X4_size_0 {a0 : Nat} {h h' : mn_H} {r : Option Value} (ha0 : mn_isQ a0) : mn_E 35 0 [.ref a0] [] h r h' ↔ r = some (.int (h a0 3)) ∧ h' = h :=
  (mX_aload_n d_X4_size_0 rfl).trans <| (mG_i d_X4_size_1 fi_35_27 (mn_shQ0 ha0) (mn_ltQ0 ha0)).trans <| mX_iret d_X4_size_4 rfl
-- X4_isFull
theorem mo_36 : mO 36 = 4 := rfl
theorem d_X4_isFull_0 : decode (mC 36) 0 = .ok (.aload_n 0, 1) := by decide +kernel
theorem d_X4_isFull_1 : decode (mC 36) 1 = .ok (.getfield 27, 3) := by decide +kernel
theorem d_X4_isFull_4 : decode (mC 36) 4 = .ok (.aload_n 0, 1) := by decide +kernel
theorem d_X4_isFull_5 : decode (mC 36) 5 = .ok (.getfield 24, 3) := by decide +kernel
theorem d_X4_isFull_8 : decode (mC 36) 8 = .ok (.arraylength, 1) := by decide +kernel
theorem d_X4_isFull_9 : decode (mC 36) 9 = .ok (.if_icmp .lt 7, 3) := by decide +kernel
theorem d_X4_isFull_12 : decode (mC 36) 12 = .ok (.iconst 1, 1) := by decide +kernel
theorem d_X4_isFull_13 : decode (mC 36) 13 = .ok (.goto 4, 3) := by decide +kernel
theorem d_X4_isFull_16 : decode (mC 36) 16 = .ok (.iconst 0, 1) := by decide +kernel
theorem d_X4_isFull_17 : decode (mC 36) 17 = .ok (.ireturn, 1) := by decide +kernel
theorem fi_36_27 : mn_fi 36 4 27 4 3 = true := by decide +kernel
theorem fr_36_24 : mn_fr 36 4 24 4 2 = true := by decide +kernel
theorem b_X4_isFull_0 {a0 : Nat} {h h' : mn_H} {r : Option Value} (ha0 : mn_isQ a0) : mn_E 36 0 [.ref a0] [] h r h' ↔ if (h a0 3) < (nI (mn_qn a0)) then mn_E 36 16 [.ref a0] [] h r h' else mn_E 36 12 [.ref a0] [] h r h' :=
  (mX_aload_n d_X4_isFull_0 rfl).trans <| (mG_i d_X4_isFull_1 fi_36_27 (mn_shQ0 ha0) (mn_ltQ0 ha0)).trans <| (mX_aload_n d_X4_isFull_4 rfl).trans <| (mG_r (b := (a0 + 3)) d_X4_isFull_5 fr_36_24 (mn_shQ0 ha0) (mn_ltQ0 ha0) (mn_rfQ2 ha0 _)).trans <| (mX_alen (n := (mn_qn a0)) (v := nI (mn_qn a0)) d_X4_isFull_8 (by rw [(mn_shQ3 ha0)]) (Or.inl ⟨(mn_ltQ ha0 (by decide)), by rw [(mn_shQ3 ha0)]⟩) rfl).trans <| mX_icmp_lt d_X4_isFull_9 rfl
theorem b_X4_isFull_12 {a0 : Nat} {h h' : mn_H} {r : Option Value} (ha0 : mn_isQ a0) : mn_E 36 12 [.ref a0] [] h r h' ↔ mn_E 36 17 [.ref a0] [.int 1] h r h' :=
  (mX_iconst d_X4_isFull_12 ci_1).trans <| mX_goto d_X4_isFull_13 rfl
theorem b_X4_isFull_16 {a0 : Nat} {h h' : mn_H} {r : Option Value} (ha0 : mn_isQ a0) : mn_E 36 16 [.ref a0] [] h r h' ↔ mn_E 36 17 [.ref a0] [.int 0] h r h' :=
  mX_iconst d_X4_isFull_16 ci_0
theorem b_X4_isFull_17 {s0 : Int32} {a0 : Nat} {h h' : mn_H} {r : Option Value} (ha0 : mn_isQ a0) (hy1 : s0 = 0 ∨ s0 = 1) : mn_E 36 17 [.ref a0] [.int s0] h r h' ↔ r = some (.int s0) ∧ h' = h :=
  mX_zret d_X4_isFull_17 rfl hy1
-- X4_forgetAll
theorem mo_37 : mO 37 = 4 := rfl
theorem d_X4_forgetAll_0 : decode (mC 37) 0 = .ok (.aload_n 0, 1) := by decide +kernel
theorem d_X4_forgetAll_1 : decode (mC 37) 1 = .ok (.iconst 0, 1) := by decide +kernel
theorem d_X4_forgetAll_2 : decode (mC 37) 2 = .ok (.putfield 27, 3) := by decide +kernel
theorem d_X4_forgetAll_5 : decode (mC 37) 5 = .ok (.return_, 1) := by decide +kernel
theorem fi_37_27 : mn_fi 37 4 27 4 3 = true := by decide +kernel
theorem b_X4_forgetAll_0 {a0 : Nat} {h h' : mn_H} {r : Option Value} (ha0 : mn_isQ a0) : mn_E 37 0 [.ref a0] [] h r h' ↔ r = none ∧ h' = mn_up h a0 3 0 :=
  (mX_aload_n d_X4_forgetAll_0 rfl).trans <| (mX_iconst d_X4_forgetAll_1 ci_0).trans <| (mP_i d_X4_forgetAll_2 fi_37_27 (mn_shQ0 ha0) (mn_ltQ0 ha0) rfl (Or.inl (by decide))).trans <| mX_vret d_X4_forgetAll_5 rfl
-- X4_add
theorem mo_38 : mO 38 = 4 := rfl
theorem d_X4_add_0 : decode (mC 38) 0 = .ok (.aload_n 0, 1) := by decide +kernel
theorem d_X4_add_1 : decode (mC 38) 1 = .ok (.invokevirtual 31, 3) := by decide +kernel
theorem d_X4_add_4 : decode (mC 38) 4 = .ok (.ifCond .ne 43, 3) := by decide +kernel
theorem d_X4_add_7 : decode (mC 38) 7 = .ok (.aload_n 0, 1) := by decide +kernel
theorem d_X4_add_8 : decode (mC 38) 8 = .ok (.getfield 15, 3) := by decide +kernel
theorem d_X4_add_11 : decode (mC 38) 11 = .ok (.aload_n 0, 1) := by decide +kernel
theorem d_X4_add_12 : decode (mC 38) 12 = .ok (.getfield 27, 3) := by decide +kernel
theorem d_X4_add_15 : decode (mC 38) 15 = .ok (.iload_n 1, 1) := by decide +kernel
theorem d_X4_add_16 : decode (mC 38) 16 = .ok (.iastore, 1) := by decide +kernel
theorem d_X4_add_17 : decode (mC 38) 17 = .ok (.aload_n 0, 1) := by decide +kernel
theorem d_X4_add_18 : decode (mC 38) 18 = .ok (.getfield 21, 3) := by decide +kernel
theorem d_X4_add_21 : decode (mC 38) 21 = .ok (.aload_n 0, 1) := by decide +kernel
theorem d_X4_add_22 : decode (mC 38) 22 = .ok (.getfield 27, 3) := by decide +kernel
theorem d_X4_add_25 : decode (mC 38) 25 = .ok (.iload_n 2, 1) := by decide +kernel
theorem d_X4_add_26 : decode (mC 38) 26 = .ok (.iastore, 1) := by decide +kernel
theorem d_X4_add_27 : decode (mC 38) 27 = .ok (.aload_n 0, 1) := by decide +kernel
theorem d_X4_add_28 : decode (mC 38) 28 = .ok (.getfield 24, 3) := by decide +kernel
theorem d_X4_add_31 : decode (mC 38) 31 = .ok (.aload_n 0, 1) := by decide +kernel
theorem d_X4_add_32 : decode (mC 38) 32 = .ok (.getfield 27, 3) := by decide +kernel
theorem d_X4_add_35 : decode (mC 38) 35 = .ok (.iload_n 3, 1) := by decide +kernel
theorem d_X4_add_36 : decode (mC 38) 36 = .ok (.iastore, 1) := by decide +kernel
theorem d_X4_add_37 : decode (mC 38) 37 = .ok (.aload_n 0, 1) := by decide +kernel
theorem d_X4_add_38 : decode (mC 38) 38 = .ok (.dup, 1) := by decide +kernel
theorem d_X4_add_39 : decode (mC 38) 39 = .ok (.getfield 27, 3) := by decide +kernel
theorem d_X4_add_42 : decode (mC 38) 42 = .ok (.iconst 1, 1) := by decide +kernel
theorem d_X4_add_43 : decode (mC 38) 43 = .ok (.iadd, 1) := by decide +kernel
theorem d_X4_add_44 : decode (mC 38) 44 = .ok (.putfield 27, 3) := by decide +kernel
theorem d_X4_add_47 : decode (mC 38) 47 = .ok (.return_, 1) := by decide +kernel
theorem cv_38_31 : mn_cvt 38 4 31 36 = true := by decide +kernel
theorem fr_38_15 : mn_fr 38 4 15 4 0 = true := by decide +kernel
theorem fi_38_27 : mn_fi 38 4 27 4 3 = true := by decide +kernel
theorem fr_38_21 : mn_fr 38 4 21 4 1 = true := by decide +kernel
theorem fr_38_24 : mn_fr 38 4 24 4 2 = true := by decide +kernel
theorem b_X4_add_0 {x1 x2 x3 : Int32} {a0 : Nat} {h h' : mn_H} {r : Option Value} (ha0 : mn_isQ a0) : mn_E 38 0 [.ref a0, .int x1, .int x2, .int x3] [] h r h' ↔ ∃ x h1, mn_X 36 [.ref a0] h (some (.int x)) h1 ∧ mn_E 38 4 [.ref a0, .int x1, .int x2, .int x3] [.int x] h1 r h' :=
  (mX_aload_n d_X4_add_0 rfl).trans <| mV_i (a := a0) (vs := []) (st' := []) d_X4_add_1 cv_38_31 (Or.inr (Or.inl rfl)) (Nat.le_of_ble_eq_true rfl) rfl rfl (mn_shQ0 ha0) rfl
theorem b_X4_add_4 {x1 x2 x3 s0 : Int32} {a0 : Nat} {h h' : mn_H} {r : Option Value} (ha0 : mn_isQ a0) : mn_E 38 4 [.ref a0, .int x1, .int x2, .int x3] [.int s0] h r h' ↔ if ¬ s0 = 0 then mn_E 38 47 [.ref a0, .int x1, .int x2, .int x3] [] h r h' else mn_E 38 7 [.ref a0, .int x1, .int x2, .int x3] [] h r h' :=
  mX_if_ne d_X4_add_4 rfl
theorem b_X4_add_7 {x1 x2 x3 : Int32} {a0 : Nat} {h h' : mn_H} {r : Option Value} (ha0 : mn_isQ a0) (hy1 : vp_in (h a0 3) (mn_qn a0)) (hy2 : vp_in ((mn_up h (a0 + 1) ((h a0 3).toNatClampNeg) x1) a0 3) (mn_qn a0)) (hy3 : vp_in ((mn_up (mn_up h (a0 + 1) ((h a0 3).toNatClampNeg) x1) (a0 + 2) (((mn_up h (a0 + 1) ((h a0 3).toNatClampNeg) x1) a0 3).toNatClampNeg) x2) a0 3) (mn_qn a0)) : mn_E 38 7 [.ref a0, .int x1, .int x2, .int x3] [] h r h' ↔ mn_E 38 47 [.ref a0, .int x1, .int x2, .int x3] [] (mn_up (mn_up (mn_up (mn_up h (a0 + 1) ((h a0 3).toNatClampNeg) x1) (a0 + 2) (((mn_up h (a0 + 1) ((h a0 3).toNatClampNeg) x1) a0 3).toNatClampNeg) x2) (a0 + 3) (((mn_up (mn_up h (a0 + 1) ((h a0 3).toNatClampNeg) x1) (a0 + 2) (((mn_up h (a0 + 1) ((h a0 3).toNatClampNeg) x1) a0 3).toNatClampNeg) x2) a0 3).toNatClampNeg) x3) a0 3 (((mn_up (mn_up (mn_up h (a0 + 1) ((h a0 3).toNatClampNeg) x1) (a0 + 2) (((mn_up h (a0 + 1) ((h a0 3).toNatClampNeg) x1) a0 3).toNatClampNeg) x2) (a0 + 3) (((mn_up (mn_up h (a0 + 1) ((h a0 3).toNatClampNeg) x1) (a0 + 2) (((mn_up h (a0 + 1) ((h a0 3).toNatClampNeg) x1) a0 3).toNatClampNeg) x2) a0 3).toNatClampNeg) x3) a0 3) + 1)) r h' :=
  (mX_aload_n d_X4_add_7 rfl).trans <| (mG_r (b := (a0 + 1)) d_X4_add_8 fr_38_15 (mn_shQ0 ha0) (mn_ltQ0 ha0) (mn_rfQ0 ha0 _)).trans <| (mX_aload_n d_X4_add_11 rfl).trans <| (mG_i d_X4_add_12 fi_38_27 (mn_shQ0 ha0) (mn_ltQ0 ha0)).trans <| (mX_iload_n d_X4_add_15 rfl).trans <| (mX_iastore d_X4_add_16 (mn_shQ1 ha0) (mn_ltQ ha0 (by decide)) hy1).trans <| (mX_aload_n d_X4_add_17 rfl).trans <| (mG_r (b := (a0 + 2)) d_X4_add_18 fr_38_21 (mn_shQ0 ha0) (mn_ltQ0 ha0) (mn_rfQ1 ha0 _)).trans <| (mX_aload_n d_X4_add_21 rfl).trans <| (mG_i d_X4_add_22 fi_38_27 (mn_shQ0 ha0) (mn_ltQ0 ha0)).trans <| (mX_iload_n d_X4_add_25 rfl).trans <| (mX_iastore d_X4_add_26 (mn_shQ2 ha0) (mn_ltQ ha0 (by decide)) hy2).trans <| (mX_aload_n d_X4_add_27 rfl).trans <| (mG_r (b := (a0 + 3)) d_X4_add_28 fr_38_24 (mn_shQ0 ha0) (mn_ltQ0 ha0) (mn_rfQ2 ha0 _)).trans <| (mX_aload_n d_X4_add_31 rfl).trans <| (mG_i d_X4_add_32 fi_38_27 (mn_shQ0 ha0) (mn_ltQ0 ha0)).trans <| (mX_iload_n d_X4_add_35 rfl).trans <| (mX_iastore d_X4_add_36 (mn_shQ3 ha0) (mn_ltQ ha0 (by decide)) hy3).trans <| (mX_aload_n d_X4_add_37 rfl).trans <| (mX_dup d_X4_add_38 rfl).trans <| (mG_i d_X4_add_39 fi_38_27 (mn_shQ0 ha0) (mn_ltQ0 ha0)).trans <| (mX_iconst d_X4_add_42 ci_1).trans <| (mX_iadd d_X4_add_43).trans <| mP_i d_X4_add_44 fi_38_27 (mn_shQ0 ha0) (mn_ltQ0 ha0) rfl (Or.inl (by decide))
theorem b_X4_add_47 {x1 x2 x3 : Int32} {a0 : Nat} {h h' : mn_H} {r : Option Value} (ha0 : mn_isQ a0) : mn_E 38 47 [.ref a0, .int x1, .int x2, .int x3] [] h r h' ↔ r = none ∧ h' = h :=
  mX_vret d_X4_add_47 rfl
-- X4_metBy
theorem mo_39 : mO 39 = 4 := rfl
theorem d_X4_metBy_0 : decode (mC 39) 0 = .ok (.iconst 0, 1) := by decide +kernel
theorem d_X4_metBy_1 : decode (mC 39) 1 = .ok (.istore_n 2, 1) := by decide +kernel
theorem d_X4_metBy_2 : decode (mC 39) 2 = .ok (.iconst 0, 1) := by decide +kernel
theorem d_X4_metBy_3 : decode (mC 39) 3 = .ok (.istore_n 3, 1) := by decide +kernel
theorem d_X4_metBy_4 : decode (mC 39) 4 = .ok (.iload_n 3, 1) := by decide +kernel
theorem d_X4_metBy_5 : decode (mC 39) 5 = .ok (.aload_n 0, 1) := by decide +kernel
theorem d_X4_metBy_6 : decode (mC 39) 6 = .ok (.getfield 27, 3) := by decide +kernel
theorem d_X4_metBy_9 : decode (mC 39) 9 = .ok (.if_icmp .ge 37, 3) := by decide +kernel
theorem d_X4_metBy_12 : decode (mC 39) 12 = .ok (.aload_n 1, 1) := by decide +kernel
theorem d_X4_metBy_13 : decode (mC 39) 13 = .ok (.aload_n 0, 1) := by decide +kernel
theorem d_X4_metBy_14 : decode (mC 39) 14 = .ok (.getfield 21, 3) := by decide +kernel
theorem d_X4_metBy_17 : decode (mC 39) 17 = .ok (.iload_n 3, 1) := by decide +kernel
theorem d_X4_metBy_18 : decode (mC 39) 18 = .ok (.iaload, 1) := by decide +kernel
theorem d_X4_metBy_19 : decode (mC 39) 19 = .ok (.iaload, 1) := by decide +kernel
theorem d_X4_metBy_20 : decode (mC 39) 20 = .ok (.aload_n 0, 1) := by decide +kernel
theorem d_X4_metBy_21 : decode (mC 39) 21 = .ok (.getfield 24, 3) := by decide +kernel
theorem d_X4_metBy_24 : decode (mC 39) 24 = .ok (.iload_n 3, 1) := by decide +kernel
theorem d_X4_metBy_25 : decode (mC 39) 25 = .ok (.iaload, 1) := by decide +kernel
theorem d_X4_metBy_26 : decode (mC 39) 26 = .ok (.if_icmp .lt 14, 3) := by decide +kernel
theorem d_X4_metBy_29 : decode (mC 39) 29 = .ok (.iload_n 2, 1) := by decide +kernel
theorem d_X4_metBy_30 : decode (mC 39) 30 = .ok (.iconst 1, 1) := by decide +kernel
theorem d_X4_metBy_31 : decode (mC 39) 31 = .ok (.aload_n 0, 1) := by decide +kernel
theorem d_X4_metBy_32 : decode (mC 39) 32 = .ok (.getfield 15, 3) := by decide +kernel
theorem d_X4_metBy_35 : decode (mC 39) 35 = .ok (.iload_n 3, 1) := by decide +kernel
theorem d_X4_metBy_36 : decode (mC 39) 36 = .ok (.iaload, 1) := by decide +kernel
theorem d_X4_metBy_37 : decode (mC 39) 37 = .ok (.ishl, 1) := by decide +kernel
theorem d_X4_metBy_38 : decode (mC 39) 38 = .ok (.ior, 1) := by decide +kernel
theorem d_X4_metBy_39 : decode (mC 39) 39 = .ok (.istore_n 2, 1) := by decide +kernel
theorem d_X4_metBy_40 : decode (mC 39) 40 = .ok (.iinc 3 1, 3) := by decide +kernel
theorem d_X4_metBy_43 : decode (mC 39) 43 = .ok (.goto (-39), 3) := by decide +kernel
theorem d_X4_metBy_46 : decode (mC 39) 46 = .ok (.iload_n 2, 1) := by decide +kernel
theorem d_X4_metBy_47 : decode (mC 39) 47 = .ok (.ireturn, 1) := by decide +kernel
theorem fi_39_27 : mn_fi 39 4 27 4 3 = true := by decide +kernel
theorem fr_39_21 : mn_fr 39 4 21 4 1 = true := by decide +kernel
theorem fr_39_24 : mn_fr 39 4 24 4 2 = true := by decide +kernel
theorem fr_39_15 : mn_fr 39 4 15 4 0 = true := by decide +kernel
theorem b_X4_metBy_0 {a0 : Nat} {h h' : mn_H} {r : Option Value} (ha0 : mn_isQ a0) : mn_E 39 0 [.ref a0, .ref 17, .null, .null] [] h r h' ↔ mn_E 39 4 [.ref a0, .ref 17, .int 0, .int 0] [] h r h' :=
  (mX_iconst d_X4_metBy_0 ci_0).trans <| (mX_istore_n (ls' := [.ref a0, .ref 17, .int 0, .null]) d_X4_metBy_1 rfl rfl).trans <| (mX_iconst d_X4_metBy_2 ci_0).trans <| mX_istore_n (ls' := [.ref a0, .ref 17, .int 0, .int 0]) d_X4_metBy_3 rfl rfl
theorem b_X4_metBy_4 {x2 x3 : Int32} {a0 : Nat} {h h' : mn_H} {r : Option Value} (ha0 : mn_isQ a0) : mn_E 39 4 [.ref a0, .ref 17, .int x2, .int x3] [] h r h' ↔ if (h a0 3) ≤ x3 then mn_E 39 46 [.ref a0, .ref 17, .int x2, .int x3] [] h r h' else mn_E 39 12 [.ref a0, .ref 17, .int x2, .int x3] [] h r h' :=
  (mX_iload_n d_X4_metBy_4 rfl).trans <| (mX_aload_n d_X4_metBy_5 rfl).trans <| (mG_i d_X4_metBy_6 fi_39_27 (mn_shQ0 ha0) (mn_ltQ0 ha0)).trans <| mX_icmp_ge d_X4_metBy_9 rfl
theorem b_X4_metBy_12 {x2 x3 : Int32} {a0 : Nat} {h h' : mn_H} {r : Option Value} (ha0 : mn_isQ a0) (hy1 : vp_in x3 (mn_qn a0)) (hy2 : vp_in (h (a0 + 2) x3.toNatClampNeg) 7) : mn_E 39 12 [.ref a0, .ref 17, .int x2, .int x3] [] h r h' ↔ if (h 17 (h (a0 + 2) x3.toNatClampNeg).toNatClampNeg) < (h (a0 + 3) x3.toNatClampNeg) then mn_E 39 40 [.ref a0, .ref 17, .int x2, .int x3] [] h r h' else mn_E 39 29 [.ref a0, .ref 17, .int x2, .int x3] [] h r h' :=
  (mX_aload_n d_X4_metBy_12 rfl).trans <| (mX_aload_n d_X4_metBy_13 rfl).trans <| (mG_r (b := (a0 + 2)) d_X4_metBy_14 fr_39_21 (mn_shQ0 ha0) (mn_ltQ0 ha0) (mn_rfQ1 ha0 _)).trans <| (mX_iload_n d_X4_metBy_17 rfl).trans <| (mX_iaload d_X4_metBy_18 (mn_shQ2 ha0) (mn_ltQ ha0 (by decide)) hy1).trans <| (mX_iaload d_X4_metBy_19 rfl (by decide) hy2).trans <| (mX_aload_n d_X4_metBy_20 rfl).trans <| (mG_r (b := (a0 + 3)) d_X4_metBy_21 fr_39_24 (mn_shQ0 ha0) (mn_ltQ0 ha0) (mn_rfQ2 ha0 _)).trans <| (mX_iload_n d_X4_metBy_24 rfl).trans <| (mX_iaload d_X4_metBy_25 (mn_shQ3 ha0) (mn_ltQ ha0 (by decide)) hy1).trans <| mX_icmp_lt d_X4_metBy_26 rfl
theorem b_X4_metBy_29 {x2 x3 : Int32} {a0 : Nat} {h h' : mn_H} {r : Option Value} (ha0 : mn_isQ a0) (hy1 : vp_in x3 (mn_qn a0)) : mn_E 39 29 [.ref a0, .ref 17, .int x2, .int x3] [] h r h' ↔ mn_E 39 40 [.ref a0, .ref 17, .int (x2 ||| (1 <<< ((h (a0 + 1) x3.toNatClampNeg) &&& 31))), .int x3] [] h r h' :=
  (mX_iload_n d_X4_metBy_29 rfl).trans <| (mX_iconst d_X4_metBy_30 ci_1).trans <| (mX_aload_n d_X4_metBy_31 rfl).trans <| (mG_r (b := (a0 + 1)) d_X4_metBy_32 fr_39_15 (mn_shQ0 ha0) (mn_ltQ0 ha0) (mn_rfQ0 ha0 _)).trans <| (mX_iload_n d_X4_metBy_35 rfl).trans <| (mX_iaload d_X4_metBy_36 (mn_shQ1 ha0) (mn_ltQ ha0 (by decide)) hy1).trans <| (mX_ishl d_X4_metBy_37).trans <| (mX_ior d_X4_metBy_38).trans <| mX_istore_n (ls' := [.ref a0, .ref 17, .int (x2 ||| (1 <<< ((h (a0 + 1) x3.toNatClampNeg) &&& 31))), .int x3]) d_X4_metBy_39 rfl rfl
theorem b_X4_metBy_40 {x2 x3 : Int32} {a0 : Nat} {h h' : mn_H} {r : Option Value} (ha0 : mn_isQ a0) : mn_E 39 40 [.ref a0, .ref 17, .int x2, .int x3] [] h r h' ↔ mn_E 39 4 [.ref a0, .ref 17, .int x2, .int (x3 + 1)] [] h r h' :=
  (mX_iinc (ls' := [.ref a0, .ref 17, .int x2, .int (x3 + 1)]) d_X4_metBy_40 rfl ci_1 rfl rfl).trans <| mX_goto d_X4_metBy_43 rfl
theorem b_X4_metBy_46 {x2 x3 : Int32} {a0 : Nat} {h h' : mn_H} {r : Option Value} (ha0 : mn_isQ a0) : mn_E 39 46 [.ref a0, .ref 17, .int x2, .int x3] [] h r h' ↔ r = some (.int x2) ∧ h' = h :=
  (mX_iload_n d_X4_metBy_46 rfl).trans <| mX_iret d_X4_metBy_47 rfl
-- X4_gapAbove
theorem mo_40 : mO 40 = 4 := rfl
theorem d_X4_gapAbove_0 : decode (mC 40) 0 = .ok (.sipush 1000, 3) := by decide +kernel
theorem d_X4_gapAbove_3 : decode (mC 40) 3 = .ok (.istore_n 3, 1) := by decide +kernel
theorem d_X4_gapAbove_4 : decode (mC 40) 4 = .ok (.iconst 0, 1) := by decide +kernel
theorem d_X4_gapAbove_5 : decode (mC 40) 5 = .ok (.istore 4, 2) := by decide +kernel
theorem d_X4_gapAbove_7 : decode (mC 40) 7 = .ok (.iload 4, 2) := by decide +kernel
theorem d_X4_gapAbove_9 : decode (mC 40) 9 = .ok (.aload_n 0, 1) := by decide +kernel
theorem d_X4_gapAbove_10 : decode (mC 40) 10 = .ok (.getfield 27, 3) := by decide +kernel
theorem d_X4_gapAbove_13 : decode (mC 40) 13 = .ok (.if_icmp .ge 45, 3) := by decide +kernel
theorem d_X4_gapAbove_16 : decode (mC 40) 16 = .ok (.aload_n 0, 1) := by decide +kernel
theorem d_X4_gapAbove_17 : decode (mC 40) 17 = .ok (.getfield 21, 3) := by decide +kernel
theorem d_X4_gapAbove_20 : decode (mC 40) 20 = .ok (.iload 4, 2) := by decide +kernel
theorem d_X4_gapAbove_22 : decode (mC 40) 22 = .ok (.iaload, 1) := by decide +kernel
theorem d_X4_gapAbove_23 : decode (mC 40) 23 = .ok (.iload_n 1, 1) := by decide +kernel
theorem d_X4_gapAbove_24 : decode (mC 40) 24 = .ok (.if_icmp .ne 28, 3) := by decide +kernel
theorem d_X4_gapAbove_27 : decode (mC 40) 27 = .ok (.aload_n 0, 1) := by decide +kernel
theorem d_X4_gapAbove_28 : decode (mC 40) 28 = .ok (.getfield 24, 3) := by decide +kernel
theorem d_X4_gapAbove_31 : decode (mC 40) 31 = .ok (.iload 4, 2) := by decide +kernel
theorem d_X4_gapAbove_33 : decode (mC 40) 33 = .ok (.iaload, 1) := by decide +kernel
theorem d_X4_gapAbove_34 : decode (mC 40) 34 = .ok (.iload_n 2, 1) := by decide +kernel
theorem d_X4_gapAbove_35 : decode (mC 40) 35 = .ok (.if_icmp .le 17, 3) := by decide +kernel
theorem d_X4_gapAbove_38 : decode (mC 40) 38 = .ok (.iload_n 3, 1) := by decide +kernel
theorem d_X4_gapAbove_39 : decode (mC 40) 39 = .ok (.aload_n 0, 1) := by decide +kernel
theorem d_X4_gapAbove_40 : decode (mC 40) 40 = .ok (.getfield 24, 3) := by decide +kernel
theorem d_X4_gapAbove_43 : decode (mC 40) 43 = .ok (.iload 4, 2) := by decide +kernel
theorem d_X4_gapAbove_45 : decode (mC 40) 45 = .ok (.iaload, 1) := by decide +kernel
theorem d_X4_gapAbove_46 : decode (mC 40) 46 = .ok (.iload_n 2, 1) := by decide +kernel
theorem d_X4_gapAbove_47 : decode (mC 40) 47 = .ok (.isub, 1) := by decide +kernel
theorem d_X4_gapAbove_48 : decode (mC 40) 48 = .ok (.invokestatic 35, 3) := by decide +kernel
theorem d_X4_gapAbove_51 : decode (mC 40) 51 = .ok (.istore_n 3, 1) := by decide +kernel
theorem d_X4_gapAbove_52 : decode (mC 40) 52 = .ok (.iinc 4 1, 3) := by decide +kernel
theorem d_X4_gapAbove_55 : decode (mC 40) 55 = .ok (.goto (-48), 3) := by decide +kernel
theorem d_X4_gapAbove_58 : decode (mC 40) 58 = .ok (.iload_n 3, 1) := by decide +kernel
theorem d_X4_gapAbove_59 : decode (mC 40) 59 = .ok (.ireturn, 1) := by decide +kernel
theorem fi_40_27 : mn_fi 40 4 27 4 3 = true := by decide +kernel
theorem fr_40_21 : mn_fr 40 4 21 4 1 = true := by decide +kernel
theorem fr_40_24 : mn_fr 40 4 24 4 2 = true := by decide +kernel
theorem ma_4_35 : mn_ml 4 35 = none ∧ mn_nl 4 35 = none ∧ mn_ma 4 35 = some 1 := by decide +kernel
theorem b_X4_gapAbove_0 {x1 x2 : Int32} {a0 : Nat} {h h' : mn_H} {r : Option Value} (ha0 : mn_isQ a0) : mn_E 40 0 [.ref a0, .int x1, .int x2, .null, .null] [] h r h' ↔ mn_E 40 7 [.ref a0, .int x1, .int x2, .int 1000, .int 0] [] h r h' :=
  (mX_sipush d_X4_gapAbove_0 cs_1000).trans <| (mX_istore_n (ls' := [.ref a0, .int x1, .int x2, .int 1000, .null]) d_X4_gapAbove_3 rfl rfl).trans <| (mX_iconst d_X4_gapAbove_4 ci_0).trans <| mX_istore (ls' := [.ref a0, .int x1, .int x2, .int 1000, .int 0]) d_X4_gapAbove_5 rfl rfl
theorem b_X4_gapAbove_7 {x1 x2 x3 x4 : Int32} {a0 : Nat} {h h' : mn_H} {r : Option Value} (ha0 : mn_isQ a0) : mn_E 40 7 [.ref a0, .int x1, .int x2, .int x3, .int x4] [] h r h' ↔ if (h a0 3) ≤ x4 then mn_E 40 58 [.ref a0, .int x1, .int x2, .int x3, .int x4] [] h r h' else mn_E 40 16 [.ref a0, .int x1, .int x2, .int x3, .int x4] [] h r h' :=
  (mX_iload d_X4_gapAbove_7 rfl).trans <| (mX_aload_n d_X4_gapAbove_9 rfl).trans <| (mG_i d_X4_gapAbove_10 fi_40_27 (mn_shQ0 ha0) (mn_ltQ0 ha0)).trans <| mX_icmp_ge d_X4_gapAbove_13 rfl
theorem b_X4_gapAbove_16 {x1 x2 x3 x4 : Int32} {a0 : Nat} {h h' : mn_H} {r : Option Value} (ha0 : mn_isQ a0) (hy1 : vp_in x4 (mn_qn a0)) : mn_E 40 16 [.ref a0, .int x1, .int x2, .int x3, .int x4] [] h r h' ↔ if ¬ (h (a0 + 2) x4.toNatClampNeg) = x1 then mn_E 40 52 [.ref a0, .int x1, .int x2, .int x3, .int x4] [] h r h' else mn_E 40 27 [.ref a0, .int x1, .int x2, .int x3, .int x4] [] h r h' :=
  (mX_aload_n d_X4_gapAbove_16 rfl).trans <| (mG_r (b := (a0 + 2)) d_X4_gapAbove_17 fr_40_21 (mn_shQ0 ha0) (mn_ltQ0 ha0) (mn_rfQ1 ha0 _)).trans <| (mX_iload d_X4_gapAbove_20 rfl).trans <| (mX_iaload d_X4_gapAbove_22 (mn_shQ2 ha0) (mn_ltQ ha0 (by decide)) hy1).trans <| (mX_iload_n d_X4_gapAbove_23 rfl).trans <| mX_icmp_ne d_X4_gapAbove_24 rfl
theorem b_X4_gapAbove_27 {x1 x2 x3 x4 : Int32} {a0 : Nat} {h h' : mn_H} {r : Option Value} (ha0 : mn_isQ a0) (hy1 : vp_in x4 (mn_qn a0)) : mn_E 40 27 [.ref a0, .int x1, .int x2, .int x3, .int x4] [] h r h' ↔ if (h (a0 + 3) x4.toNatClampNeg) ≤ x2 then mn_E 40 52 [.ref a0, .int x1, .int x2, .int x3, .int x4] [] h r h' else mn_E 40 38 [.ref a0, .int x1, .int x2, .int x3, .int x4] [] h r h' :=
  (mX_aload_n d_X4_gapAbove_27 rfl).trans <| (mG_r (b := (a0 + 3)) d_X4_gapAbove_28 fr_40_24 (mn_shQ0 ha0) (mn_ltQ0 ha0) (mn_rfQ2 ha0 _)).trans <| (mX_iload d_X4_gapAbove_31 rfl).trans <| (mX_iaload d_X4_gapAbove_33 (mn_shQ3 ha0) (mn_ltQ ha0 (by decide)) hy1).trans <| (mX_iload_n d_X4_gapAbove_34 rfl).trans <| mX_icmp_le d_X4_gapAbove_35 rfl
theorem b_X4_gapAbove_38 {x1 x2 x3 x4 : Int32} {a0 : Nat} {h h' : mn_H} {r : Option Value} (ha0 : mn_isQ a0) (hy1 : vp_in x4 (mn_qn a0)) : mn_E 40 38 [.ref a0, .int x1, .int x2, .int x3, .int x4] [] h r h' ↔ mn_E 40 52 [.ref a0, .int x1, .int x2, .int (if ((h (a0 + 3) x4.toNatClampNeg) - x2) < x3 then ((h (a0 + 3) x4.toNatClampNeg) - x2) else x3), .int x4] [] h r h' :=
  (mX_iload_n d_X4_gapAbove_38 rfl).trans <| (mX_aload_n d_X4_gapAbove_39 rfl).trans <| (mG_r (b := (a0 + 3)) d_X4_gapAbove_40 fr_40_24 (mn_shQ0 ha0) (mn_ltQ0 ha0) (mn_rfQ2 ha0 _)).trans <| (mX_iload d_X4_gapAbove_43 rfl).trans <| (mX_iaload d_X4_gapAbove_45 (mn_shQ3 ha0) (mn_ltQ ha0 (by decide)) hy1).trans <| (mX_iload_n d_X4_gapAbove_46 rfl).trans <| (mX_isub d_X4_gapAbove_47).trans <| (mX_min d_X4_gapAbove_48 mo_40 ma_4_35 (by decide)).trans <| mX_istore_n (ls' := [.ref a0, .int x1, .int x2, .int (if ((h (a0 + 3) x4.toNatClampNeg) - x2) < x3 then ((h (a0 + 3) x4.toNatClampNeg) - x2) else x3), .int x4]) d_X4_gapAbove_51 rfl rfl
theorem b_X4_gapAbove_52 {x1 x2 x3 x4 : Int32} {a0 : Nat} {h h' : mn_H} {r : Option Value} (ha0 : mn_isQ a0) : mn_E 40 52 [.ref a0, .int x1, .int x2, .int x3, .int x4] [] h r h' ↔ mn_E 40 7 [.ref a0, .int x1, .int x2, .int x3, .int (x4 + 1)] [] h r h' :=
  (mX_iinc (ls' := [.ref a0, .int x1, .int x2, .int x3, .int (x4 + 1)]) d_X4_gapAbove_52 rfl ci_1 rfl rfl).trans <| mX_goto d_X4_gapAbove_55 rfl
theorem b_X4_gapAbove_58 {x1 x2 x3 x4 : Int32} {a0 : Nat} {h h' : mn_H} {r : Option Value} (ha0 : mn_isQ a0) : mn_E 40 58 [.ref a0, .int x1, .int x2, .int x3, .int x4] [] h r h' ↔ r = some (.int x3) ∧ h' = h :=
  (mX_iload_n d_X4_gapAbove_58 rfl).trans <| mX_iret d_X4_gapAbove_59 rfl
-- X6_suppose
theorem mo_57 : mO 57 = 6 := rfl
theorem d_X6_suppose_0 : decode (mC 57) 0 = .ok (.aload_n 0, 1) := by decide +kernel
theorem d_X6_suppose_1 : decode (mC 57) 1 = .ok (.sipush 1000, 3) := by decide +kernel
theorem d_X6_suppose_4 : decode (mC 57) 4 = .ok (.putfield 21, 3) := by decide +kernel
theorem d_X6_suppose_7 : decode (mC 57) 7 = .ok (.iconst 0, 1) := by decide +kernel
theorem d_X6_suppose_8 : decode (mC 57) 8 = .ok (.istore 6, 2) := by decide +kernel
theorem d_X6_suppose_10 : decode (mC 57) 10 = .ok (.iload 6, 2) := by decide +kernel
theorem d_X6_suppose_12 : decode (mC 57) 12 = .ok (.aload_n 1, 1) := by decide +kernel
theorem d_X6_suppose_13 : decode (mC 57) 13 = .ok (.invokevirtual 25, 3) := by decide +kernel
theorem d_X6_suppose_16 : decode (mC 57) 16 = .ok (.if_icmp .ge 137, 3) := by decide +kernel
theorem d_X6_suppose_19 : decode (mC 57) 19 = .ok (.iload 6, 2) := by decide +kernel
theorem d_X6_suppose_21 : decode (mC 57) 21 = .ok (.bipush 32, 2) := by decide +kernel
theorem d_X6_suppose_23 : decode (mC 57) 23 = .ok (.if_icmp .ge 130, 3) := by decide +kernel
theorem d_X6_suppose_26 : decode (mC 57) 26 = .ok (.aload_n 0, 1) := by decide +kernel
theorem d_X6_suppose_27 : decode (mC 57) 27 = .ok (.aload_n 1, 1) := by decide +kernel
theorem d_X6_suppose_28 : decode (mC 57) 28 = .ok (.iload 6, 2) := by decide +kernel
theorem d_X6_suppose_30 : decode (mC 57) 30 = .ok (.iload_n 2, 1) := by decide +kernel
theorem d_X6_suppose_31 : decode (mC 57) 31 = .ok (.iload_n 3, 1) := by decide +kernel
theorem d_X6_suppose_32 : decode (mC 57) 32 = .ok (.iload 4, 2) := by decide +kernel
theorem d_X6_suppose_34 : decode (mC 57) 34 = .ok (.iload 5, 2) := by decide +kernel
theorem d_X6_suppose_36 : decode (mC 57) 36 = .ok (.invokevirtual 31, 3) := by decide +kernel
theorem d_X6_suppose_39 : decode (mC 57) 39 = .ok (.aload_n 0, 1) := by decide +kernel
theorem d_X6_suppose_40 : decode (mC 57) 40 = .ok (.getfield 15, 3) := by decide +kernel
theorem d_X6_suppose_43 : decode (mC 57) 43 = .ok (.iload 6, 2) := by decide +kernel
theorem d_X6_suppose_45 : decode (mC 57) 45 = .ok (.aload_n 1, 1) := by decide +kernel
theorem d_X6_suppose_46 : decode (mC 57) 46 = .ok (.getfield 35, 3) := by decide +kernel
theorem d_X6_suppose_49 : decode (mC 57) 49 = .ok (.aload_n 0, 1) := by decide +kernel
theorem d_X6_suppose_50 : decode (mC 57) 50 = .ok (.getfield 9, 3) := by decide +kernel
theorem d_X6_suppose_53 : decode (mC 57) 53 = .ok (.invokevirtual 39, 3) := by decide +kernel
theorem d_X6_suppose_56 : decode (mC 57) 56 = .ok (.iastore, 1) := by decide +kernel
theorem d_X6_suppose_57 : decode (mC 57) 57 = .ok (.aload_n 0, 1) := by decide +kernel
theorem d_X6_suppose_58 : decode (mC 57) 58 = .ok (.getfield 18, 3) := by decide +kernel
theorem d_X6_suppose_61 : decode (mC 57) 61 = .ok (.iload 6, 2) := by decide +kernel
theorem d_X6_suppose_63 : decode (mC 57) 63 = .ok (.aload_n 1, 1) := by decide +kernel
theorem d_X6_suppose_64 : decode (mC 57) 64 = .ok (.getfield 45, 3) := by decide +kernel
theorem d_X6_suppose_67 : decode (mC 57) 67 = .ok (.aload_n 0, 1) := by decide +kernel
theorem d_X6_suppose_68 : decode (mC 57) 68 = .ok (.getfield 9, 3) := by decide +kernel
theorem d_X6_suppose_71 : decode (mC 57) 71 = .ok (.invokevirtual 39, 3) := by decide +kernel
theorem d_X6_suppose_74 : decode (mC 57) 74 = .ok (.iastore, 1) := by decide +kernel
theorem d_X6_suppose_75 : decode (mC 57) 75 = .ok (.iload 4, 2) := by decide +kernel
theorem d_X6_suppose_77 : decode (mC 57) 77 = .ok (.iconst (-1), 1) := by decide +kernel
theorem d_X6_suppose_78 : decode (mC 57) 78 = .ok (.if_icmp .eq 69, 3) := by decide +kernel
theorem d_X6_suppose_81 : decode (mC 57) 81 = .ok (.aload_n 1, 1) := by decide +kernel
theorem d_X6_suppose_82 : decode (mC 57) 82 = .ok (.iload 4, 2) := by decide +kernel
theorem d_X6_suppose_84 : decode (mC 57) 84 = .ok (.iload 6, 2) := by decide +kernel
theorem d_X6_suppose_86 : decode (mC 57) 86 = .ok (.iload_n 2, 1) := by decide +kernel
theorem d_X6_suppose_87 : decode (mC 57) 87 = .ok (.iload_n 3, 1) := by decide +kernel
theorem d_X6_suppose_88 : decode (mC 57) 88 = .ok (.invokevirtual 48, 3) := by decide +kernel
theorem d_X6_suppose_91 : decode (mC 57) 91 = .ok (.istore 7, 2) := by decide +kernel
theorem d_X6_suppose_93 : decode (mC 57) 93 = .ok (.aload_n 0, 1) := by decide +kernel
theorem d_X6_suppose_94 : decode (mC 57) 94 = .ok (.aload_n 0, 1) := by decide +kernel
theorem d_X6_suppose_95 : decode (mC 57) 95 = .ok (.getfield 21, 3) := by decide +kernel
theorem d_X6_suppose_98 : decode (mC 57) 98 = .ok (.aload_n 1, 1) := by decide +kernel
theorem d_X6_suppose_99 : decode (mC 57) 99 = .ok (.getfield 35, 3) := by decide +kernel
theorem d_X6_suppose_102 : decode (mC 57) 102 = .ok (.iload 7, 2) := by decide +kernel
theorem d_X6_suppose_104 : decode (mC 57) 104 = .ok (.aload_n 0, 1) := by decide +kernel
theorem d_X6_suppose_105 : decode (mC 57) 105 = .ok (.getfield 9, 3) := by decide +kernel
theorem d_X6_suppose_108 : decode (mC 57) 108 = .ok (.iload 7, 2) := by decide +kernel
theorem d_X6_suppose_110 : decode (mC 57) 110 = .ok (.iaload, 1) := by decide +kernel
theorem d_X6_suppose_111 : decode (mC 57) 111 = .ok (.invokevirtual 52, 3) := by decide +kernel
theorem d_X6_suppose_114 : decode (mC 57) 114 = .ok (.invokestatic 56, 3) := by decide +kernel
theorem d_X6_suppose_117 : decode (mC 57) 117 = .ok (.putfield 21, 3) := by decide +kernel
theorem d_X6_suppose_120 : decode (mC 57) 120 = .ok (.aload_n 0, 1) := by decide +kernel
theorem d_X6_suppose_121 : decode (mC 57) 121 = .ok (.aload_n 0, 1) := by decide +kernel
theorem d_X6_suppose_122 : decode (mC 57) 122 = .ok (.getfield 21, 3) := by decide +kernel
theorem d_X6_suppose_125 : decode (mC 57) 125 = .ok (.aload_n 1, 1) := by decide +kernel
theorem d_X6_suppose_126 : decode (mC 57) 126 = .ok (.getfield 45, 3) := by decide +kernel
theorem d_X6_suppose_129 : decode (mC 57) 129 = .ok (.iload 7, 2) := by decide +kernel
theorem d_X6_suppose_131 : decode (mC 57) 131 = .ok (.aload_n 0, 1) := by decide +kernel
theorem d_X6_suppose_132 : decode (mC 57) 132 = .ok (.getfield 9, 3) := by decide +kernel
theorem d_X6_suppose_135 : decode (mC 57) 135 = .ok (.iload 7, 2) := by decide +kernel
theorem d_X6_suppose_137 : decode (mC 57) 137 = .ok (.iaload, 1) := by decide +kernel
theorem d_X6_suppose_138 : decode (mC 57) 138 = .ok (.invokevirtual 52, 3) := by decide +kernel
theorem d_X6_suppose_141 : decode (mC 57) 141 = .ok (.invokestatic 56, 3) := by decide +kernel
theorem d_X6_suppose_144 : decode (mC 57) 144 = .ok (.putfield 21, 3) := by decide +kernel
theorem d_X6_suppose_147 : decode (mC 57) 147 = .ok (.iinc 6 1, 3) := by decide +kernel
theorem d_X6_suppose_150 : decode (mC 57) 150 = .ok (.goto (-140), 3) := by decide +kernel
theorem d_X6_suppose_153 : decode (mC 57) 153 = .ok (.return_, 1) := by decide +kernel
theorem fi_57_21 : mn_fi 57 6 21 6 3 = true := by decide +kernel
theorem cv_57_25 : mn_cvt 57 6 25 48 = true := by decide +kernel
theorem cv_57_31 : mn_cvt 57 6 31 59 = true := by decide +kernel
theorem fr_57_15 : mn_fr 57 6 15 6 1 = true := by decide +kernel
theorem fr_57_35 : mn_fr 57 6 35 5 9 = true := by decide +kernel
theorem fr_57_9 : mn_fr 57 6 9 6 0 = true := by decide +kernel
theorem cv_57_39 : mn_cvt 57 6 39 39 = true := by decide +kernel
theorem fr_57_18 : mn_fr 57 6 18 6 2 = true := by decide +kernel
theorem fr_57_45 : mn_fr 57 6 45 5 10 = true := by decide +kernel
theorem cv_57_48 : mn_cvt 57 6 48 51 = true := by decide +kernel
theorem cv_57_52 : mn_cvt 57 6 52 40 = true := by decide +kernel
theorem ma_6_56 : mn_ml 6 56 = none ∧ mn_nl 6 56 = none ∧ mn_ma 6 56 = some 1 := by decide +kernel
theorem b_X6_suppose_0 {x2 x3 x4 x5 : Int32} {a1 : Nat} {h h' : mn_H} {r : Option Value} (ha1 : mn_isT a1) : mn_E 57 0 [.ref 16, .ref a1, .int x2, .int x3, .int x4, .int x5, .null, .null] [] h r h' ↔ mn_E 57 10 [.ref 16, .ref a1, .int x2, .int x3, .int x4, .int x5, .int 0, .null] [] (mn_up h 16 3 1000) r h' :=
  (mX_aload_n d_X6_suppose_0 rfl).trans <| (mX_sipush d_X6_suppose_1 cs_1000).trans <| (mP_i d_X6_suppose_4 fi_57_21 rfl (by decide) rfl (Or.inl (by decide))).trans <| (mX_iconst d_X6_suppose_7 ci_0).trans <| mX_istore (ls' := [.ref 16, .ref a1, .int x2, .int x3, .int x4, .int x5, .int 0, .null]) d_X6_suppose_8 rfl rfl
theorem b_X6_suppose_10 {x2 x3 x4 x5 x6 : Int32} {a1 : Nat} {w7 : Value} {h h' : mn_H} {r : Option Value} (ha1 : mn_isT a1) : mn_E 57 10 [.ref 16, .ref a1, .int x2, .int x3, .int x4, .int x5, .int x6, w7] [] h r h' ↔ ∃ x h1, mn_X 48 [.ref a1] h (some (.int x)) h1 ∧ mn_E 57 16 [.ref 16, .ref a1, .int x2, .int x3, .int x4, .int x5, .int x6, w7] [.int x, .int x6] h1 r h' :=
  (mX_iload d_X6_suppose_10 rfl).trans <| (mX_aload_n d_X6_suppose_12 rfl).trans <| mV_i (a := a1) (vs := []) (st' := [.int x6]) d_X6_suppose_13 cv_57_25 (Or.inl rfl) (Nat.le_of_ble_eq_true rfl) rfl rfl (mn_shT0 ha1) rfl
theorem b_X6_suppose_16 {x2 x3 x4 x5 x6 s0 s1 : Int32} {a1 : Nat} {w7 : Value} {h h' : mn_H} {r : Option Value} (ha1 : mn_isT a1) : mn_E 57 16 [.ref 16, .ref a1, .int x2, .int x3, .int x4, .int x5, .int x6, w7] [.int s0, .int s1] h r h' ↔ if s0 ≤ s1 then mn_E 57 153 [.ref 16, .ref a1, .int x2, .int x3, .int x4, .int x5, .int x6, w7] [] h r h' else mn_E 57 19 [.ref 16, .ref a1, .int x2, .int x3, .int x4, .int x5, .int x6, w7] [] h r h' :=
  mX_icmp_ge d_X6_suppose_16 rfl
theorem b_X6_suppose_19 {x2 x3 x4 x5 x6 : Int32} {a1 : Nat} {w7 : Value} {h h' : mn_H} {r : Option Value} (ha1 : mn_isT a1) : mn_E 57 19 [.ref 16, .ref a1, .int x2, .int x3, .int x4, .int x5, .int x6, w7] [] h r h' ↔ if (32 : Int32) ≤ x6 then mn_E 57 153 [.ref 16, .ref a1, .int x2, .int x3, .int x4, .int x5, .int x6, w7] [] h r h' else mn_E 57 26 [.ref 16, .ref a1, .int x2, .int x3, .int x4, .int x5, .int x6, w7] [] h r h' :=
  (mX_iload d_X6_suppose_19 rfl).trans <| (mX_bipush d_X6_suppose_21 cb_32).trans <| mX_icmp_ge d_X6_suppose_23 rfl
theorem b_X6_suppose_26 {x2 x3 x4 x5 x6 : Int32} {a1 : Nat} {w7 : Value} {h h' : mn_H} {r : Option Value} (ha1 : mn_isT a1) : mn_E 57 26 [.ref 16, .ref a1, .int x2, .int x3, .int x4, .int x5, .int x6, w7] [] h r h' ↔ ∃ h1, mn_X 59 [.ref 16, .ref a1, .int x6, .int x2, .int x3, .int x4, .int x5] h none h1 ∧ mn_E 57 39 [.ref 16, .ref a1, .int x2, .int x3, .int x4, .int x5, .int x6, w7] [] h1 r h' :=
  (mX_aload_n d_X6_suppose_26 rfl).trans <| (mX_aload_n d_X6_suppose_27 rfl).trans <| (mX_iload d_X6_suppose_28 rfl).trans <| (mX_iload_n d_X6_suppose_30 rfl).trans <| (mX_iload_n d_X6_suppose_31 rfl).trans <| (mX_iload d_X6_suppose_32 rfl).trans <| (mX_iload d_X6_suppose_34 rfl).trans <| mV_v (a := 16) (vs := [.ref a1, .int x6, .int x2, .int x3, .int x4, .int x5]) (st' := []) d_X6_suppose_36 cv_57_31 rfl (Nat.le_of_ble_eq_true rfl) rfl rfl rfl rfl
theorem b_X6_suppose_39 {x2 x3 x4 x5 x6 : Int32} {a1 : Nat} {w7 : Value} {h h' : mn_H} {r : Option Value} (ha1 : mn_isT a1) : mn_E 57 39 [.ref 16, .ref a1, .int x2, .int x3, .int x4, .int x5, .int x6, w7] [] h r h' ↔ ∃ x h1, mn_X 39 [.ref (a1 + 8), .ref 17] h (some (.int x)) h1 ∧ mn_E 57 56 [.ref 16, .ref a1, .int x2, .int x3, .int x4, .int x5, .int x6, w7] [.int x, .int x6, .ref 18] h1 r h' :=
  (mX_aload_n d_X6_suppose_39 rfl).trans <| (mG_r (b := 18) d_X6_suppose_40 fr_57_15 rfl (by decide) rfl).trans <| (mX_iload d_X6_suppose_43 rfl).trans <| (mX_aload_n d_X6_suppose_45 rfl).trans <| (mG_r (b := (a1 + 8)) d_X6_suppose_46 fr_57_35 (mn_shT0 ha1) (mn_ltT0 ha1) (mn_rfT9 ha1 _)).trans <| (mX_aload_n d_X6_suppose_49 rfl).trans <| (mG_r (b := 17) d_X6_suppose_50 fr_57_9 rfl (by decide) rfl).trans <| mV_i (a := (a1 + 8)) (vs := [.ref 17]) (st' := [.int x6, .ref 18]) d_X6_suppose_53 cv_57_39 (Or.inl rfl) (Nat.le_of_ble_eq_true rfl) rfl rfl (mn_shT8 ha1) rfl
theorem b_X6_suppose_56 {x2 x3 x4 x5 x6 s0 s1 : Int32} {a1 : Nat} {w7 : Value} {h h' : mn_H} {r : Option Value} (ha1 : mn_isT a1) (hy1 : vp_in s1 32) : mn_E 57 56 [.ref 16, .ref a1, .int x2, .int x3, .int x4, .int x5, .int x6, w7] [.int s0, .int s1, .ref 18] h r h' ↔ ∃ x h1, mn_X 39 [.ref (a1 + 12), .ref 17] (mn_up h 18 (s1.toNatClampNeg) s0) (some (.int x)) h1 ∧ mn_E 57 74 [.ref 16, .ref a1, .int x2, .int x3, .int x4, .int x5, .int x6, w7] [.int x, .int x6, .ref 19] h1 r h' :=
  (mX_iastore d_X6_suppose_56 rfl (by decide) hy1).trans <| (mX_aload_n d_X6_suppose_57 rfl).trans <| (mG_r (b := 19) d_X6_suppose_58 fr_57_18 rfl (by decide) rfl).trans <| (mX_iload d_X6_suppose_61 rfl).trans <| (mX_aload_n d_X6_suppose_63 rfl).trans <| (mG_r (b := (a1 + 12)) d_X6_suppose_64 fr_57_45 (mn_shT0 ha1) (mn_ltT0 ha1) (mn_rfT10 ha1 _)).trans <| (mX_aload_n d_X6_suppose_67 rfl).trans <| (mG_r (b := 17) d_X6_suppose_68 fr_57_9 rfl (by decide) rfl).trans <| mV_i (a := (a1 + 12)) (vs := [.ref 17]) (st' := [.int x6, .ref 19]) d_X6_suppose_71 cv_57_39 (Or.inl rfl) (Nat.le_of_ble_eq_true rfl) rfl rfl (mn_shT12 ha1) rfl
theorem b_X6_suppose_74 {x2 x3 x4 x5 x6 s0 s1 : Int32} {a1 : Nat} {w7 : Value} {h h' : mn_H} {r : Option Value} (ha1 : mn_isT a1) (hy1 : vp_in s1 32) : mn_E 57 74 [.ref 16, .ref a1, .int x2, .int x3, .int x4, .int x5, .int x6, w7] [.int s0, .int s1, .ref 19] h r h' ↔ if x4 = (-1) then mn_E 57 147 [.ref 16, .ref a1, .int x2, .int x3, .int x4, .int x5, .int x6, w7] [] (mn_up h 19 (s1.toNatClampNeg) s0) r h' else mn_E 57 81 [.ref 16, .ref a1, .int x2, .int x3, .int x4, .int x5, .int x6, w7] [] (mn_up h 19 (s1.toNatClampNeg) s0) r h' :=
  (mX_iastore d_X6_suppose_74 rfl (by decide) hy1).trans <| (mX_iload d_X6_suppose_75 rfl).trans <| (mX_iconst d_X6_suppose_77 ci_m1).trans <| mX_icmp_eq d_X6_suppose_78 rfl
theorem b_X6_suppose_81 {x2 x3 x4 x5 x6 : Int32} {a1 : Nat} {w7 : Value} {h h' : mn_H} {r : Option Value} (ha1 : mn_isT a1) : mn_E 57 81 [.ref 16, .ref a1, .int x2, .int x3, .int x4, .int x5, .int x6, w7] [] h r h' ↔ ∃ x h1, mn_X 51 [.ref a1, .int x4, .int x6, .int x2, .int x3] h (some (.int x)) h1 ∧ mn_E 57 91 [.ref 16, .ref a1, .int x2, .int x3, .int x4, .int x5, .int x6, w7] [.int x] h1 r h' :=
  (mX_aload_n d_X6_suppose_81 rfl).trans <| (mX_iload d_X6_suppose_82 rfl).trans <| (mX_iload d_X6_suppose_84 rfl).trans <| (mX_iload_n d_X6_suppose_86 rfl).trans <| (mX_iload_n d_X6_suppose_87 rfl).trans <| mV_i (a := a1) (vs := [.int x4, .int x6, .int x2, .int x3]) (st' := []) d_X6_suppose_88 cv_57_48 (Or.inl rfl) (Nat.le_of_ble_eq_true rfl) rfl rfl (mn_shT0 ha1) rfl
theorem b_X6_suppose_91 {x2 x3 x4 x5 x6 s0 : Int32} {a1 : Nat} {w7 : Value} {h h' : mn_H} {r : Option Value} (ha1 : mn_isT a1) (hy1 : vp_in s0 7) : mn_E 57 91 [.ref 16, .ref a1, .int x2, .int x3, .int x4, .int x5, .int x6, w7] [.int s0] h r h' ↔ ∃ x h1, mn_X 40 [.ref (a1 + 8), .int s0, .int (h 17 s0.toNatClampNeg)] h (some (.int x)) h1 ∧ mn_E 57 114 [.ref 16, .ref a1, .int x2, .int x3, .int x4, .int x5, .int x6, .int s0] [.int x, .int (h 16 3), .ref 16] h1 r h' :=
  (mX_istore (ls' := [.ref 16, .ref a1, .int x2, .int x3, .int x4, .int x5, .int x6, .int s0]) d_X6_suppose_91 rfl rfl).trans <| (mX_aload_n d_X6_suppose_93 rfl).trans <| (mX_aload_n d_X6_suppose_94 rfl).trans <| (mG_i d_X6_suppose_95 fi_57_21 rfl (by decide)).trans <| (mX_aload_n d_X6_suppose_98 rfl).trans <| (mG_r (b := (a1 + 8)) d_X6_suppose_99 fr_57_35 (mn_shT0 ha1) (mn_ltT0 ha1) (mn_rfT9 ha1 _)).trans <| (mX_iload d_X6_suppose_102 rfl).trans <| (mX_aload_n d_X6_suppose_104 rfl).trans <| (mG_r (b := 17) d_X6_suppose_105 fr_57_9 rfl (by decide) rfl).trans <| (mX_iload d_X6_suppose_108 rfl).trans <| (mX_iaload d_X6_suppose_110 rfl (by decide) hy1).trans <| mV_i (a := (a1 + 8)) (vs := [.int s0, .int (h 17 s0.toNatClampNeg)]) (st' := [.int (h 16 3), .ref 16]) d_X6_suppose_111 cv_57_52 (Or.inl rfl) (Nat.le_of_ble_eq_true rfl) rfl rfl (mn_shT8 ha1) rfl
theorem b_X6_suppose_114 {x2 x3 x4 x5 x6 x7 s0 s1 : Int32} {a1 : Nat} {h h' : mn_H} {r : Option Value} (ha1 : mn_isT a1) (hy1 : vp_in x7 7) : mn_E 57 114 [.ref 16, .ref a1, .int x2, .int x3, .int x4, .int x5, .int x6, .int x7] [.int s0, .int s1, .ref 16] h r h' ↔ ∃ x h1, mn_X 40 [.ref (a1 + 12), .int x7, .int ((mn_up h 16 3 (if s0 < s1 then s0 else s1)) 17 x7.toNatClampNeg)] (mn_up h 16 3 (if s0 < s1 then s0 else s1)) (some (.int x)) h1 ∧ mn_E 57 141 [.ref 16, .ref a1, .int x2, .int x3, .int x4, .int x5, .int x6, .int x7] [.int x, .int ((mn_up h 16 3 (if s0 < s1 then s0 else s1)) 16 3), .ref 16] h1 r h' :=
  (mX_min d_X6_suppose_114 mo_57 ma_6_56 (by decide)).trans <| (mP_i d_X6_suppose_117 fi_57_21 rfl (by decide) rfl (Or.inl (by decide))).trans <| (mX_aload_n d_X6_suppose_120 rfl).trans <| (mX_aload_n d_X6_suppose_121 rfl).trans <| (mG_i d_X6_suppose_122 fi_57_21 rfl (by decide)).trans <| (mX_aload_n d_X6_suppose_125 rfl).trans <| (mG_r (b := (a1 + 12)) d_X6_suppose_126 fr_57_45 (mn_shT0 ha1) (mn_ltT0 ha1) (mn_rfT10 ha1 _)).trans <| (mX_iload d_X6_suppose_129 rfl).trans <| (mX_aload_n d_X6_suppose_131 rfl).trans <| (mG_r (b := 17) d_X6_suppose_132 fr_57_9 rfl (by decide) rfl).trans <| (mX_iload d_X6_suppose_135 rfl).trans <| (mX_iaload d_X6_suppose_137 rfl (by decide) hy1).trans <| mV_i (a := (a1 + 12)) (vs := [.int x7, .int ((mn_up h 16 3 (if s0 < s1 then s0 else s1)) 17 x7.toNatClampNeg)]) (st' := [.int ((mn_up h 16 3 (if s0 < s1 then s0 else s1)) 16 3), .ref 16]) d_X6_suppose_138 cv_57_52 (Or.inl rfl) (Nat.le_of_ble_eq_true rfl) rfl rfl (mn_shT12 ha1) rfl
theorem b_X6_suppose_141 {x2 x3 x4 x5 x6 x7 s0 s1 : Int32} {a1 : Nat} {h h' : mn_H} {r : Option Value} (ha1 : mn_isT a1) : mn_E 57 141 [.ref 16, .ref a1, .int x2, .int x3, .int x4, .int x5, .int x6, .int x7] [.int s0, .int s1, .ref 16] h r h' ↔ mn_E 57 147 [.ref 16, .ref a1, .int x2, .int x3, .int x4, .int x5, .int x6, .int x7] [] (mn_up h 16 3 (if s0 < s1 then s0 else s1)) r h' :=
  (mX_min d_X6_suppose_141 mo_57 ma_6_56 (by decide)).trans <| mP_i d_X6_suppose_144 fi_57_21 rfl (by decide) rfl (Or.inl (by decide))
theorem b_X6_suppose_147 {x2 x3 x4 x5 x6 : Int32} {a1 : Nat} {w7 : Value} {h h' : mn_H} {r : Option Value} (ha1 : mn_isT a1) : mn_E 57 147 [.ref 16, .ref a1, .int x2, .int x3, .int x4, .int x5, .int x6, w7] [] h r h' ↔ mn_E 57 10 [.ref 16, .ref a1, .int x2, .int x3, .int x4, .int x5, .int (x6 + 1), w7] [] h r h' :=
  (mX_iinc (ls' := [.ref 16, .ref a1, .int x2, .int x3, .int x4, .int x5, .int (x6 + 1), w7]) d_X6_suppose_147 rfl ci_1 rfl rfl).trans <| mX_goto d_X6_suppose_150 rfl
theorem b_X6_suppose_153 {x2 x3 x4 x5 x6 : Int32} {a1 : Nat} {w7 : Value} {h h' : mn_H} {r : Option Value} (ha1 : mn_isT a1) : mn_E 57 153 [.ref 16, .ref a1, .int x2, .int x3, .int x4, .int x5, .int x6, w7] [] h r h' ↔ r = none ∧ h' = h :=
  mX_vret d_X6_suppose_153 rfl
-- X6_gap
theorem mo_58 : mO 58 = 6 := rfl
theorem d_X6_gap_0 : decode (mC 58) 0 = .ok (.aload_n 0, 1) := by decide +kernel
theorem d_X6_gap_1 : decode (mC 58) 1 = .ok (.getfield 21, 3) := by decide +kernel
theorem d_X6_gap_4 : decode (mC 58) 4 = .ok (.ireturn, 1) := by decide +kernel
theorem fi_58_21 : mn_fi 58 6 21 6 3 = true := by decide +kernel
theorem b_X6_gap_0 {h h' : mn_H} {r : Option Value} : mn_E 58 0 [.ref 16] [] h r h' ↔ r = some (.int (h 16 3)) ∧ h' = h :=
  (mX_aload_n d_X6_gap_0 rfl).trans <| (mG_i d_X6_gap_1 fi_58_21 rfl (by decide)).trans <| mX_iret d_X6_gap_4 rfl
-- X6_countDoing
theorem mo_59 : mO 59 = 6 := rfl
theorem d_X6_countDoing_0 : decode (mC 59) 0 = .ok (.aload_n 0, 1) := by decide +kernel
theorem d_X6_countDoing_1 : decode (mC 59) 1 = .ok (.getfield 9, 3) := by decide +kernel
theorem d_X6_countDoing_4 : decode (mC 59) 4 = .ok (.iconst 0, 1) := by decide +kernel
theorem d_X6_countDoing_5 : decode (mC 59) 5 = .ok (.invokestatic 61, 3) := by decide +kernel
theorem d_X6_countDoing_8 : decode (mC 59) 8 = .ok (.iconst 0, 1) := by decide +kernel
theorem d_X6_countDoing_9 : decode (mC 59) 9 = .ok (.istore 7, 2) := by decide +kernel
theorem d_X6_countDoing_11 : decode (mC 59) 11 = .ok (.iload 7, 2) := by decide +kernel
theorem d_X6_countDoing_13 : decode (mC 59) 13 = .ok (.aload_n 1, 1) := by decide +kernel
theorem d_X6_countDoing_14 : decode (mC 59) 14 = .ok (.getfield 67, 3) := by decide +kernel
theorem d_X6_countDoing_17 : decode (mC 59) 17 = .ok (.if_icmp .ge 48, 3) := by decide +kernel
theorem d_X6_countDoing_20 : decode (mC 59) 20 = .ok (.aload_n 0, 1) := by decide +kernel
theorem d_X6_countDoing_21 : decode (mC 59) 21 = .ok (.getfield 9, 3) := by decide +kernel
theorem d_X6_countDoing_24 : decode (mC 59) 24 = .ok (.aload_n 1, 1) := by decide +kernel
theorem d_X6_countDoing_25 : decode (mC 59) 25 = .ok (.iload 7, 2) := by decide +kernel
theorem d_X6_countDoing_27 : decode (mC 59) 27 = .ok (.iload_n 2, 1) := by decide +kernel
theorem d_X6_countDoing_28 : decode (mC 59) 28 = .ok (.iload_n 3, 1) := by decide +kernel
theorem d_X6_countDoing_29 : decode (mC 59) 29 = .ok (.iload 4, 2) := by decide +kernel
theorem d_X6_countDoing_31 : decode (mC 59) 31 = .ok (.invokevirtual 48, 3) := by decide +kernel
theorem d_X6_countDoing_34 : decode (mC 59) 34 = .ok (.dup2, 1) := by decide +kernel
theorem d_X6_countDoing_35 : decode (mC 59) 35 = .ok (.iaload, 1) := by decide +kernel
theorem d_X6_countDoing_36 : decode (mC 59) 36 = .ok (.aload_n 1, 1) := by decide +kernel
theorem d_X6_countDoing_37 : decode (mC 59) 37 = .ok (.getfield 70, 3) := by decide +kernel
theorem d_X6_countDoing_40 : decode (mC 59) 40 = .ok (.iload 7, 2) := by decide +kernel
theorem d_X6_countDoing_42 : decode (mC 59) 42 = .ok (.iaload, 1) := by decide +kernel
theorem d_X6_countDoing_43 : decode (mC 59) 43 = .ok (.iload 7, 2) := by decide +kernel
theorem d_X6_countDoing_45 : decode (mC 59) 45 = .ok (.iload 5, 2) := by decide +kernel
theorem d_X6_countDoing_47 : decode (mC 59) 47 = .ok (.if_icmp .ne 8, 3) := by decide +kernel
theorem d_X6_countDoing_50 : decode (mC 59) 50 = .ok (.iload 6, 2) := by decide +kernel
theorem d_X6_countDoing_52 : decode (mC 59) 52 = .ok (.goto 4, 3) := by decide +kernel
theorem d_X6_countDoing_55 : decode (mC 59) 55 = .ok (.iconst 0, 1) := by decide +kernel
theorem d_X6_countDoing_56 : decode (mC 59) 56 = .ok (.iadd, 1) := by decide +kernel
theorem d_X6_countDoing_57 : decode (mC 59) 57 = .ok (.iadd, 1) := by decide +kernel
theorem d_X6_countDoing_58 : decode (mC 59) 58 = .ok (.iastore, 1) := by decide +kernel
theorem d_X6_countDoing_59 : decode (mC 59) 59 = .ok (.iinc 7 1, 3) := by decide +kernel
theorem d_X6_countDoing_62 : decode (mC 59) 62 = .ok (.goto (-51), 3) := by decide +kernel
theorem d_X6_countDoing_65 : decode (mC 59) 65 = .ok (.return_, 1) := by decide +kernel
theorem fr_59_9 : mn_fr 59 6 9 6 0 = true := by decide +kernel
theorem cs_59_61 : mn_cs 59 6 61 192 = true := by decide +kernel
theorem fi_59_67 : mn_fi 59 6 67 5 4 = true := by decide +kernel
theorem cv_59_48 : mn_cvt 59 6 48 51 = true := by decide +kernel
theorem fr_59_70 : mn_fr 59 6 70 5 5 = true := by decide +kernel
theorem b_X6_countDoing_0 {x2 x3 x4 x5 x6 : Int32} {a1 : Nat} {h h' : mn_H} {r : Option Value} (ha1 : mn_isT a1) : mn_E 59 0 [.ref 16, .ref a1, .int x2, .int x3, .int x4, .int x5, .int x6, .null] [] h r h' ↔ ∃ h1, mn_X 192 [.ref 17, .int 0] h none h1 ∧ mn_E 59 8 [.ref 16, .ref a1, .int x2, .int x3, .int x4, .int x5, .int x6, .null] [] h1 r h' :=
  (mX_aload_n d_X6_countDoing_0 rfl).trans <| (mG_r (b := 17) d_X6_countDoing_1 fr_59_9 rfl (by decide) rfl).trans <| (mX_iconst d_X6_countDoing_4 ci_0).trans <| mS_v (vs := [.ref 17, .int 0]) (st' := []) d_X6_countDoing_5 cs_59_61 rfl (Nat.le_of_ble_eq_true rfl) rfl rfl rfl
theorem b_X6_countDoing_8 {x2 x3 x4 x5 x6 : Int32} {a1 : Nat} {h h' : mn_H} {r : Option Value} (ha1 : mn_isT a1) : mn_E 59 8 [.ref 16, .ref a1, .int x2, .int x3, .int x4, .int x5, .int x6, .null] [] h r h' ↔ mn_E 59 11 [.ref 16, .ref a1, .int x2, .int x3, .int x4, .int x5, .int x6, .int 0] [] h r h' :=
  (mX_iconst d_X6_countDoing_8 ci_0).trans <| mX_istore (ls' := [.ref 16, .ref a1, .int x2, .int x3, .int x4, .int x5, .int x6, .int 0]) d_X6_countDoing_9 rfl rfl
theorem b_X6_countDoing_11 {x2 x3 x4 x5 x6 x7 : Int32} {a1 : Nat} {h h' : mn_H} {r : Option Value} (ha1 : mn_isT a1) : mn_E 59 11 [.ref 16, .ref a1, .int x2, .int x3, .int x4, .int x5, .int x6, .int x7] [] h r h' ↔ if (h a1 4) ≤ x7 then mn_E 59 65 [.ref 16, .ref a1, .int x2, .int x3, .int x4, .int x5, .int x6, .int x7] [] h r h' else mn_E 59 20 [.ref 16, .ref a1, .int x2, .int x3, .int x4, .int x5, .int x6, .int x7] [] h r h' :=
  (mX_iload d_X6_countDoing_11 rfl).trans <| (mX_aload_n d_X6_countDoing_13 rfl).trans <| (mG_i d_X6_countDoing_14 fi_59_67 (mn_shT0 ha1) (mn_ltT0 ha1)).trans <| mX_icmp_ge d_X6_countDoing_17 rfl
theorem b_X6_countDoing_20 {x2 x3 x4 x5 x6 x7 : Int32} {a1 : Nat} {h h' : mn_H} {r : Option Value} (ha1 : mn_isT a1) : mn_E 59 20 [.ref 16, .ref a1, .int x2, .int x3, .int x4, .int x5, .int x6, .int x7] [] h r h' ↔ ∃ x h1, mn_X 51 [.ref a1, .int x7, .int x2, .int x3, .int x4] h (some (.int x)) h1 ∧ mn_E 59 34 [.ref 16, .ref a1, .int x2, .int x3, .int x4, .int x5, .int x6, .int x7] [.int x, .ref 17] h1 r h' :=
  (mX_aload_n d_X6_countDoing_20 rfl).trans <| (mG_r (b := 17) d_X6_countDoing_21 fr_59_9 rfl (by decide) rfl).trans <| (mX_aload_n d_X6_countDoing_24 rfl).trans <| (mX_iload d_X6_countDoing_25 rfl).trans <| (mX_iload_n d_X6_countDoing_27 rfl).trans <| (mX_iload_n d_X6_countDoing_28 rfl).trans <| (mX_iload d_X6_countDoing_29 rfl).trans <| mV_i (a := a1) (vs := [.int x7, .int x2, .int x3, .int x4]) (st' := [.ref 17]) d_X6_countDoing_31 cv_59_48 (Or.inl rfl) (Nat.le_of_ble_eq_true rfl) rfl rfl (mn_shT0 ha1) rfl
theorem b_X6_countDoing_34 {x2 x3 x4 x5 x6 x7 s0 : Int32} {a1 : Nat} {h h' : mn_H} {r : Option Value} (ha1 : mn_isT a1) (hy1 : vp_in s0 7) (hy2 : vp_in x7 6) : mn_E 59 34 [.ref 16, .ref a1, .int x2, .int x3, .int x4, .int x5, .int x6, .int x7] [.int s0, .ref 17] h r h' ↔ if ¬ x7 = x5 then mn_E 59 55 [.ref 16, .ref a1, .int x2, .int x3, .int x4, .int x5, .int x6, .int x7] [.int (h (a1 + 4) x7.toNatClampNeg), .int (h 17 s0.toNatClampNeg), .int s0, .ref 17] h r h' else mn_E 59 50 [.ref 16, .ref a1, .int x2, .int x3, .int x4, .int x5, .int x6, .int x7] [.int (h (a1 + 4) x7.toNatClampNeg), .int (h 17 s0.toNatClampNeg), .int s0, .ref 17] h r h' :=
  (mX_dup2 d_X6_countDoing_34 ⟨rfl, rfl⟩).trans <| (mX_iaload d_X6_countDoing_35 rfl (by decide) hy1).trans <| (mX_aload_n d_X6_countDoing_36 rfl).trans <| (mG_r (b := (a1 + 4)) d_X6_countDoing_37 fr_59_70 (mn_shT0 ha1) (mn_ltT0 ha1) (mn_rfT5 ha1 _)).trans <| (mX_iload d_X6_countDoing_40 rfl).trans <| (mX_iaload d_X6_countDoing_42 (mn_shT4 ha1) (mn_ltT ha1 (by decide)) hy2).trans <| (mX_iload d_X6_countDoing_43 rfl).trans <| (mX_iload d_X6_countDoing_45 rfl).trans <| mX_icmp_ne d_X6_countDoing_47 rfl
theorem b_X6_countDoing_50 {x2 x3 x4 x5 x6 x7 s0 s1 s2 : Int32} {a1 : Nat} {h h' : mn_H} {r : Option Value} (ha1 : mn_isT a1) : mn_E 59 50 [.ref 16, .ref a1, .int x2, .int x3, .int x4, .int x5, .int x6, .int x7] [.int s0, .int s1, .int s2, .ref 17] h r h' ↔ mn_E 59 56 [.ref 16, .ref a1, .int x2, .int x3, .int x4, .int x5, .int x6, .int x7] [.int x6, .int s0, .int s1, .int s2, .ref 17] h r h' :=
  (mX_iload d_X6_countDoing_50 rfl).trans <| mX_goto d_X6_countDoing_52 rfl
theorem b_X6_countDoing_55 {x2 x3 x4 x5 x6 x7 s0 s1 s2 : Int32} {a1 : Nat} {h h' : mn_H} {r : Option Value} (ha1 : mn_isT a1) : mn_E 59 55 [.ref 16, .ref a1, .int x2, .int x3, .int x4, .int x5, .int x6, .int x7] [.int s0, .int s1, .int s2, .ref 17] h r h' ↔ mn_E 59 56 [.ref 16, .ref a1, .int x2, .int x3, .int x4, .int x5, .int x6, .int x7] [.int 0, .int s0, .int s1, .int s2, .ref 17] h r h' :=
  mX_iconst d_X6_countDoing_55 ci_0
theorem b_X6_countDoing_56 {x2 x3 x4 x5 x6 x7 s0 s1 s2 s3 : Int32} {a1 : Nat} {h h' : mn_H} {r : Option Value} (ha1 : mn_isT a1) (hy1 : vp_in s3 7) : mn_E 59 56 [.ref 16, .ref a1, .int x2, .int x3, .int x4, .int x5, .int x6, .int x7] [.int s0, .int s1, .int s2, .int s3, .ref 17] h r h' ↔ mn_E 59 11 [.ref 16, .ref a1, .int x2, .int x3, .int x4, .int x5, .int x6, .int (x7 + 1)] [] (mn_up h 17 (s3.toNatClampNeg) (s2 + (s1 + s0))) r h' :=
  (mX_iadd d_X6_countDoing_56).trans <| (mX_iadd d_X6_countDoing_57).trans <| (mX_iastore d_X6_countDoing_58 rfl (by decide) hy1).trans <| (mX_iinc (ls' := [.ref 16, .ref a1, .int x2, .int x3, .int x4, .int x5, .int x6, .int (x7 + 1)]) d_X6_countDoing_59 rfl ci_1 rfl rfl).trans <| mX_goto d_X6_countDoing_62 rfl
theorem b_X6_countDoing_65 {x2 x3 x4 x5 x6 x7 : Int32} {a1 : Nat} {h h' : mn_H} {r : Option Value} (ha1 : mn_isT a1) : mn_E 59 65 [.ref 16, .ref a1, .int x2, .int x3, .int x4, .int x5, .int x6, .int x7] [] h r h' ↔ r = none ∧ h' = h :=
  mX_vret d_X6_countDoing_65 rfl
-- X6_comingBy
theorem mo_60 : mO 60 = 6 := rfl
theorem d_X6_comingBy_0 : decode (mC 60) 0 = .ok (.aload_n 0, 1) := by decide +kernel
theorem d_X6_comingBy_1 : decode (mC 60) 1 = .ok (.getfield 15, 3) := by decide +kernel
theorem d_X6_comingBy_4 : decode (mC 60) 4 = .ok (.iload_n 1, 1) := by decide +kernel
theorem d_X6_comingBy_5 : decode (mC 60) 5 = .ok (.iaload, 1) := by decide +kernel
theorem d_X6_comingBy_6 : decode (mC 60) 6 = .ok (.iload_n 2, 1) := by decide +kernel
theorem d_X6_comingBy_7 : decode (mC 60) 7 = .ok (.ior, 1) := by decide +kernel
theorem d_X6_comingBy_8 : decode (mC 60) 8 = .ok (.aload_n 0, 1) := by decide +kernel
theorem d_X6_comingBy_9 : decode (mC 60) 9 = .ok (.getfield 18, 3) := by decide +kernel
theorem d_X6_comingBy_12 : decode (mC 60) 12 = .ok (.iload_n 1, 1) := by decide +kernel
theorem d_X6_comingBy_13 : decode (mC 60) 13 = .ok (.iaload, 1) := by decide +kernel
theorem d_X6_comingBy_14 : decode (mC 60) 14 = .ok (.iconst (-1), 1) := by decide +kernel
theorem d_X6_comingBy_15 : decode (mC 60) 15 = .ok (.ixor, 1) := by decide +kernel
theorem d_X6_comingBy_16 : decode (mC 60) 16 = .ok (.iand, 1) := by decide +kernel
theorem d_X6_comingBy_17 : decode (mC 60) 17 = .ok (.ireturn, 1) := by decide +kernel
theorem fr_60_15 : mn_fr 60 6 15 6 1 = true := by decide +kernel
theorem fr_60_18 : mn_fr 60 6 18 6 2 = true := by decide +kernel
theorem b_X6_comingBy_0 {x1 x2 : Int32} {h h' : mn_H} {r : Option Value} (hy0 : vp_in x1 32) : mn_E 60 0 [.ref 16, .int x1, .int x2] [] h r h' ↔ r = some (.int (((h 18 x1.toNatClampNeg) ||| x2) &&& ((h 19 x1.toNatClampNeg) ^^^ (-1)))) ∧ h' = h :=
  (mX_aload_n d_X6_comingBy_0 rfl).trans <| (mG_r (b := 18) d_X6_comingBy_1 fr_60_15 rfl (by decide) rfl).trans <| (mX_iload_n d_X6_comingBy_4 rfl).trans <| (mX_iaload d_X6_comingBy_5 rfl (by decide) hy0).trans <| (mX_iload_n d_X6_comingBy_6 rfl).trans <| (mX_ior d_X6_comingBy_7).trans <| (mX_aload_n d_X6_comingBy_8 rfl).trans <| (mG_r (b := 19) d_X6_comingBy_9 fr_60_18 rfl (by decide) rfl).trans <| (mX_iload_n d_X6_comingBy_12 rfl).trans <| (mX_iaload d_X6_comingBy_13 rfl (by decide) hy0).trans <| (mX_iconst d_X6_comingBy_14 ci_m1).trans <| (mX_ixor d_X6_comingBy_15).trans <| (mX_iand d_X6_comingBy_16).trans <| mX_iret d_X6_comingBy_17 rfl
-- X6_fitting
theorem mo_61 : mO 61 = 6 := rfl
theorem d_X6_fitting_0 : decode (mC 61) 0 = .ok (.aload_n 1, 1) := by decide +kernel
theorem d_X6_fitting_1 : decode (mC 61) 1 = .ok (.iload_n 3, 1) := by decide +kernel
theorem d_X6_fitting_2 : decode (mC 61) 2 = .ok (.invokevirtual 73, 3) := by decide +kernel
theorem d_X6_fitting_5 : decode (mC 61) 5 = .ok (.istore 6, 2) := by decide +kernel
theorem d_X6_fitting_7 : decode (mC 61) 7 = .ok (.lconst 0, 1) := by decide +kernel
theorem d_X6_fitting_8 : decode (mC 61) 8 = .ok (.lstore 7, 2) := by decide +kernel
theorem d_X6_fitting_10 : decode (mC 61) 10 = .ok (.iconst 0, 1) := by decide +kernel
theorem d_X6_fitting_11 : decode (mC 61) 11 = .ok (.istore 9, 2) := by decide +kernel
theorem d_X6_fitting_13 : decode (mC 61) 13 = .ok (.iload 9, 2) := by decide +kernel
theorem d_X6_fitting_15 : decode (mC 61) 15 = .ok (.aload_n 1, 1) := by decide +kernel
theorem d_X6_fitting_16 : decode (mC 61) 16 = .ok (.invokevirtual 25, 3) := by decide +kernel
theorem d_X6_fitting_19 : decode (mC 61) 19 = .ok (.if_icmp .ge 54, 3) := by decide +kernel
theorem d_X6_fitting_22 : decode (mC 61) 22 = .ok (.iload 9, 2) := by decide +kernel
theorem d_X6_fitting_24 : decode (mC 61) 24 = .ok (.bipush 32, 2) := by decide +kernel
theorem d_X6_fitting_26 : decode (mC 61) 26 = .ok (.if_icmp .ge 47, 3) := by decide +kernel
theorem d_X6_fitting_29 : decode (mC 61) 29 = .ok (.aload_n 0, 1) := by decide +kernel
theorem d_X6_fitting_30 : decode (mC 61) 30 = .ok (.iload 9, 2) := by decide +kernel
theorem d_X6_fitting_32 : decode (mC 61) 32 = .ok (.iload 6, 2) := by decide +kernel
theorem d_X6_fitting_34 : decode (mC 61) 34 = .ok (.invokevirtual 77, 3) := by decide +kernel
theorem d_X6_fitting_37 : decode (mC 61) 37 = .ok (.istore 10, 2) := by decide +kernel
theorem d_X6_fitting_39 : decode (mC 61) 39 = .ok (.aload_n 1, 1) := by decide +kernel
theorem d_X6_fitting_40 : decode (mC 61) 40 = .ok (.iload_n 2, 1) := by decide +kernel
theorem d_X6_fitting_41 : decode (mC 61) 41 = .ok (.iload 10, 2) := by decide +kernel
theorem d_X6_fitting_43 : decode (mC 61) 43 = .ok (.invokevirtual 80, 3) := by decide +kernel
theorem d_X6_fitting_46 : decode (mC 61) 46 = .ok (.iload 4, 2) := by decide +kernel
theorem d_X6_fitting_48 : decode (mC 61) 48 = .ok (.iload 5, 2) := by decide +kernel
theorem d_X6_fitting_50 : decode (mC 61) 50 = .ok (.invokestatic 83, 3) := by decide +kernel
theorem d_X6_fitting_53 : decode (mC 61) 53 = .ok (.iload 9, 2) := by decide +kernel
theorem d_X6_fitting_55 : decode (mC 61) 55 = .ok (.if_icmp .ne 12, 3) := by decide +kernel
theorem d_X6_fitting_58 : decode (mC 61) 58 = .ok (.lload 7, 2) := by decide +kernel
theorem d_X6_fitting_60 : decode (mC 61) 60 = .ok (.lconst 1, 1) := by decide +kernel
theorem d_X6_fitting_61 : decode (mC 61) 61 = .ok (.iload 10, 2) := by decide +kernel
theorem d_X6_fitting_63 : decode (mC 61) 63 = .ok (.lshl, 1) := by decide +kernel
theorem d_X6_fitting_64 : decode (mC 61) 64 = .ok (.lor, 1) := by decide +kernel
theorem d_X6_fitting_65 : decode (mC 61) 65 = .ok (.lstore 7, 2) := by decide +kernel
theorem d_X6_fitting_67 : decode (mC 61) 67 = .ok (.iinc 9 1, 3) := by decide +kernel
theorem d_X6_fitting_70 : decode (mC 61) 70 = .ok (.goto (-57), 3) := by decide +kernel
theorem d_X6_fitting_73 : decode (mC 61) 73 = .ok (.lload 7, 2) := by decide +kernel
theorem d_X6_fitting_75 : decode (mC 61) 75 = .ok (.lreturn, 1) := by decide +kernel
theorem cv_61_73 : mn_cvt 61 6 73 53 = true := by decide +kernel
theorem cv_61_25 : mn_cvt 61 6 25 48 = true := by decide +kernel
theorem cv_61_77 : mn_cvt 61 6 77 60 = true := by decide +kernel
theorem cv_61_80 : mn_cvt 61 6 80 50 = true := by decide +kernel
theorem cs_61_83 : mn_cs 61 6 83 63 = true := by decide +kernel
theorem b_X6_fitting_0 {x2 x3 x4 x5 : Int32} {a1 : Nat} {h h' : mn_H} {r : Option Value} (ha1 : mn_isT a1) : mn_E 61 0 [.ref 16, .ref a1, .int x2, .int x3, .int x4, .int x5, .null, .null, .null, .null, .null] [] h r h' ↔ ∃ x h1, mn_X 53 [.ref a1, .int x3] h (some (.int x)) h1 ∧ mn_E 61 5 [.ref 16, .ref a1, .int x2, .int x3, .int x4, .int x5, .null, .null, .null, .null, .null] [.int x] h1 r h' :=
  (mX_aload_n d_X6_fitting_0 rfl).trans <| (mX_iload_n d_X6_fitting_1 rfl).trans <| mV_i (a := a1) (vs := [.int x3]) (st' := []) d_X6_fitting_2 cv_61_73 (Or.inl rfl) (Nat.le_of_ble_eq_true rfl) rfl rfl (mn_shT0 ha1) rfl
theorem b_X6_fitting_5 {x2 x3 x4 x5 s0 : Int32} {a1 : Nat} {h h' : mn_H} {r : Option Value} (ha1 : mn_isT a1) : mn_E 61 5 [.ref 16, .ref a1, .int x2, .int x3, .int x4, .int x5, .null, .null, .null, .null, .null] [.int s0] h r h' ↔ mn_E 61 13 [.ref 16, .ref a1, .int x2, .int x3, .int x4, .int x5, .int s0, .long 0, .null, .int 0, .null] [] h r h' :=
  (mX_istore (ls' := [.ref 16, .ref a1, .int x2, .int x3, .int x4, .int x5, .int s0, .null, .null, .null, .null]) d_X6_fitting_5 rfl rfl).trans <| (mX_lconst d_X6_fitting_7 cl_0).trans <| (mX_lstore (ls' := [.ref 16, .ref a1, .int x2, .int x3, .int x4, .int x5, .int s0, .long 0, .null, .null, .null]) d_X6_fitting_8 rfl rfl).trans <| (mX_iconst d_X6_fitting_10 ci_0).trans <| mX_istore (ls' := [.ref 16, .ref a1, .int x2, .int x3, .int x4, .int x5, .int s0, .long 0, .null, .int 0, .null]) d_X6_fitting_11 rfl rfl
theorem b_X6_fitting_13 {x2 x3 x4 x5 x6 x9 : Int32} {l7 : Int64} {a1 : Nat} {w10 : Value} {h h' : mn_H} {r : Option Value} (ha1 : mn_isT a1) : mn_E 61 13 [.ref 16, .ref a1, .int x2, .int x3, .int x4, .int x5, .int x6, .long l7, .null, .int x9, w10] [] h r h' ↔ ∃ x h1, mn_X 48 [.ref a1] h (some (.int x)) h1 ∧ mn_E 61 19 [.ref 16, .ref a1, .int x2, .int x3, .int x4, .int x5, .int x6, .long l7, .null, .int x9, w10] [.int x, .int x9] h1 r h' :=
  (mX_iload d_X6_fitting_13 rfl).trans <| (mX_aload_n d_X6_fitting_15 rfl).trans <| mV_i (a := a1) (vs := []) (st' := [.int x9]) d_X6_fitting_16 cv_61_25 (Or.inl rfl) (Nat.le_of_ble_eq_true rfl) rfl rfl (mn_shT0 ha1) rfl
theorem b_X6_fitting_19 {x2 x3 x4 x5 x6 x9 s0 s1 : Int32} {l7 : Int64} {a1 : Nat} {w10 : Value} {h h' : mn_H} {r : Option Value} (ha1 : mn_isT a1) : mn_E 61 19 [.ref 16, .ref a1, .int x2, .int x3, .int x4, .int x5, .int x6, .long l7, .null, .int x9, w10] [.int s0, .int s1] h r h' ↔ if s0 ≤ s1 then mn_E 61 73 [.ref 16, .ref a1, .int x2, .int x3, .int x4, .int x5, .int x6, .long l7, .null, .int x9, w10] [] h r h' else mn_E 61 22 [.ref 16, .ref a1, .int x2, .int x3, .int x4, .int x5, .int x6, .long l7, .null, .int x9, w10] [] h r h' :=
  mX_icmp_ge d_X6_fitting_19 rfl
theorem b_X6_fitting_22 {x2 x3 x4 x5 x6 x9 : Int32} {l7 : Int64} {a1 : Nat} {w10 : Value} {h h' : mn_H} {r : Option Value} (ha1 : mn_isT a1) : mn_E 61 22 [.ref 16, .ref a1, .int x2, .int x3, .int x4, .int x5, .int x6, .long l7, .null, .int x9, w10] [] h r h' ↔ if (32 : Int32) ≤ x9 then mn_E 61 73 [.ref 16, .ref a1, .int x2, .int x3, .int x4, .int x5, .int x6, .long l7, .null, .int x9, w10] [] h r h' else mn_E 61 29 [.ref 16, .ref a1, .int x2, .int x3, .int x4, .int x5, .int x6, .long l7, .null, .int x9, w10] [] h r h' :=
  (mX_iload d_X6_fitting_22 rfl).trans <| (mX_bipush d_X6_fitting_24 cb_32).trans <| mX_icmp_ge d_X6_fitting_26 rfl
theorem b_X6_fitting_29 {x2 x3 x4 x5 x6 x9 : Int32} {l7 : Int64} {a1 : Nat} {w10 : Value} {h h' : mn_H} {r : Option Value} (ha1 : mn_isT a1) : mn_E 61 29 [.ref 16, .ref a1, .int x2, .int x3, .int x4, .int x5, .int x6, .long l7, .null, .int x9, w10] [] h r h' ↔ ∃ x h1, mn_X 60 [.ref 16, .int x9, .int x6] h (some (.int x)) h1 ∧ mn_E 61 37 [.ref 16, .ref a1, .int x2, .int x3, .int x4, .int x5, .int x6, .long l7, .null, .int x9, w10] [.int x] h1 r h' :=
  (mX_aload_n d_X6_fitting_29 rfl).trans <| (mX_iload d_X6_fitting_30 rfl).trans <| (mX_iload d_X6_fitting_32 rfl).trans <| mV_i (a := 16) (vs := [.int x9, .int x6]) (st' := []) d_X6_fitting_34 cv_61_77 (Or.inl rfl) (Nat.le_of_ble_eq_true rfl) rfl rfl rfl rfl
theorem b_X6_fitting_37 {x2 x3 x4 x5 x6 x9 s0 : Int32} {l7 : Int64} {a1 : Nat} {w10 : Value} {h h' : mn_H} {r : Option Value} (ha1 : mn_isT a1) : mn_E 61 37 [.ref 16, .ref a1, .int x2, .int x3, .int x4, .int x5, .int x6, .long l7, .null, .int x9, w10] [.int s0] h r h' ↔ ∃ x h1, mn_X 50 [.ref a1, .int x2, .int s0] h (some (.int x)) h1 ∧ mn_E 61 46 [.ref 16, .ref a1, .int x2, .int x3, .int x4, .int x5, .int x6, .long l7, .null, .int x9, .int s0] [.int x] h1 r h' :=
  (mX_istore (ls' := [.ref 16, .ref a1, .int x2, .int x3, .int x4, .int x5, .int x6, .long l7, .null, .int x9, .int s0]) d_X6_fitting_37 rfl rfl).trans <| (mX_aload_n d_X6_fitting_39 rfl).trans <| (mX_iload_n d_X6_fitting_40 rfl).trans <| (mX_iload d_X6_fitting_41 rfl).trans <| mV_i (a := a1) (vs := [.int x2, .int s0]) (st' := []) d_X6_fitting_43 cv_61_80 (Or.inl rfl) (Nat.le_of_ble_eq_true rfl) rfl rfl (mn_shT0 ha1) rfl
theorem b_X6_fitting_46 {x2 x3 x4 x5 x6 x9 x10 s0 : Int32} {l7 : Int64} {a1 : Nat} {h h' : mn_H} {r : Option Value} (ha1 : mn_isT a1) : mn_E 61 46 [.ref 16, .ref a1, .int x2, .int x3, .int x4, .int x5, .int x6, .long l7, .null, .int x9, .int x10] [.int s0] h r h' ↔ ∃ x h1, mn_X 63 [.int s0, .int x4, .int x5] h (some (.int x)) h1 ∧ mn_E 61 53 [.ref 16, .ref a1, .int x2, .int x3, .int x4, .int x5, .int x6, .long l7, .null, .int x9, .int x10] [.int x] h1 r h' :=
  (mX_iload d_X6_fitting_46 rfl).trans <| (mX_iload d_X6_fitting_48 rfl).trans <| mS_i (vs := [.int s0, .int x4, .int x5]) (st' := []) d_X6_fitting_50 cs_61_83 (Or.inl rfl) (Nat.le_of_ble_eq_true rfl) rfl rfl rfl
theorem b_X6_fitting_53 {x2 x3 x4 x5 x6 x9 x10 s0 : Int32} {l7 : Int64} {a1 : Nat} {h h' : mn_H} {r : Option Value} (ha1 : mn_isT a1) : mn_E 61 53 [.ref 16, .ref a1, .int x2, .int x3, .int x4, .int x5, .int x6, .long l7, .null, .int x9, .int x10] [.int s0] h r h' ↔ if ¬ s0 = x9 then mn_E 61 67 [.ref 16, .ref a1, .int x2, .int x3, .int x4, .int x5, .int x6, .long l7, .null, .int x9, .int x10] [] h r h' else mn_E 61 58 [.ref 16, .ref a1, .int x2, .int x3, .int x4, .int x5, .int x6, .long l7, .null, .int x9, .int x10] [] h r h' :=
  (mX_iload d_X6_fitting_53 rfl).trans <| mX_icmp_ne d_X6_fitting_55 rfl
theorem b_X6_fitting_58 {x2 x3 x4 x5 x6 x9 x10 : Int32} {l7 : Int64} {a1 : Nat} {h h' : mn_H} {r : Option Value} (ha1 : mn_isT a1) : mn_E 61 58 [.ref 16, .ref a1, .int x2, .int x3, .int x4, .int x5, .int x6, .long l7, .null, .int x9, .int x10] [] h r h' ↔ mn_E 61 67 [.ref 16, .ref a1, .int x2, .int x3, .int x4, .int x5, .int x6, .long (l7 ||| ((1 : Int64) <<< (x10.toInt64 &&& 63))), .null, .int x9, .int x10] [] h r h' :=
  (mX_lload d_X6_fitting_58 rfl).trans <| (mX_lconst d_X6_fitting_60 cl_1).trans <| (mX_iload d_X6_fitting_61 rfl).trans <| (mX_lshl d_X6_fitting_63).trans <| (mX_lor d_X6_fitting_64).trans <| mX_lstore (ls' := [.ref 16, .ref a1, .int x2, .int x3, .int x4, .int x5, .int x6, .long (l7 ||| ((1 : Int64) <<< (x10.toInt64 &&& 63))), .null, .int x9, .int x10]) d_X6_fitting_65 rfl rfl
theorem b_X6_fitting_67 {x2 x3 x4 x5 x6 x9 x10 : Int32} {l7 : Int64} {a1 : Nat} {h h' : mn_H} {r : Option Value} (ha1 : mn_isT a1) : mn_E 61 67 [.ref 16, .ref a1, .int x2, .int x3, .int x4, .int x5, .int x6, .long l7, .null, .int x9, .int x10] [] h r h' ↔ mn_E 61 13 [.ref 16, .ref a1, .int x2, .int x3, .int x4, .int x5, .int x6, .long l7, .null, .int (x9 + 1), .int x10] [] h r h' :=
  (mX_iinc (ls' := [.ref 16, .ref a1, .int x2, .int x3, .int x4, .int x5, .int x6, .long l7, .null, .int (x9 + 1), .int x10]) d_X6_fitting_67 rfl ci_1 rfl rfl).trans <| mX_goto d_X6_fitting_70 rfl
theorem b_X6_fitting_73 {x2 x3 x4 x5 x6 x9 : Int32} {l7 : Int64} {a1 : Nat} {w10 : Value} {h h' : mn_H} {r : Option Value} (ha1 : mn_isT a1) : mn_E 61 73 [.ref 16, .ref a1, .int x2, .int x3, .int x4, .int x5, .int x6, .long l7, .null, .int x9, w10] [] h r h' ↔ r = some (.long l7) ∧ h' = h :=
  (mX_lload d_X6_fitting_73 rfl).trans <| mX_lret d_X6_fitting_75 rfl
-- X6_possible
theorem mo_62 : mO 62 = 6 := rfl
theorem d_X6_possible_0 : decode (mC 62) 0 = .ok (.aload_n 0, 1) := by decide +kernel
theorem d_X6_possible_1 : decode (mC 62) 1 = .ok (.aload_n 1, 1) := by decide +kernel
theorem d_X6_possible_2 : decode (mC 62) 2 = .ok (.iload_n 2, 1) := by decide +kernel
theorem d_X6_possible_3 : decode (mC 62) 3 = .ok (.iload_n 3, 1) := by decide +kernel
theorem d_X6_possible_4 : decode (mC 62) 4 = .ok (.iconst (-1), 1) := by decide +kernel
theorem d_X6_possible_5 : decode (mC 62) 5 = .ok (.iconst (-1), 1) := by decide +kernel
theorem d_X6_possible_6 : decode (mC 62) 6 = .ok (.invokevirtual 87, 3) := by decide +kernel
theorem d_X6_possible_9 : decode (mC 62) 9 = .ok (.lstore 4, 2) := by decide +kernel
theorem d_X6_possible_11 : decode (mC 62) 11 = .ok (.lload 4, 2) := by decide +kernel
theorem d_X6_possible_13 : decode (mC 62) 13 = .ok (.lconst 0, 1) := by decide +kernel
theorem d_X6_possible_14 : decode (mC 62) 14 = .ok (.lcmp, 1) := by decide +kernel
theorem d_X6_possible_15 : decode (mC 62) 15 = .ok (.ifCond .eq 8, 3) := by decide +kernel
theorem d_X6_possible_18 : decode (mC 62) 18 = .ok (.lload 4, 2) := by decide +kernel
theorem d_X6_possible_20 : decode (mC 62) 20 = .ok (.goto 15, 3) := by decide +kernel
theorem d_X6_possible_23 : decode (mC 62) 23 = .ok (.lconst 1, 1) := by decide +kernel
theorem d_X6_possible_24 : decode (mC 62) 24 = .ok (.aload_n 0, 1) := by decide +kernel
theorem d_X6_possible_25 : decode (mC 62) 25 = .ok (.iconst 0, 1) := by decide +kernel
theorem d_X6_possible_26 : decode (mC 62) 26 = .ok (.aload_n 1, 1) := by decide +kernel
theorem d_X6_possible_27 : decode (mC 62) 27 = .ok (.iload_n 3, 1) := by decide +kernel
theorem d_X6_possible_28 : decode (mC 62) 28 = .ok (.invokevirtual 73, 3) := by decide +kernel
theorem d_X6_possible_31 : decode (mC 62) 31 = .ok (.invokevirtual 77, 3) := by decide +kernel
theorem d_X6_possible_34 : decode (mC 62) 34 = .ok (.lshl, 1) := by decide +kernel
theorem d_X6_possible_35 : decode (mC 62) 35 = .ok (.lreturn, 1) := by decide +kernel
theorem cv_62_87 : mn_cvt 62 6 87 61 = true := by decide +kernel
theorem cv_62_73 : mn_cvt 62 6 73 53 = true := by decide +kernel
theorem cv_62_77 : mn_cvt 62 6 77 60 = true := by decide +kernel
theorem b_X6_possible_0 {x2 x3 : Int32} {a1 : Nat} {h h' : mn_H} {r : Option Value} (ha1 : mn_isT a1) : mn_E 62 0 [.ref 16, .ref a1, .int x2, .int x3, .null, .null] [] h r h' ↔ ∃ x h1, mn_X 61 [.ref 16, .ref a1, .int x2, .int x3, .int (-1), .int (-1)] h (some (.long x)) h1 ∧ mn_E 62 9 [.ref 16, .ref a1, .int x2, .int x3, .null, .null] [.long x] h1 r h' :=
  (mX_aload_n d_X6_possible_0 rfl).trans <| (mX_aload_n d_X6_possible_1 rfl).trans <| (mX_iload_n d_X6_possible_2 rfl).trans <| (mX_iload_n d_X6_possible_3 rfl).trans <| (mX_iconst d_X6_possible_4 ci_m1).trans <| (mX_iconst d_X6_possible_5 ci_m1).trans <| mV_l (a := 16) (vs := [.ref a1, .int x2, .int x3, .int (-1), .int (-1)]) (st' := []) d_X6_possible_6 cv_62_87 rfl (Nat.le_of_ble_eq_true rfl) rfl rfl rfl rfl
theorem b_X6_possible_9 {x2 x3 : Int32} {m0 : Int64} {a1 : Nat} {h h' : mn_H} {r : Option Value} (ha1 : mn_isT a1) : mn_E 62 9 [.ref 16, .ref a1, .int x2, .int x3, .null, .null] [.long m0] h r h' ↔ if (lg_cmp m0 0) = 0 then mn_E 62 23 [.ref 16, .ref a1, .int x2, .int x3, .long m0, .null] [] h r h' else mn_E 62 18 [.ref 16, .ref a1, .int x2, .int x3, .long m0, .null] [] h r h' :=
  (mX_lstore (ls' := [.ref 16, .ref a1, .int x2, .int x3, .long m0, .null]) d_X6_possible_9 rfl rfl).trans <| (mX_lload d_X6_possible_11 rfl).trans <| (mX_lconst d_X6_possible_13 cl_0).trans <| (mX_lcmp d_X6_possible_14).trans <| mX_if_eq d_X6_possible_15 rfl
theorem b_X6_possible_18 {x2 x3 : Int32} {l4 : Int64} {a1 : Nat} {h h' : mn_H} {r : Option Value} (ha1 : mn_isT a1) : mn_E 62 18 [.ref 16, .ref a1, .int x2, .int x3, .long l4, .null] [] h r h' ↔ mn_E 62 35 [.ref 16, .ref a1, .int x2, .int x3, .long l4, .null] [.long l4] h r h' :=
  (mX_lload d_X6_possible_18 rfl).trans <| mX_goto d_X6_possible_20 rfl
theorem b_X6_possible_23 {x2 x3 : Int32} {l4 : Int64} {a1 : Nat} {h h' : mn_H} {r : Option Value} (ha1 : mn_isT a1) : mn_E 62 23 [.ref 16, .ref a1, .int x2, .int x3, .long l4, .null] [] h r h' ↔ ∃ x h1, mn_X 53 [.ref a1, .int x3] h (some (.int x)) h1 ∧ mn_E 62 31 [.ref 16, .ref a1, .int x2, .int x3, .long l4, .null] [.int x, .int 0, .ref 16, .long 1] h1 r h' :=
  (mX_lconst d_X6_possible_23 cl_1).trans <| (mX_aload_n d_X6_possible_24 rfl).trans <| (mX_iconst d_X6_possible_25 ci_0).trans <| (mX_aload_n d_X6_possible_26 rfl).trans <| (mX_iload_n d_X6_possible_27 rfl).trans <| mV_i (a := a1) (vs := [.int x3]) (st' := [.int 0, .ref 16, .long 1]) d_X6_possible_28 cv_62_73 (Or.inl rfl) (Nat.le_of_ble_eq_true rfl) rfl rfl (mn_shT0 ha1) rfl
theorem b_X6_possible_31 {x2 x3 s0 s1 : Int32} {l4 m3 : Int64} {a1 : Nat} {h h' : mn_H} {r : Option Value} (ha1 : mn_isT a1) : mn_E 62 31 [.ref 16, .ref a1, .int x2, .int x3, .long l4, .null] [.int s0, .int s1, .ref 16, .long m3] h r h' ↔ ∃ x h1, mn_X 60 [.ref 16, .int s1, .int s0] h (some (.int x)) h1 ∧ mn_E 62 34 [.ref 16, .ref a1, .int x2, .int x3, .long l4, .null] [.int x, .long m3] h1 r h' :=
  mV_i (a := 16) (vs := [.int s1, .int s0]) (st' := [.long m3]) d_X6_possible_31 cv_62_77 (Or.inl rfl) (Nat.le_of_ble_eq_true rfl) rfl rfl rfl rfl
theorem b_X6_possible_34 {x2 x3 s0 : Int32} {l4 m1 : Int64} {a1 : Nat} {h h' : mn_H} {r : Option Value} (ha1 : mn_isT a1) : mn_E 62 34 [.ref 16, .ref a1, .int x2, .int x3, .long l4, .null] [.int s0, .long m1] h r h' ↔ mn_E 62 35 [.ref 16, .ref a1, .int x2, .int x3, .long l4, .null] [.long (m1 <<< (s0.toInt64 &&& 63))] h r h' :=
  mX_lshl d_X6_possible_34
theorem b_X6_possible_35 {x2 x3 : Int32} {l4 m0 : Int64} {a1 : Nat} {h h' : mn_H} {r : Option Value} (ha1 : mn_isT a1) : mn_E 62 35 [.ref 16, .ref a1, .int x2, .int x3, .long l4, .null] [.long m0] h r h' ↔ r = some (.long m0) ∧ h' = h :=
  mX_lret d_X6_possible_35 rfl
-- X6_wireUp
theorem mo_63 : mO 63 = 6 := rfl
theorem d_X6_wireUp_0 : decode (mC 63) 0 = .ok (.iload_n 1, 1) := by decide +kernel
theorem d_X6_wireUp_1 : decode (mC 63) 1 = .ok (.iconst (-1), 1) := by decide +kernel
theorem d_X6_wireUp_2 : decode (mC 63) 2 = .ok (.if_icmp .eq 8, 3) := by decide +kernel
theorem d_X6_wireUp_5 : decode (mC 63) 5 = .ok (.iload_n 2, 1) := by decide +kernel
theorem d_X6_wireUp_6 : decode (mC 63) 6 = .ok (.iconst (-1), 1) := by decide +kernel
theorem d_X6_wireUp_7 : decode (mC 63) 7 = .ok (.if_icmp .ne 5, 3) := by decide +kernel
theorem d_X6_wireUp_10 : decode (mC 63) 10 = .ok (.iload_n 0, 1) := by decide +kernel
theorem d_X6_wireUp_11 : decode (mC 63) 11 = .ok (.ireturn, 1) := by decide +kernel
theorem d_X6_wireUp_12 : decode (mC 63) 12 = .ok (.iload_n 0, 1) := by decide +kernel
theorem d_X6_wireUp_13 : decode (mC 63) 13 = .ok (.iconst 1, 1) := by decide +kernel
theorem d_X6_wireUp_14 : decode (mC 63) 14 = .ok (.iload_n 1, 1) := by decide +kernel
theorem d_X6_wireUp_15 : decode (mC 63) 15 = .ok (.ishl, 1) := by decide +kernel
theorem d_X6_wireUp_16 : decode (mC 63) 16 = .ok (.iconst (-1), 1) := by decide +kernel
theorem d_X6_wireUp_17 : decode (mC 63) 17 = .ok (.ixor, 1) := by decide +kernel
theorem d_X6_wireUp_18 : decode (mC 63) 18 = .ok (.iand, 1) := by decide +kernel
theorem d_X6_wireUp_19 : decode (mC 63) 19 = .ok (.iload_n 0, 1) := by decide +kernel
theorem d_X6_wireUp_20 : decode (mC 63) 20 = .ok (.iload_n 2, 1) := by decide +kernel
theorem d_X6_wireUp_21 : decode (mC 63) 21 = .ok (.ishr, 1) := by decide +kernel
theorem d_X6_wireUp_22 : decode (mC 63) 22 = .ok (.iconst 1, 1) := by decide +kernel
theorem d_X6_wireUp_23 : decode (mC 63) 23 = .ok (.iand, 1) := by decide +kernel
theorem d_X6_wireUp_24 : decode (mC 63) 24 = .ok (.iload_n 1, 1) := by decide +kernel
theorem d_X6_wireUp_25 : decode (mC 63) 25 = .ok (.ishl, 1) := by decide +kernel
theorem d_X6_wireUp_26 : decode (mC 63) 26 = .ok (.ior, 1) := by decide +kernel
theorem d_X6_wireUp_27 : decode (mC 63) 27 = .ok (.ireturn, 1) := by decide +kernel
theorem b_X6_wireUp_0 {x0 x1 x2 : Int32} {h h' : mn_H} {r : Option Value} : mn_E 63 0 [.int x0, .int x1, .int x2] [] h r h' ↔ if x1 = (-1) then mn_E 63 10 [.int x0, .int x1, .int x2] [] h r h' else mn_E 63 5 [.int x0, .int x1, .int x2] [] h r h' :=
  (mX_iload_n d_X6_wireUp_0 rfl).trans <| (mX_iconst d_X6_wireUp_1 ci_m1).trans <| mX_icmp_eq d_X6_wireUp_2 rfl
theorem b_X6_wireUp_5 {x0 x1 x2 : Int32} {h h' : mn_H} {r : Option Value} : mn_E 63 5 [.int x0, .int x1, .int x2] [] h r h' ↔ if ¬ x2 = (-1) then mn_E 63 12 [.int x0, .int x1, .int x2] [] h r h' else mn_E 63 10 [.int x0, .int x1, .int x2] [] h r h' :=
  (mX_iload_n d_X6_wireUp_5 rfl).trans <| (mX_iconst d_X6_wireUp_6 ci_m1).trans <| mX_icmp_ne d_X6_wireUp_7 rfl
theorem b_X6_wireUp_10 {x0 x1 x2 : Int32} {h h' : mn_H} {r : Option Value} : mn_E 63 10 [.int x0, .int x1, .int x2] [] h r h' ↔ r = some (.int x0) ∧ h' = h :=
  (mX_iload_n d_X6_wireUp_10 rfl).trans <| mX_iret d_X6_wireUp_11 rfl
theorem b_X6_wireUp_12 {x0 x1 x2 : Int32} {h h' : mn_H} {r : Option Value} : mn_E 63 12 [.int x0, .int x1, .int x2] [] h r h' ↔ r = some (.int ((x0 &&& ((1 <<< (x1 &&& 31)) ^^^ (-1))) ||| (((x0 >>> (x2 &&& 31)) &&& 1) <<< (x1 &&& 31)))) ∧ h' = h :=
  (mX_iload_n d_X6_wireUp_12 rfl).trans <| (mX_iconst d_X6_wireUp_13 ci_1).trans <| (mX_iload_n d_X6_wireUp_14 rfl).trans <| (mX_ishl d_X6_wireUp_15).trans <| (mX_iconst d_X6_wireUp_16 ci_m1).trans <| (mX_ixor d_X6_wireUp_17).trans <| (mX_iand d_X6_wireUp_18).trans <| (mX_iload_n d_X6_wireUp_19 rfl).trans <| (mX_iload_n d_X6_wireUp_20 rfl).trans <| (mX_ishr d_X6_wireUp_21).trans <| (mX_iconst d_X6_wireUp_22 ci_1).trans <| (mX_iand d_X6_wireUp_23).trans <| (mX_iload_n d_X6_wireUp_24 rfl).trans <| (mX_ishl d_X6_wireUp_25).trans <| (mX_ior d_X6_wireUp_26).trans <| mX_iret d_X6_wireUp_27 rfl
