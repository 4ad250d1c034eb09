-- X7_feed
theorem mo_64 : mO 64 = 7 := rfl
theorem d_X7_feed_0 : decode (mC 64) 0 = .ok (.iload_n 1, 1) := by decide +kernel
theorem d_X7_feed_1 : decode (mC 64) 1 = .ok (.ifCond .lt 10, 3) := by decide +kernel
theorem d_X7_feed_4 : decode (mC 64) 4 = .ok (.iload_n 1, 1) := by decide +kernel
theorem d_X7_feed_5 : decode (mC 64) 5 = .ok (.sipush 255, 3) := by decide +kernel
theorem d_X7_feed_8 : decode (mC 64) 8 = .ok (.if_icmp .le 6, 3) := by decide +kernel
theorem d_X7_feed_11 : decode (mC 64) 11 = .ok (.ldc 58, 2) := by decide +kernel
theorem d_X7_feed_13 : decode (mC 64) 13 = .ok (.ireturn, 1) := by decide +kernel
theorem d_X7_feed_14 : decode (mC 64) 14 = .ok (.aload_n 0, 1) := by decide +kernel
theorem d_X7_feed_15 : decode (mC 64) 15 = .ok (.getfield 10, 3) := by decide +kernel
theorem d_X7_feed_18 : decode (mC 64) 18 = .ok (.iload_n 1, 1) := by decide +kernel
theorem d_X7_feed_19 : decode (mC 64) 19 = .ok (.invokevirtual 59, 3) := by decide +kernel
theorem d_X7_feed_22 : decode (mC 64) 22 = .ok (.ifCond .eq 13, 3) := by decide +kernel
theorem d_X7_feed_25 : decode (mC 64) 25 = .ok (.aload_n 0, 1) := by decide +kernel
theorem d_X7_feed_26 : decode (mC 64) 26 = .ok (.getfield 10, 3) := by decide +kernel
theorem d_X7_feed_29 : decode (mC 64) 29 = .ok (.invokevirtual 63, 3) := by decide +kernel
theorem d_X7_feed_32 : decode (mC 64) 32 = .ok (.goto 5, 3) := by decide +kernel
theorem d_X7_feed_35 : decode (mC 64) 35 = .ok (.ldc 67, 2) := by decide +kernel
theorem d_X7_feed_37 : decode (mC 64) 37 = .ok (.ireturn, 1) := by decide +kernel
theorem fr_64_10 : mn_fr 64 7 10 7 0 = true := by decide +kernel
theorem cv_64_59 : mn_cvt 64 7 59 12 = true := by decide +kernel
theorem cv_64_63 : mn_cvt 64 7 63 10 = true := by decide +kernel
theorem b_X7_feed_0 {x1 : Int32} {h h' : mn_H} {r : Option Value} : mn_E 64 0 [.ref 0, .int x1] [] h r h' ↔ if x1 < 0 then mn_E 64 11 [.ref 0, .int x1] [] h r h' else mn_E 64 4 [.ref 0, .int x1] [] h r h' :=
  (mX_iload_n d_X7_feed_0 rfl).trans <| mX_if_lt d_X7_feed_1 rfl
theorem b_X7_feed_4 {x1 : Int32} {h h' : mn_H} {r : Option Value} : mn_E 64 4 [.ref 0, .int x1] [] h r h' ↔ if x1 ≤ 255 then mn_E 64 14 [.ref 0, .int x1] [] h r h' else mn_E 64 11 [.ref 0, .int x1] [] h r h' :=
  (mX_iload_n d_X7_feed_4 rfl).trans <| (mX_sipush d_X7_feed_5 cs_255).trans <| mX_icmp_le d_X7_feed_8 rfl
theorem b_X7_feed_11 {x1 : Int32} {h h' : mn_H} {r : Option Value} : mn_E 64 11 [.ref 0, .int x1] [] h r h' ↔ r = some (.int (-1000000002)) ∧ h' = h :=
  (mX_ldc d_X7_feed_11 mo_64 kc_7_58 (by decide)).trans <| mX_iret d_X7_feed_13 rfl
theorem b_X7_feed_14 {x1 : Int32} {h h' : mn_H} {r : Option Value} : mn_E 64 14 [.ref 0, .int x1] [] h r h' ↔ ∃ x h1, mn_X 12 [.ref 1, .int x1] h (some (.int x)) h1 ∧ mn_E 64 22 [.ref 0, .int x1] [.int x] h1 r h' :=
  (mX_aload_n d_X7_feed_14 rfl).trans <| (mG_r (b := 1) d_X7_feed_15 fr_64_10 rfl (by decide) rfl).trans <| (mX_iload_n d_X7_feed_18 rfl).trans <| mV_i (a := 1) (vs := [.int x1]) (st' := []) d_X7_feed_19 cv_64_59 (Or.inr (Or.inl rfl)) (Nat.le_of_ble_eq_true rfl) rfl rfl rfl rfl
theorem b_X7_feed_22 {x1 s0 : Int32} {h h' : mn_H} {r : Option Value} : mn_E 64 22 [.ref 0, .int x1] [.int s0] h r h' ↔ if s0 = 0 then mn_E 64 35 [.ref 0, .int x1] [] h r h' else mn_E 64 25 [.ref 0, .int x1] [] h r h' :=
  mX_if_eq d_X7_feed_22 rfl
theorem b_X7_feed_25 {x1 : Int32} {h h' : mn_H} {r : Option Value} : mn_E 64 25 [.ref 0, .int x1] [] h r h' ↔ ∃ x h1, mn_X 10 [.ref 1] h (some (.int x)) h1 ∧ mn_E 64 32 [.ref 0, .int x1] [.int x] h1 r h' :=
  (mX_aload_n d_X7_feed_25 rfl).trans <| (mG_r (b := 1) d_X7_feed_26 fr_64_10 rfl (by decide) rfl).trans <| mV_i (a := 1) (vs := []) (st' := []) d_X7_feed_29 cv_64_63 (Or.inl rfl) (Nat.le_of_ble_eq_true rfl) rfl rfl rfl rfl
theorem b_X7_feed_32 {x1 s0 : Int32} {h h' : mn_H} {r : Option Value} : mn_E 64 32 [.ref 0, .int x1] [.int s0] h r h' ↔ mn_E 64 37 [.ref 0, .int x1] [.int s0] h r h' :=
  mX_goto d_X7_feed_32 rfl
theorem b_X7_feed_35 {x1 : Int32} {h h' : mn_H} {r : Option Value} : mn_E 64 35 [.ref 0, .int x1] [] h r h' ↔ mn_E 64 37 [.ref 0, .int x1] [.int (-1000000004)] h r h' :=
  mX_ldc d_X7_feed_35 mo_64 kc_7_67 (by decide)
theorem b_X7_feed_37 {x1 s0 : Int32} {h h' : mn_H} {r : Option Value} : mn_E 64 37 [.ref 0, .int x1] [.int s0] h r h' ↔ r = some (.int s0) ∧ h' = h :=
  mX_iret d_X7_feed_37 rfl
-- X7_town
theorem mo_65 : mO 65 = 7 := rfl
theorem d_X7_town_0 : decode (mC 65) 0 = .ok (.aload_n 0, 1) := by decide +kernel
theorem d_X7_town_1 : decode (mC 65) 1 = .ok (.getfield 10, 3) := by decide +kernel
theorem d_X7_town_4 : decode (mC 65) 4 = .ok (.aload_n 0, 1) := by decide +kernel
theorem d_X7_town_5 : decode (mC 65) 5 = .ok (.getfield 55, 3) := by decide +kernel
theorem d_X7_town_8 : decode (mC 65) 8 = .ok (.invokevirtual 68, 3) := by decide +kernel
theorem d_X7_town_11 : decode (mC 65) 11 = .ok (.istore_n 1, 1) := by decide +kernel
theorem d_X7_town_12 : decode (mC 65) 12 = .ok (.iload_n 1, 1) := by decide +kernel
theorem d_X7_town_13 : decode (mC 65) 13 = .ok (.ifCond .eq 8, 3) := by decide +kernel
theorem d_X7_town_16 : decode (mC 65) 16 = .ok (.bipush (-10), 2) := by decide +kernel
theorem d_X7_town_18 : decode (mC 65) 18 = .ok (.iload_n 1, 1) := by decide +kernel
theorem d_X7_town_19 : decode (mC 65) 19 = .ok (.isub, 1) := by decide +kernel
theorem d_X7_town_20 : decode (mC 65) 20 = .ok (.ireturn, 1) := by decide +kernel
theorem d_X7_town_21 : decode (mC 65) 21 = .ok (.aload_n 0, 1) := by decide +kernel
theorem d_X7_town_22 : decode (mC 65) 22 = .ok (.getfield 51, 3) := by decide +kernel
theorem d_X7_town_25 : decode (mC 65) 25 = .ok (.astore_n 2, 1) := by decide +kernel
theorem d_X7_town_26 : decode (mC 65) 26 = .ok (.aload_n 0, 1) := by decide +kernel
theorem d_X7_town_27 : decode (mC 65) 27 = .ok (.aload_n 0, 1) := by decide +kernel
theorem d_X7_town_28 : decode (mC 65) 28 = .ok (.getfield 55, 3) := by decide +kernel
theorem d_X7_town_31 : decode (mC 65) 31 = .ok (.putfield 51, 3) := by decide +kernel
theorem d_X7_town_34 : decode (mC 65) 34 = .ok (.aload_n 0, 1) := by decide +kernel
theorem d_X7_town_35 : decode (mC 65) 35 = .ok (.aload_n 2, 1) := by decide +kernel
theorem d_X7_town_36 : decode (mC 65) 36 = .ok (.putfield 55, 3) := by decide +kernel
theorem d_X7_town_39 : decode (mC 65) 39 = .ok (.aload_n 0, 1) := by decide +kernel
theorem d_X7_town_40 : decode (mC 65) 40 = .ok (.getfield 19, 3) := by decide +kernel
theorem d_X7_town_43 : decode (mC 65) 43 = .ok (.aload_n 0, 1) := by decide +kernel
theorem d_X7_town_44 : decode (mC 65) 44 = .ok (.getfield 51, 3) := by decide +kernel
theorem d_X7_town_47 : decode (mC 65) 47 = .ok (.invokevirtual 72, 3) := by decide +kernel
theorem d_X7_town_50 : decode (mC 65) 50 = .ok (.invokevirtual 75, 3) := by decide +kernel
theorem d_X7_town_53 : decode (mC 65) 53 = .ok (.aload_n 0, 1) := by decide +kernel
theorem d_X7_town_54 : decode (mC 65) 54 = .ok (.getfield 30, 3) := by decide +kernel
theorem d_X7_town_57 : decode (mC 65) 57 = .ok (.invokevirtual 79, 3) := by decide +kernel
theorem d_X7_town_60 : decode (mC 65) 60 = .ok (.iconst 0, 1) := by decide +kernel
theorem d_X7_town_61 : decode (mC 65) 61 = .ok (.istore_n 3, 1) := by decide +kernel
theorem d_X7_town_62 : decode (mC 65) 62 = .ok (.iload_n 3, 1) := by decide +kernel
theorem d_X7_town_63 : decode (mC 65) 63 = .ok (.iconst 2, 1) := by decide +kernel
theorem d_X7_town_64 : decode (mC 65) 64 = .ok (.if_icmp .ge 19, 3) := by decide +kernel
theorem d_X7_town_67 : decode (mC 65) 67 = .ok (.aload_n 0, 1) := by decide +kernel
theorem d_X7_town_68 : decode (mC 65) 68 = .ok (.getfield 23, 3) := by decide +kernel
theorem d_X7_town_71 : decode (mC 65) 71 = .ok (.iload_n 3, 1) := by decide +kernel
theorem d_X7_town_72 : decode (mC 65) 72 = .ok (.aaload, 1) := by decide +kernel
theorem d_X7_town_73 : decode (mC 65) 73 = .ok (.iconst 0, 1) := by decide +kernel
theorem d_X7_town_74 : decode (mC 65) 74 = .ok (.putfield 82, 3) := by decide +kernel
theorem d_X7_town_77 : decode (mC 65) 77 = .ok (.iinc 3 1, 3) := by decide +kernel
theorem d_X7_town_80 : decode (mC 65) 80 = .ok (.goto (-18), 3) := by decide +kernel
theorem d_X7_town_83 : decode (mC 65) 83 = .ok (.aload_n 0, 1) := by decide +kernel
theorem d_X7_town_84 : decode (mC 65) 84 = .ok (.getfield 51, 3) := by decide +kernel
theorem d_X7_town_87 : decode (mC 65) 87 = .ok (.getfield 86, 3) := by decide +kernel
theorem d_X7_town_90 : decode (mC 65) 90 = .ok (.ireturn, 1) := by decide +kernel
theorem fr_65_10 : mn_fr 65 7 10 7 0 = true := by decide +kernel
theorem fr_65_55 : mn_fr 65 7 55 7 7 = true := by decide +kernel
theorem cv_65_68 : mn_cvt 65 7 68 13 = true := by decide +kernel
theorem fr_65_51 : mn_fr 65 7 51 7 6 = true := by decide +kernel
theorem fr_65_19 : mn_fr 65 7 19 7 1 = true := by decide +kernel
theorem cv_65_72 : mn_cvt 65 7 72 47 = true := by decide +kernel
theorem cv_65_75 : mn_cvt 65 7 75 4 = true := by decide +kernel
theorem fr_65_30 : mn_fr 65 7 30 7 3 = true := by decide +kernel
theorem cv_65_79 : mn_cvt 65 7 79 27 = true := by decide +kernel
theorem fr_65_23 : mn_fr 65 7 23 7 2 = true := by decide +kernel
theorem fi_65_82 : mn_fi 65 7 82 1 7 = true := by decide +kernel
theorem fi_65_86 : mn_fi 65 7 86 5 0 = true := by decide +kernel
theorem b_X7_town_0 {h h' : mn_H} {r : Option Value} (hy0 : mn_isT (mn_sp h)) : mn_E 65 0 [.ref 0, .null, .null, .null] [] h r h' ↔ ∃ x h1, mn_X 13 [.ref 1, .ref (mn_sp h)] h (some (.int x)) h1 ∧ mn_E 65 11 [.ref 0, .null, .null, .null] [.int x] h1 r h' :=
  (mX_aload_n d_X7_town_0 rfl).trans <| (mG_r (b := 1) d_X7_town_1 fr_65_10 rfl (by decide) rfl).trans <| (mX_aload_n d_X7_town_4 rfl).trans <| (mG_r (b := (mn_sp h)) d_X7_town_5 fr_65_55 rfl (by decide) rfl).trans <| mV_i (a := 1) (vs := [.ref (mn_sp h)]) (st' := []) d_X7_town_8 cv_65_68 (Or.inl rfl) (Nat.le_of_ble_eq_true rfl) rfl rfl rfl rfl
theorem b_X7_town_11 {s0 : Int32} {h h' : mn_H} {r : Option Value} : mn_E 65 11 [.ref 0, .null, .null, .null] [.int s0] h r h' ↔ if s0 = 0 then mn_E 65 21 [.ref 0, .int s0, .null, .null] [] h r h' else mn_E 65 16 [.ref 0, .int s0, .null, .null] [] h r h' :=
  (mX_istore_n (ls' := [.ref 0, .int s0, .null, .null]) d_X7_town_11 rfl rfl).trans <| (mX_iload_n d_X7_town_12 rfl).trans <| mX_if_eq d_X7_town_13 rfl
theorem b_X7_town_16 {x1 : Int32} {h h' : mn_H} {r : Option Value} : mn_E 65 16 [.ref 0, .int x1, .null, .null] [] h r h' ↔ r = some (.int ((-10) - x1)) ∧ h' = h :=
  (mX_bipush d_X7_town_16 cb_m10).trans <| (mX_iload_n d_X7_town_18 rfl).trans <| (mX_isub d_X7_town_19).trans <| mX_iret d_X7_town_20 rfl
theorem b_X7_town_21 {x1 : Int32} {h h' : mn_H} {r : Option Value} (hy0 : mn_isT (mn_hr h)) (hy1 : mn_isT (mn_sp h)) (hy2 : mn_isT (mn_hr (mn_up (mn_up h 0 6 (nI (mn_sp h))) 0 7 (nI (mn_hr h))))) : mn_E 65 21 [.ref 0, .int x1, .null, .null] [] h r h' ↔ ∃ x h1, mn_X 47 [.ref (mn_hr (mn_up (mn_up h 0 6 (nI (mn_sp h))) 0 7 (nI (mn_hr h))))] (mn_up (mn_up h 0 6 (nI (mn_sp h))) 0 7 (nI (mn_hr h))) (some (.int x)) h1 ∧ mn_E 65 50 [.ref 0, .int x1, .ref (mn_hr h), .null] [.int x, .ref 3] h1 r h' :=
  (mX_aload_n d_X7_town_21 rfl).trans <| (mG_r (b := (mn_hr h)) d_X7_town_22 fr_65_51 rfl (by decide) rfl).trans <| (mX_astore_n (ls' := [.ref 0, .int x1, .ref (mn_hr h), .null]) d_X7_town_25 rfl rfl).trans <| (mX_aload_n d_X7_town_26 rfl).trans <| (mX_aload_n d_X7_town_27 rfl).trans <| (mG_r (b := (mn_sp h)) d_X7_town_28 fr_65_55 rfl (by decide) rfl).trans <| (mX_putr d_X7_town_31 mo_65 fq_6 (by decide) hy1).trans <| (mX_aload_n d_X7_town_34 rfl).trans <| (mX_aload_n d_X7_town_35 rfl).trans <| (mX_putr d_X7_town_36 mo_65 fq_7 (by decide) hy0).trans <| (mX_aload_n d_X7_town_39 rfl).trans <| (mG_r (b := 3) d_X7_town_40 fr_65_19 rfl (by decide) rfl).trans <| (mX_aload_n d_X7_town_43 rfl).trans <| (mG_r (b := (mn_hr (mn_up (mn_up h 0 6 (nI (mn_sp h))) 0 7 (nI (mn_hr h))))) d_X7_town_44 fr_65_51 rfl (by decide) rfl).trans <| mV_i (a := (mn_hr (mn_up (mn_up h 0 6 (nI (mn_sp h))) 0 7 (nI (mn_hr h))))) (vs := []) (st' := [.ref 3]) d_X7_town_47 cv_65_72 (Or.inl rfl) (Nat.le_of_ble_eq_true rfl) rfl rfl (mn_shT0 hy2) rfl
theorem b_X7_town_50 {x1 s0 : Int32} {bl2 : Nat} {h h' : mn_H} {r : Option Value} (hbl2 : mn_isT bl2) : mn_E 65 50 [.ref 0, .int x1, .ref bl2, .null] [.int s0, .ref 3] h r h' ↔ ∃ h1, mn_X 4 [.ref 3, .int s0] h none h1 ∧ mn_E 65 53 [.ref 0, .int x1, .ref bl2, .null] [] h1 r h' :=
  mV_v (a := 3) (vs := [.int s0]) (st' := []) d_X7_town_50 cv_65_75 rfl (Nat.le_of_ble_eq_true rfl) rfl rfl rfl rfl
theorem b_X7_town_53 {x1 : Int32} {bl2 : Nat} {h h' : mn_H} {r : Option Value} (hbl2 : mn_isT bl2) : mn_E 65 53 [.ref 0, .int x1, .ref bl2, .null] [] h r h' ↔ ∃ h1, mn_X 27 [.ref 10] h none h1 ∧ mn_E 65 60 [.ref 0, .int x1, .ref bl2, .null] [] h1 r h' :=
  (mX_aload_n d_X7_town_53 rfl).trans <| (mG_r (b := 10) d_X7_town_54 fr_65_30 rfl (by decide) rfl).trans <| mV_v (a := 10) (vs := []) (st' := []) d_X7_town_57 cv_65_79 rfl (Nat.le_of_ble_eq_true rfl) rfl rfl rfl rfl
theorem b_X7_town_60 {x1 : Int32} {bl2 : Nat} {h h' : mn_H} {r : Option Value} (hbl2 : mn_isT bl2) : mn_E 65 60 [.ref 0, .int x1, .ref bl2, .null] [] h r h' ↔ mn_E 65 62 [.ref 0, .int x1, .ref bl2, .int 0] [] h r h' :=
  (mX_iconst d_X7_town_60 ci_0).trans <| mX_istore_n (ls' := [.ref 0, .int x1, .ref bl2, .int 0]) d_X7_town_61 rfl rfl
theorem b_X7_town_62 {x1 x3 : Int32} {bl2 : Nat} {h h' : mn_H} {r : Option Value} (hbl2 : mn_isT bl2) : mn_E 65 62 [.ref 0, .int x1, .ref bl2, .int x3] [] h r h' ↔ if (2 : Int32) ≤ x3 then mn_E 65 83 [.ref 0, .int x1, .ref bl2, .int x3] [] h r h' else mn_E 65 67 [.ref 0, .int x1, .ref bl2, .int x3] [] h r h' :=
  (mX_iload_n d_X7_town_62 rfl).trans <| (mX_iconst d_X7_town_63 ci_2).trans <| mX_icmp_ge d_X7_town_64 rfl
theorem b_X7_town_67 {x1 x3 : Int32} {bl2 : Nat} {h h' : mn_H} {r : Option Value} (hbl2 : mn_isT bl2) (hy1 : vp_in x3 2) : mn_E 65 67 [.ref 0, .int x1, .ref bl2, .int x3] [] h r h' ↔ mn_E 65 62 [.ref 0, .int x1, .ref bl2, .int (x3 + 1)] [] (mn_up h (5 + 2 * x3.toNatClampNeg) 7 0) r h' :=
  (mX_aload_n d_X7_town_67 rfl).trans <| (mG_r (b := 9) d_X7_town_68 fr_65_23 rfl (by decide) rfl).trans <| (mX_iload_n d_X7_town_71 rfl).trans <| (mX_aaload d_X7_town_72 hy1).trans <| (mX_iconst d_X7_town_73 ci_0).trans <| (mP_i d_X7_town_74 fi_65_82 (mn_shC0 (mn_im hy1)) (mn_ltC0 (mn_im hy1)) rfl (Or.inr (by decide))).trans <| (mX_iinc (ls' := [.ref 0, .int x1, .ref bl2, .int (x3 + 1)]) d_X7_town_77 rfl ci_1 rfl rfl).trans <| mX_goto d_X7_town_80 rfl
theorem b_X7_town_83 {x1 x3 : Int32} {bl2 : Nat} {h h' : mn_H} {r : Option Value} (hbl2 : mn_isT bl2) (hy1 : mn_isT (mn_hr h)) : mn_E 65 83 [.ref 0, .int x1, .ref bl2, .int x3] [] h r h' ↔ r = some (.int (h (mn_hr h) 0)) ∧ h' = h :=
  (mX_aload_n d_X7_town_83 rfl).trans <| (mG_r (b := (mn_hr h)) d_X7_town_84 fr_65_51 rfl (by decide) rfl).trans <| (mG_i d_X7_town_87 fi_65_86 (mn_shT0 hy1) (mn_ltT0 hy1)).trans <| mX_iret d_X7_town_90 rfl
-- X7_fault
theorem mo_66 : mO 66 = 7 := rfl
theorem d_X7_fault_0 : decode (mC 66) 0 = .ok (.aload_n 0, 1) := by decide +kernel
theorem d_X7_fault_1 : decode (mC 66) 1 = .ok (.getfield 10, 3) := by decide +kernel
theorem d_X7_fault_4 : decode (mC 66) 4 = .ok (.invokevirtual 90, 3) := by decide +kernel
theorem d_X7_fault_7 : decode (mC 66) 7 = .ok (.ireturn, 1) := by decide +kernel
theorem fr_66_10 : mn_fr 66 7 10 7 0 = true := by decide +kernel
theorem cv_66_90 : mn_cvt 66 7 90 11 = true := by decide +kernel
theorem b_X7_fault_0 {h h' : mn_H} {r : Option Value} : mn_E 66 0 [.ref 0] [] h r h' ↔ ∃ x h1, mn_X 11 [.ref 1] h (some (.int x)) h1 ∧ mn_E 66 7 [.ref 0] [.int x] h1 r h' :=
  (mX_aload_n d_X7_fault_0 rfl).trans <| (mG_r (b := 1) d_X7_fault_1 fr_66_10 rfl (by decide) rfl).trans <| mV_i (a := 1) (vs := []) (st' := []) d_X7_fault_4 cv_66_90 (Or.inl rfl) (Nat.le_of_ble_eq_true rfl) rfl rfl rfl rfl
theorem b_X7_fault_7 {s0 : Int32} {h h' : mn_H} {r : Option Value} : mn_E 66 7 [.ref 0] [.int s0] h r h' ↔ r = some (.int s0) ∧ h' = h :=
  mX_iret d_X7_fault_7 rfl
-- X7_told
theorem mo_67 : mO 67 = 7 := rfl
theorem d_X7_told_0 : decode (mC 67) 0 = .ok (.iload_n 1, 1) := by decide +kernel
theorem d_X7_told_1 : decode (mC 67) 1 = .ok (.tableswitch 179 0 12 #[67, 75, 83, 94, 105, 113, 121, 129, 137, 145, 153, 161, 169], 67) := by decide +kernel
theorem d_X7_told_68 : decode (mC 67) 68 = .ok (.aload_n 0, 1) := by decide +kernel
theorem d_X7_told_69 : decode (mC 67) 69 = .ok (.getfield 51, 3) := by decide +kernel
theorem d_X7_told_72 : decode (mC 67) 72 = .ok (.getfield 86, 3) := by decide +kernel
theorem d_X7_told_75 : decode (mC 67) 75 = .ok (.ireturn, 1) := by decide +kernel
theorem d_X7_told_76 : decode (mC 67) 76 = .ok (.aload_n 0, 1) := by decide +kernel
theorem d_X7_told_77 : decode (mC 67) 77 = .ok (.getfield 51, 3) := by decide +kernel
theorem d_X7_told_80 : decode (mC 67) 80 = .ok (.getfield 93, 3) := by decide +kernel
theorem d_X7_told_83 : decode (mC 67) 83 = .ok (.ireturn, 1) := by decide +kernel
theorem d_X7_told_84 : decode (mC 67) 84 = .ok (.aload_n 0, 1) := by decide +kernel
theorem d_X7_told_85 : decode (mC 67) 85 = .ok (.getfield 51, 3) := by decide +kernel
theorem d_X7_told_88 : decode (mC 67) 88 = .ok (.getfield 96, 3) := by decide +kernel
theorem d_X7_told_91 : decode (mC 67) 91 = .ok (.invokevirtual 100, 3) := by decide +kernel
theorem d_X7_told_94 : decode (mC 67) 94 = .ok (.ireturn, 1) := by decide +kernel
theorem d_X7_told_95 : decode (mC 67) 95 = .ok (.aload_n 0, 1) := by decide +kernel
theorem d_X7_told_96 : decode (mC 67) 96 = .ok (.getfield 51, 3) := by decide +kernel
theorem d_X7_told_99 : decode (mC 67) 99 = .ok (.getfield 105, 3) := by decide +kernel
theorem d_X7_told_102 : decode (mC 67) 102 = .ok (.invokevirtual 100, 3) := by decide +kernel
theorem d_X7_told_105 : decode (mC 67) 105 = .ok (.ireturn, 1) := by decide +kernel
theorem d_X7_told_106 : decode (mC 67) 106 = .ok (.aload_n 0, 1) := by decide +kernel
theorem d_X7_told_107 : decode (mC 67) 107 = .ok (.getfield 51, 3) := by decide +kernel
theorem d_X7_told_110 : decode (mC 67) 110 = .ok (.getfield 108, 3) := by decide +kernel
theorem d_X7_told_113 : decode (mC 67) 113 = .ok (.ireturn, 1) := by decide +kernel
theorem d_X7_told_114 : decode (mC 67) 114 = .ok (.aload_n 0, 1) := by decide +kernel
theorem d_X7_told_115 : decode (mC 67) 115 = .ok (.getfield 10, 3) := by decide +kernel
theorem d_X7_told_118 : decode (mC 67) 118 = .ok (.invokevirtual 63, 3) := by decide +kernel
theorem d_X7_told_121 : decode (mC 67) 121 = .ok (.ireturn, 1) := by decide +kernel
theorem d_X7_told_122 : decode (mC 67) 122 = .ok (.aload_n 0, 1) := by decide +kernel
theorem d_X7_told_123 : decode (mC 67) 123 = .ok (.getfield 19, 3) := by decide +kernel
theorem d_X7_told_126 : decode (mC 67) 126 = .ok (.getfield 111, 3) := by decide +kernel
theorem d_X7_told_129 : decode (mC 67) 129 = .ok (.ireturn, 1) := by decide +kernel
theorem d_X7_told_130 : decode (mC 67) 130 = .ok (.aload_n 0, 1) := by decide +kernel
theorem d_X7_told_131 : decode (mC 67) 131 = .ok (.getfield 19, 3) := by decide +kernel
theorem d_X7_told_134 : decode (mC 67) 134 = .ok (.invokevirtual 114, 3) := by decide +kernel
theorem d_X7_told_137 : decode (mC 67) 137 = .ok (.ireturn, 1) := by decide +kernel
theorem d_X7_told_138 : decode (mC 67) 138 = .ok (.aload_n 0, 1) := by decide +kernel
theorem d_X7_told_139 : decode (mC 67) 139 = .ok (.getfield 19, 3) := by decide +kernel
theorem d_X7_told_142 : decode (mC 67) 142 = .ok (.getfield 117, 3) := by decide +kernel
theorem d_X7_told_145 : decode (mC 67) 145 = .ok (.ireturn, 1) := by decide +kernel
theorem d_X7_told_146 : decode (mC 67) 146 = .ok (.aload_n 0, 1) := by decide +kernel
theorem d_X7_told_147 : decode (mC 67) 147 = .ok (.getfield 19, 3) := by decide +kernel
theorem d_X7_told_150 : decode (mC 67) 150 = .ok (.getfield 120, 3) := by decide +kernel
theorem d_X7_told_153 : decode (mC 67) 153 = .ok (.ireturn, 1) := by decide +kernel
theorem d_X7_told_154 : decode (mC 67) 154 = .ok (.aload_n 0, 1) := by decide +kernel
theorem d_X7_told_155 : decode (mC 67) 155 = .ok (.getfield 19, 3) := by decide +kernel
theorem d_X7_told_158 : decode (mC 67) 158 = .ok (.getfield 123, 3) := by decide +kernel
theorem d_X7_told_161 : decode (mC 67) 161 = .ok (.ireturn, 1) := by decide +kernel
theorem d_X7_told_162 : decode (mC 67) 162 = .ok (.aload_n 0, 1) := by decide +kernel
theorem d_X7_told_163 : decode (mC 67) 163 = .ok (.getfield 30, 3) := by decide +kernel
theorem d_X7_told_166 : decode (mC 67) 166 = .ok (.invokevirtual 126, 3) := by decide +kernel
theorem d_X7_told_169 : decode (mC 67) 169 = .ok (.ireturn, 1) := by decide +kernel
theorem d_X7_told_170 : decode (mC 67) 170 = .ok (.aload_n 0, 1) := by decide +kernel
theorem d_X7_told_171 : decode (mC 67) 171 = .ok (.iconst (-1), 1) := by decide +kernel
theorem d_X7_told_172 : decode (mC 67) 172 = .ok (.iconst (-1), 1) := by decide +kernel
theorem d_X7_told_173 : decode (mC 67) 173 = .ok (.invokevirtual 129, 3) := by decide +kernel
theorem d_X7_told_176 : decode (mC 67) 176 = .ok (.invokestatic 133, 3) := by decide +kernel
theorem d_X7_told_179 : decode (mC 67) 179 = .ok (.ireturn, 1) := by decide +kernel
theorem d_X7_told_180 : decode (mC 67) 180 = .ok (.ldc 58, 2) := by decide +kernel
theorem d_X7_told_182 : decode (mC 67) 182 = .ok (.ireturn, 1) := by decide +kernel
theorem cv_67_129 : mn_cvt 67 7 129 105 = true := by decide +kernel
theorem cs_67_133 : mn_cs 67 7 133 191 = true := by decide +kernel
theorem fr_67_30 : mn_fr 67 7 30 7 3 = true := by decide +kernel
theorem cv_67_126 : mn_cvt 67 7 126 26 = true := by decide +kernel
theorem fr_67_19 : mn_fr 67 7 19 7 1 = true := by decide +kernel
theorem fi_67_123 : mn_fi 67 7 123 1 5 = true := by decide +kernel
theorem fi_67_120 : mn_fi 67 7 120 1 4 = true := by decide +kernel
theorem fi_67_117 : mn_fi 67 7 117 1 3 = true := by decide +kernel
theorem cv_67_114 : mn_cvt 67 7 114 6 = true := by decide +kernel
theorem fi_67_111 : mn_fi 67 7 111 1 2 = true := by decide +kernel
theorem fr_67_10 : mn_fr 67 7 10 7 0 = true := by decide +kernel
theorem cv_67_63 : mn_cvt 67 7 63 10 = true := by decide +kernel
theorem fr_67_51 : mn_fr 67 7 51 7 6 = true := by decide +kernel
theorem fi_67_108 : mn_fi 67 7 108 5 11 = true := by decide +kernel
theorem fr_67_105 : mn_fr 67 7 105 5 10 = true := by decide +kernel
theorem cv_67_100 : mn_cvt 67 7 100 35 = true := by decide +kernel
theorem fr_67_96 : mn_fr 67 7 96 5 9 = true := by decide +kernel
theorem fi_67_93 : mn_fi 67 7 93 5 4 = true := by decide +kernel
theorem fi_67_86 : mn_fi 67 7 86 5 0 = true := by decide +kernel
theorem b_X7_told_0 {x1 : Int32} {h h' : mn_H} {r : Option Value} : mn_E 67 0 [.ref 0, .int x1] [] h r h' ↔ mn_E 67 1 [.ref 0, .int x1] [.int x1] h r h' :=
  mX_iload_n d_X7_told_0 rfl
theorem b_X7_told_1_d {x1 s0 : Int32} {h h' : mn_H} {r : Option Value} (hx : s0.toInt < 0 ∨ 12 < s0.toInt) : mn_E 67 1 [.ref 0, .int x1] [.int s0] h r h' ↔ mn_E 67 180 [.ref 0, .int x1] [] h r h' :=
  mX_tsw d_X7_told_1 rfl (by unfold mn_tsw; rw [if_pos hx]; rfl)
theorem b_X7_told_1_0 {x1 : Int32} {h h' : mn_H} {r : Option Value} : mn_E 67 1 [.ref 0, .int x1] [.int 0] h r h' ↔ mn_E 67 68 [.ref 0, .int x1] [] h r h' :=
  mX_tsw d_X7_told_1 rfl (by decide)
theorem b_X7_told_1_1 {x1 : Int32} {h h' : mn_H} {r : Option Value} : mn_E 67 1 [.ref 0, .int x1] [.int 1] h r h' ↔ mn_E 67 76 [.ref 0, .int x1] [] h r h' :=
  mX_tsw d_X7_told_1 rfl (by decide)
theorem b_X7_told_1_2 {x1 : Int32} {h h' : mn_H} {r : Option Value} : mn_E 67 1 [.ref 0, .int x1] [.int 2] h r h' ↔ mn_E 67 84 [.ref 0, .int x1] [] h r h' :=
  mX_tsw d_X7_told_1 rfl (by decide)
theorem b_X7_told_1_3 {x1 : Int32} {h h' : mn_H} {r : Option Value} : mn_E 67 1 [.ref 0, .int x1] [.int 3] h r h' ↔ mn_E 67 95 [.ref 0, .int x1] [] h r h' :=
  mX_tsw d_X7_told_1 rfl (by decide)
theorem b_X7_told_1_4 {x1 : Int32} {h h' : mn_H} {r : Option Value} : mn_E 67 1 [.ref 0, .int x1] [.int 4] h r h' ↔ mn_E 67 106 [.ref 0, .int x1] [] h r h' :=
  mX_tsw d_X7_told_1 rfl (by decide)
theorem b_X7_told_1_5 {x1 : Int32} {h h' : mn_H} {r : Option Value} : mn_E 67 1 [.ref 0, .int x1] [.int 5] h r h' ↔ mn_E 67 114 [.ref 0, .int x1] [] h r h' :=
  mX_tsw d_X7_told_1 rfl (by decide)
theorem b_X7_told_1_6 {x1 : Int32} {h h' : mn_H} {r : Option Value} : mn_E 67 1 [.ref 0, .int x1] [.int 6] h r h' ↔ mn_E 67 122 [.ref 0, .int x1] [] h r h' :=
  mX_tsw d_X7_told_1 rfl (by decide)
theorem b_X7_told_1_7 {x1 : Int32} {h h' : mn_H} {r : Option Value} : mn_E 67 1 [.ref 0, .int x1] [.int 7] h r h' ↔ mn_E 67 130 [.ref 0, .int x1] [] h r h' :=
  mX_tsw d_X7_told_1 rfl (by decide)
theorem b_X7_told_1_8 {x1 : Int32} {h h' : mn_H} {r : Option Value} : mn_E 67 1 [.ref 0, .int x1] [.int 8] h r h' ↔ mn_E 67 138 [.ref 0, .int x1] [] h r h' :=
  mX_tsw d_X7_told_1 rfl (by decide)
theorem b_X7_told_1_9 {x1 : Int32} {h h' : mn_H} {r : Option Value} : mn_E 67 1 [.ref 0, .int x1] [.int 9] h r h' ↔ mn_E 67 146 [.ref 0, .int x1] [] h r h' :=
  mX_tsw d_X7_told_1 rfl (by decide)
theorem b_X7_told_1_10 {x1 : Int32} {h h' : mn_H} {r : Option Value} : mn_E 67 1 [.ref 0, .int x1] [.int 10] h r h' ↔ mn_E 67 154 [.ref 0, .int x1] [] h r h' :=
  mX_tsw d_X7_told_1 rfl (by decide)
theorem b_X7_told_1_11 {x1 : Int32} {h h' : mn_H} {r : Option Value} : mn_E 67 1 [.ref 0, .int x1] [.int 11] h r h' ↔ mn_E 67 162 [.ref 0, .int x1] [] h r h' :=
  mX_tsw d_X7_told_1 rfl (by decide)
theorem b_X7_told_1_12 {x1 : Int32} {h h' : mn_H} {r : Option Value} : mn_E 67 1 [.ref 0, .int x1] [.int 12] h r h' ↔ mn_E 67 170 [.ref 0, .int x1] [] h r h' :=
  mX_tsw d_X7_told_1 rfl (by decide)
theorem b_X7_told_68 {x1 : Int32} {h h' : mn_H} {r : Option Value} (hy0 : mn_isT (mn_hr h)) : mn_E 67 68 [.ref 0, .int x1] [] h r h' ↔ r = some (.int (h (mn_hr h) 0)) ∧ h' = h :=
  (mX_aload_n d_X7_told_68 rfl).trans <| (mG_r (b := (mn_hr h)) d_X7_told_69 fr_67_51 rfl (by decide) rfl).trans <| (mG_i d_X7_told_72 fi_67_86 (mn_shT0 hy0) (mn_ltT0 hy0)).trans <| mX_iret d_X7_told_75 rfl
theorem b_X7_told_76 {x1 : Int32} {h h' : mn_H} {r : Option Value} (hy0 : mn_isT (mn_hr h)) : mn_E 67 76 [.ref 0, .int x1] [] h r h' ↔ r = some (.int (h (mn_hr h) 4)) ∧ h' = h :=
  (mX_aload_n d_X7_told_76 rfl).trans <| (mG_r (b := (mn_hr h)) d_X7_told_77 fr_67_51 rfl (by decide) rfl).trans <| (mG_i d_X7_told_80 fi_67_93 (mn_shT0 hy0) (mn_ltT0 hy0)).trans <| mX_iret d_X7_told_83 rfl
theorem b_X7_told_84 {x1 : Int32} {h h' : mn_H} {r : Option Value} (hy0 : mn_isT (mn_hr h)) : mn_E 67 84 [.ref 0, .int x1] [] h r h' ↔ ∃ x h1, mn_X 35 [.ref ((mn_hr h) + 8)] h (some (.int x)) h1 ∧ mn_E 67 94 [.ref 0, .int x1] [.int x] h1 r h' :=
  (mX_aload_n d_X7_told_84 rfl).trans <| (mG_r (b := (mn_hr h)) d_X7_told_85 fr_67_51 rfl (by decide) rfl).trans <| (mG_r (b := ((mn_hr h) + 8)) d_X7_told_88 fr_67_96 (mn_shT0 hy0) (mn_ltT0 hy0) (mn_rfT9 hy0 _)).trans <| mV_i (a := ((mn_hr h) + 8)) (vs := []) (st' := []) d_X7_told_91 cv_67_100 (Or.inl rfl) (Nat.le_of_ble_eq_true rfl) rfl rfl (mn_shT8 hy0) rfl
theorem b_X7_told_94 {x1 s0 : Int32} {h h' : mn_H} {r : Option Value} : mn_E 67 94 [.ref 0, .int x1] [.int s0] h r h' ↔ r = some (.int s0) ∧ h' = h :=
  mX_iret d_X7_told_94 rfl
theorem b_X7_told_95 {x1 : Int32} {h h' : mn_H} {r : Option Value} (hy0 : mn_isT (mn_hr h)) : mn_E 67 95 [.ref 0, .int x1] [] h r h' ↔ ∃ x h1, mn_X 35 [.ref ((mn_hr h) + 12)] h (some (.int x)) h1 ∧ mn_E 67 105 [.ref 0, .int x1] [.int x] h1 r h' :=
  (mX_aload_n d_X7_told_95 rfl).trans <| (mG_r (b := (mn_hr h)) d_X7_told_96 fr_67_51 rfl (by decide) rfl).trans <| (mG_r (b := ((mn_hr h) + 12)) d_X7_told_99 fr_67_105 (mn_shT0 hy0) (mn_ltT0 hy0) (mn_rfT10 hy0 _)).trans <| mV_i (a := ((mn_hr h) + 12)) (vs := []) (st' := []) d_X7_told_102 cv_67_100 (Or.inl rfl) (Nat.le_of_ble_eq_true rfl) rfl rfl (mn_shT12 hy0) rfl
theorem b_X7_told_105 {x1 s0 : Int32} {h h' : mn_H} {r : Option Value} : mn_E 67 105 [.ref 0, .int x1] [.int s0] h r h' ↔ r = some (.int s0) ∧ h' = h :=
  mX_iret d_X7_told_105 rfl
theorem b_X7_told_106 {x1 : Int32} {h h' : mn_H} {r : Option Value} (hy0 : mn_isT (mn_hr h)) : mn_E 67 106 [.ref 0, .int x1] [] h r h' ↔ r = some (.int (h (mn_hr h) 11)) ∧ h' = h :=
  (mX_aload_n d_X7_told_106 rfl).trans <| (mG_r (b := (mn_hr h)) d_X7_told_107 fr_67_51 rfl (by decide) rfl).trans <| (mG_i d_X7_told_110 fi_67_108 (mn_shT0 hy0) (mn_ltT0 hy0)).trans <| mX_iret d_X7_told_113 rfl
theorem b_X7_told_114 {x1 : Int32} {h h' : mn_H} {r : Option Value} : mn_E 67 114 [.ref 0, .int x1] [] h r h' ↔ ∃ x h1, mn_X 10 [.ref 1] h (some (.int x)) h1 ∧ mn_E 67 121 [.ref 0, .int x1] [.int x] h1 r h' :=
  (mX_aload_n d_X7_told_114 rfl).trans <| (mG_r (b := 1) d_X7_told_115 fr_67_10 rfl (by decide) rfl).trans <| mV_i (a := 1) (vs := []) (st' := []) d_X7_told_118 cv_67_63 (Or.inl rfl) (Nat.le_of_ble_eq_true rfl) rfl rfl rfl rfl
theorem b_X7_told_121 {x1 s0 : Int32} {h h' : mn_H} {r : Option Value} : mn_E 67 121 [.ref 0, .int x1] [.int s0] h r h' ↔ r = some (.int s0) ∧ h' = h :=
  mX_iret d_X7_told_121 rfl
theorem b_X7_told_122 {x1 : Int32} {h h' : mn_H} {r : Option Value} : mn_E 67 122 [.ref 0, .int x1] [] h r h' ↔ r = some (.int (h 3 2)) ∧ h' = h :=
  (mX_aload_n d_X7_told_122 rfl).trans <| (mG_r (b := 3) d_X7_told_123 fr_67_19 rfl (by decide) rfl).trans <| (mG_i d_X7_told_126 fi_67_111 rfl (by decide)).trans <| mX_iret d_X7_told_129 rfl
theorem b_X7_told_130 {x1 : Int32} {h h' : mn_H} {r : Option Value} : mn_E 67 130 [.ref 0, .int x1] [] h r h' ↔ ∃ x h1, mn_X 6 [.ref 3] h (some (.int x)) h1 ∧ mn_E 67 137 [.ref 0, .int x1] [.int x] h1 r h' :=
  (mX_aload_n d_X7_told_130 rfl).trans <| (mG_r (b := 3) d_X7_told_131 fr_67_19 rfl (by decide) rfl).trans <| mV_i (a := 3) (vs := []) (st' := []) d_X7_told_134 cv_67_114 (Or.inl rfl) (Nat.le_of_ble_eq_true rfl) rfl rfl rfl rfl
theorem b_X7_told_137 {x1 s0 : Int32} {h h' : mn_H} {r : Option Value} : mn_E 67 137 [.ref 0, .int x1] [.int s0] h r h' ↔ r = some (.int s0) ∧ h' = h :=
  mX_iret d_X7_told_137 rfl
theorem b_X7_told_138 {x1 : Int32} {h h' : mn_H} {r : Option Value} : mn_E 67 138 [.ref 0, .int x1] [] h r h' ↔ r = some (.int (h 3 3)) ∧ h' = h :=
  (mX_aload_n d_X7_told_138 rfl).trans <| (mG_r (b := 3) d_X7_told_139 fr_67_19 rfl (by decide) rfl).trans <| (mG_i d_X7_told_142 fi_67_117 rfl (by decide)).trans <| mX_iret d_X7_told_145 rfl
theorem b_X7_told_146 {x1 : Int32} {h h' : mn_H} {r : Option Value} : mn_E 67 146 [.ref 0, .int x1] [] h r h' ↔ r = some (.int (h 3 4)) ∧ h' = h :=
  (mX_aload_n d_X7_told_146 rfl).trans <| (mG_r (b := 3) d_X7_told_147 fr_67_19 rfl (by decide) rfl).trans <| (mG_i d_X7_told_150 fi_67_120 rfl (by decide)).trans <| mX_iret d_X7_told_153 rfl
theorem b_X7_told_154 {x1 : Int32} {h h' : mn_H} {r : Option Value} : mn_E 67 154 [.ref 0, .int x1] [] h r h' ↔ r = some (.int (h 3 5)) ∧ h' = h :=
  (mX_aload_n d_X7_told_154 rfl).trans <| (mG_r (b := 3) d_X7_told_155 fr_67_19 rfl (by decide) rfl).trans <| (mG_i d_X7_told_158 fi_67_123 rfl (by decide)).trans <| mX_iret d_X7_told_161 rfl
theorem b_X7_told_162 {x1 : Int32} {h h' : mn_H} {r : Option Value} : mn_E 67 162 [.ref 0, .int x1] [] h r h' ↔ ∃ x h1, mn_X 26 [.ref 10] h (some (.int x)) h1 ∧ mn_E 67 169 [.ref 0, .int x1] [.int x] h1 r h' :=
  (mX_aload_n d_X7_told_162 rfl).trans <| (mG_r (b := 10) d_X7_told_163 fr_67_30 rfl (by decide) rfl).trans <| mV_i (a := 10) (vs := []) (st' := []) d_X7_told_166 cv_67_126 (Or.inl rfl) (Nat.le_of_ble_eq_true rfl) rfl rfl rfl rfl
theorem b_X7_told_169 {x1 s0 : Int32} {h h' : mn_H} {r : Option Value} : mn_E 67 169 [.ref 0, .int x1] [.int s0] h r h' ↔ r = some (.int s0) ∧ h' = h :=
  mX_iret d_X7_told_169 rfl
theorem b_X7_told_170 {x1 : Int32} {h h' : mn_H} {r : Option Value} : mn_E 67 170 [.ref 0, .int x1] [] h r h' ↔ ∃ x h1, mn_X 105 [.ref 0, .int (-1), .int (-1)] h (some (.long x)) h1 ∧ mn_E 67 176 [.ref 0, .int x1] [.long x] h1 r h' :=
  (mX_aload_n d_X7_told_170 rfl).trans <| (mX_iconst d_X7_told_171 ci_m1).trans <| (mX_iconst d_X7_told_172 ci_m1).trans <| mV_l (a := 0) (vs := [.int (-1), .int (-1)]) (st' := []) d_X7_told_173 cv_67_129 rfl (Nat.le_of_ble_eq_true rfl) rfl rfl rfl rfl
theorem b_X7_told_176 {x1 : Int32} {m0 : Int64} {h h' : mn_H} {r : Option Value} : mn_E 67 176 [.ref 0, .int x1] [.long m0] h r h' ↔ ∃ x h1, mn_X 191 [.long m0] h (some (.int x)) h1 ∧ mn_E 67 179 [.ref 0, .int x1] [.int x] h1 r h' :=
  mS_i (vs := [.long m0]) (st' := []) d_X7_told_176 cs_67_133 (Or.inl rfl) (Nat.le_of_ble_eq_true rfl) rfl rfl rfl
theorem b_X7_told_179 {x1 s0 : Int32} {h h' : mn_H} {r : Option Value} : mn_E 67 179 [.ref 0, .int x1] [.int s0] h r h' ↔ r = some (.int s0) ∧ h' = h :=
  mX_iret d_X7_told_179 rfl
theorem b_X7_told_180 {x1 : Int32} {h h' : mn_H} {r : Option Value} : mn_E 67 180 [.ref 0, .int x1] [] h r h' ↔ r = some (.int (-1000000002)) ∧ h' = h :=
  (mX_ldc d_X7_told_180 mo_67 kc_7_58 (by decide)).trans <| mX_iret d_X7_told_182 rfl
-- X7_bell
theorem mo_68 : mO 68 = 7 := rfl
theorem d_X7_bell_0 : decode (mC 68) 0 = .ok (.aload_n 0, 1) := by decide +kernel
theorem d_X7_bell_1 : decode (mC 68) 1 = .ok (.iload_n 1, 1) := by decide +kernel
theorem d_X7_bell_2 : decode (mC 68) 2 = .ok (.invokevirtual 139, 3) := by decide +kernel
theorem d_X7_bell_5 : decode (mC 68) 5 = .ok (.ifCond .ne 6, 3) := by decide +kernel
theorem d_X7_bell_8 : decode (mC 68) 8 = .ok (.ldc 142, 2) := by decide +kernel
theorem d_X7_bell_10 : decode (mC 68) 10 = .ok (.ireturn, 1) := by decide +kernel
theorem d_X7_bell_11 : decode (mC 68) 11 = .ok (.iload_n 2, 1) := by decide +kernel
theorem d_X7_bell_12 : decode (mC 68) 12 = .ok (.tableswitch 84 0 4 #[36, 46, 56, 66, 75], 36) := by decide +kernel
theorem d_X7_bell_48 : decode (mC 68) 48 = .ok (.aload_n 0, 1) := by decide +kernel
theorem d_X7_bell_49 : decode (mC 68) 49 = .ok (.getfield 51, 3) := by decide +kernel
theorem d_X7_bell_52 : decode (mC 68) 52 = .ok (.getfield 143, 3) := by decide +kernel
theorem d_X7_bell_55 : decode (mC 68) 55 = .ok (.iload_n 1, 1) := by decide +kernel
theorem d_X7_bell_56 : decode (mC 68) 56 = .ok (.iaload, 1) := by decide +kernel
theorem d_X7_bell_57 : decode (mC 68) 57 = .ok (.ireturn, 1) := by decide +kernel
theorem d_X7_bell_58 : decode (mC 68) 58 = .ok (.aload_n 0, 1) := by decide +kernel
theorem d_X7_bell_59 : decode (mC 68) 59 = .ok (.getfield 51, 3) := by decide +kernel
theorem d_X7_bell_62 : decode (mC 68) 62 = .ok (.getfield 147, 3) := by decide +kernel
theorem d_X7_bell_65 : decode (mC 68) 65 = .ok (.iload_n 1, 1) := by decide +kernel
theorem d_X7_bell_66 : decode (mC 68) 66 = .ok (.iaload, 1) := by decide +kernel
theorem d_X7_bell_67 : decode (mC 68) 67 = .ok (.ireturn, 1) := by decide +kernel
theorem d_X7_bell_68 : decode (mC 68) 68 = .ok (.aload_n 0, 1) := by decide +kernel
theorem d_X7_bell_69 : decode (mC 68) 69 = .ok (.getfield 51, 3) := by decide +kernel
theorem d_X7_bell_72 : decode (mC 68) 72 = .ok (.getfield 150, 3) := by decide +kernel
theorem d_X7_bell_75 : decode (mC 68) 75 = .ok (.iload_n 1, 1) := by decide +kernel
theorem d_X7_bell_76 : decode (mC 68) 76 = .ok (.iaload, 1) := by decide +kernel
theorem d_X7_bell_77 : decode (mC 68) 77 = .ok (.ireturn, 1) := by decide +kernel
theorem d_X7_bell_78 : decode (mC 68) 78 = .ok (.aload_n 0, 1) := by decide +kernel
theorem d_X7_bell_79 : decode (mC 68) 79 = .ok (.getfield 51, 3) := by decide +kernel
theorem d_X7_bell_82 : decode (mC 68) 82 = .ok (.iload_n 1, 1) := by decide +kernel
theorem d_X7_bell_83 : decode (mC 68) 83 = .ok (.invokevirtual 153, 3) := by decide +kernel
theorem d_X7_bell_86 : decode (mC 68) 86 = .ok (.ireturn, 1) := by decide +kernel
theorem d_X7_bell_87 : decode (mC 68) 87 = .ok (.aload_n 0, 1) := by decide +kernel
theorem d_X7_bell_88 : decode (mC 68) 88 = .ok (.getfield 30, 3) := by decide +kernel
theorem d_X7_bell_91 : decode (mC 68) 91 = .ok (.iload_n 1, 1) := by decide +kernel
theorem d_X7_bell_92 : decode (mC 68) 92 = .ok (.invokevirtual 157, 3) := by decide +kernel
theorem d_X7_bell_95 : decode (mC 68) 95 = .ok (.ireturn, 1) := by decide +kernel
theorem d_X7_bell_96 : decode (mC 68) 96 = .ok (.ldc 58, 2) := by decide +kernel
theorem d_X7_bell_98 : decode (mC 68) 98 = .ok (.ireturn, 1) := by decide +kernel
theorem cv_68_139 : mn_cvt 68 7 139 96 = true := by decide +kernel
theorem fr_68_30 : mn_fr 68 7 30 7 3 = true := by decide +kernel
theorem cv_68_157 : mn_cvt 68 7 157 25 = true := by decide +kernel
theorem fr_68_51 : mn_fr 68 7 51 7 6 = true := by decide +kernel
theorem cv_68_153 : mn_cvt 68 7 153 49 = true := by decide +kernel
theorem fr_68_150 : mn_fr 68 7 150 5 3 = true := by decide +kernel
theorem fr_68_147 : mn_fr 68 7 147 5 2 = true := by decide +kernel
theorem fr_68_143 : mn_fr 68 7 143 5 1 = true := by decide +kernel
theorem b_X7_bell_0 {x1 x2 : Int32} {h h' : mn_H} {r : Option Value} : mn_E 68 0 [.ref 0, .int x1, .int x2] [] h r h' ↔ ∃ x h1, mn_X 96 [.ref 0, .int x1] h (some (.int x)) h1 ∧ mn_E 68 5 [.ref 0, .int x1, .int x2] [.int x] h1 r h' :=
  (mX_aload_n d_X7_bell_0 rfl).trans <| (mX_iload_n d_X7_bell_1 rfl).trans <| mV_i (a := 0) (vs := [.int x1]) (st' := []) d_X7_bell_2 cv_68_139 (Or.inr (Or.inl rfl)) (Nat.le_of_ble_eq_true rfl) rfl rfl rfl rfl
theorem b_X7_bell_5 {x1 x2 s0 : Int32} {h h' : mn_H} {r : Option Value} : mn_E 68 5 [.ref 0, .int x1, .int x2] [.int s0] h r h' ↔ if ¬ s0 = 0 then mn_E 68 11 [.ref 0, .int x1, .int x2] [] h r h' else mn_E 68 8 [.ref 0, .int x1, .int x2] [] h r h' :=
  mX_if_ne d_X7_bell_5 rfl
theorem b_X7_bell_8 {x1 x2 : Int32} {h h' : mn_H} {r : Option Value} : mn_E 68 8 [.ref 0, .int x1, .int x2] [] h r h' ↔ r = some (.int (-1000000001)) ∧ h' = h :=
  (mX_ldc d_X7_bell_8 mo_68 kc_7_142 (by decide)).trans <| mX_iret d_X7_bell_10 rfl
theorem b_X7_bell_11 {x1 x2 : Int32} {h h' : mn_H} {r : Option Value} : mn_E 68 11 [.ref 0, .int x1, .int x2] [] h r h' ↔ mn_E 68 12 [.ref 0, .int x1, .int x2] [.int x2] h r h' :=
  mX_iload_n d_X7_bell_11 rfl
theorem b_X7_bell_12_d {x1 x2 s0 : Int32} {h h' : mn_H} {r : Option Value} (hx : s0.toInt < 0 ∨ 4 < s0.toInt) : mn_E 68 12 [.ref 0, .int x1, .int x2] [.int s0] h r h' ↔ mn_E 68 96 [.ref 0, .int x1, .int x2] [] h r h' :=
  mX_tsw d_X7_bell_12 rfl (by unfold mn_tsw; rw [if_pos hx]; rfl)
theorem b_X7_bell_12_0 {x1 x2 : Int32} {h h' : mn_H} {r : Option Value} : mn_E 68 12 [.ref 0, .int x1, .int x2] [.int 0] h r h' ↔ mn_E 68 48 [.ref 0, .int x1, .int x2] [] h r h' :=
  mX_tsw d_X7_bell_12 rfl (by decide)
theorem b_X7_bell_12_1 {x1 x2 : Int32} {h h' : mn_H} {r : Option Value} : mn_E 68 12 [.ref 0, .int x1, .int x2] [.int 1] h r h' ↔ mn_E 68 58 [.ref 0, .int x1, .int x2] [] h r h' :=
  mX_tsw d_X7_bell_12 rfl (by decide)
theorem b_X7_bell_12_2 {x1 x2 : Int32} {h h' : mn_H} {r : Option Value} : mn_E 68 12 [.ref 0, .int x1, .int x2] [.int 2] h r h' ↔ mn_E 68 68 [.ref 0, .int x1, .int x2] [] h r h' :=
  mX_tsw d_X7_bell_12 rfl (by decide)
theorem b_X7_bell_12_3 {x1 x2 : Int32} {h h' : mn_H} {r : Option Value} : mn_E 68 12 [.ref 0, .int x1, .int x2] [.int 3] h r h' ↔ mn_E 68 78 [.ref 0, .int x1, .int x2] [] h r h' :=
  mX_tsw d_X7_bell_12 rfl (by decide)
theorem b_X7_bell_12_4 {x1 x2 : Int32} {h h' : mn_H} {r : Option Value} : mn_E 68 12 [.ref 0, .int x1, .int x2] [.int 4] h r h' ↔ mn_E 68 87 [.ref 0, .int x1, .int x2] [] h r h' :=
  mX_tsw d_X7_bell_12 rfl (by decide)
theorem b_X7_bell_48 {x1 x2 : Int32} {h h' : mn_H} {r : Option Value} (hy0 : mn_isT (mn_hr h)) (hy1 : vp_in x1 5) : mn_E 68 48 [.ref 0, .int x1, .int x2] [] h r h' ↔ r = some (.int (h ((mn_hr h) + 1) x1.toNatClampNeg)) ∧ h' = h :=
  (mX_aload_n d_X7_bell_48 rfl).trans <| (mG_r (b := (mn_hr h)) d_X7_bell_49 fr_68_51 rfl (by decide) rfl).trans <| (mG_r (b := ((mn_hr h) + 1)) d_X7_bell_52 fr_68_143 (mn_shT0 hy0) (mn_ltT0 hy0) (mn_rfT1 hy0 _)).trans <| (mX_iload_n d_X7_bell_55 rfl).trans <| (mX_iaload d_X7_bell_56 (mn_shT1 hy0) (mn_ltT hy0 (by decide)) hy1).trans <| mX_iret d_X7_bell_57 rfl
theorem b_X7_bell_58 {x1 x2 : Int32} {h h' : mn_H} {r : Option Value} (hy0 : mn_isT (mn_hr h)) (hy1 : vp_in x1 5) : mn_E 68 58 [.ref 0, .int x1, .int x2] [] h r h' ↔ r = some (.int (h ((mn_hr h) + 2) x1.toNatClampNeg)) ∧ h' = h :=
  (mX_aload_n d_X7_bell_58 rfl).trans <| (mG_r (b := (mn_hr h)) d_X7_bell_59 fr_68_51 rfl (by decide) rfl).trans <| (mG_r (b := ((mn_hr h) + 2)) d_X7_bell_62 fr_68_147 (mn_shT0 hy0) (mn_ltT0 hy0) (mn_rfT2 hy0 _)).trans <| (mX_iload_n d_X7_bell_65 rfl).trans <| (mX_iaload d_X7_bell_66 (mn_shT2 hy0) (mn_ltT hy0 (by decide)) hy1).trans <| mX_iret d_X7_bell_67 rfl
theorem b_X7_bell_68 {x1 x2 : Int32} {h h' : mn_H} {r : Option Value} (hy0 : mn_isT (mn_hr h)) (hy1 : vp_in x1 5) : mn_E 68 68 [.ref 0, .int x1, .int x2] [] h r h' ↔ r = some (.int (h ((mn_hr h) + 3) x1.toNatClampNeg)) ∧ h' = h :=
  (mX_aload_n d_X7_bell_68 rfl).trans <| (mG_r (b := (mn_hr h)) d_X7_bell_69 fr_68_51 rfl (by decide) rfl).trans <| (mG_r (b := ((mn_hr h) + 3)) d_X7_bell_72 fr_68_150 (mn_shT0 hy0) (mn_ltT0 hy0) (mn_rfT3 hy0 _)).trans <| (mX_iload_n d_X7_bell_75 rfl).trans <| (mX_iaload d_X7_bell_76 (mn_shT3 hy0) (mn_ltT hy0 (by decide)) hy1).trans <| mX_iret d_X7_bell_77 rfl
theorem b_X7_bell_78 {x1 x2 : Int32} {h h' : mn_H} {r : Option Value} (hy0 : mn_isT (mn_hr h)) : mn_E 68 78 [.ref 0, .int x1, .int x2] [] h r h' ↔ ∃ x h1, mn_X 49 [.ref (mn_hr h), .int x1] h (some (.int x)) h1 ∧ mn_E 68 86 [.ref 0, .int x1, .int x2] [.int x] h1 r h' :=
  (mX_aload_n d_X7_bell_78 rfl).trans <| (mG_r (b := (mn_hr h)) d_X7_bell_79 fr_68_51 rfl (by decide) rfl).trans <| (mX_iload_n d_X7_bell_82 rfl).trans <| mV_i (a := (mn_hr h)) (vs := [.int x1]) (st' := []) d_X7_bell_83 cv_68_153 (Or.inl rfl) (Nat.le_of_ble_eq_true rfl) rfl rfl (mn_shT0 hy0) rfl
theorem b_X7_bell_86 {x1 x2 s0 : Int32} {h h' : mn_H} {r : Option Value} : mn_E 68 86 [.ref 0, .int x1, .int x2] [.int s0] h r h' ↔ r = some (.int s0) ∧ h' = h :=
  mX_iret d_X7_bell_86 rfl
theorem b_X7_bell_87 {x1 x2 : Int32} {h h' : mn_H} {r : Option Value} : mn_E 68 87 [.ref 0, .int x1, .int x2] [] h r h' ↔ ∃ x h1, mn_X 25 [.ref 10, .int x1] h (some (.int x)) h1 ∧ mn_E 68 95 [.ref 0, .int x1, .int x2] [.int x] h1 r h' :=
  (mX_aload_n d_X7_bell_87 rfl).trans <| (mG_r (b := 10) d_X7_bell_88 fr_68_30 rfl (by decide) rfl).trans <| (mX_iload_n d_X7_bell_91 rfl).trans <| mV_i (a := 10) (vs := [.int x1]) (st' := []) d_X7_bell_92 cv_68_157 (Or.inl rfl) (Nat.le_of_ble_eq_true rfl) rfl rfl rfl rfl
theorem b_X7_bell_95 {x1 x2 s0 : Int32} {h h' : mn_H} {r : Option Value} : mn_E 68 95 [.ref 0, .int x1, .int x2] [.int s0] h r h' ↔ r = some (.int s0) ∧ h' = h :=
  mX_iret d_X7_bell_95 rfl
theorem b_X7_bell_96 {x1 x2 : Int32} {h h' : mn_H} {r : Option Value} : mn_E 68 96 [.ref 0, .int x1, .int x2] [] h r h' ↔ r = some (.int (-1000000002)) ∧ h' = h :=
  (mX_ldc d_X7_bell_96 mo_68 kc_7_58 (by decide)).trans <| mX_iret d_X7_bell_98 rfl
-- X7_group
theorem mo_69 : mO 69 = 7 := rfl
theorem d_X7_group_0 : decode (mC 69) 0 = .ok (.aload_n 0, 1) := by decide +kernel
theorem d_X7_group_1 : decode (mC 69) 1 = .ok (.iload_n 1, 1) := by decide +kernel
theorem d_X7_group_2 : decode (mC 69) 2 = .ok (.invokevirtual 160, 3) := by decide +kernel
theorem d_X7_group_5 : decode (mC 69) 5 = .ok (.ifCond .ne 6, 3) := by decide +kernel
theorem d_X7_group_8 : decode (mC 69) 8 = .ok (.ldc 142, 2) := by decide +kernel
theorem d_X7_group_10 : decode (mC 69) 10 = .ok (.ireturn, 1) := by decide +kernel
theorem d_X7_group_11 : decode (mC 69) 11 = .ok (.iload_n 2, 1) := by decide +kernel
theorem d_X7_group_12 : decode (mC 69) 12 = .ok (.tableswitch 104 0 5 #[40, 50, 60, 70, 80, 92], 40) := by decide +kernel
theorem d_X7_group_52 : decode (mC 69) 52 = .ok (.aload_n 0, 1) := by decide +kernel
theorem d_X7_group_53 : decode (mC 69) 53 = .ok (.getfield 51, 3) := by decide +kernel
theorem d_X7_group_56 : decode (mC 69) 56 = .ok (.getfield 163, 3) := by decide +kernel
theorem d_X7_group_59 : decode (mC 69) 59 = .ok (.iload_n 1, 1) := by decide +kernel
theorem d_X7_group_60 : decode (mC 69) 60 = .ok (.iaload, 1) := by decide +kernel
theorem d_X7_group_61 : decode (mC 69) 61 = .ok (.ireturn, 1) := by decide +kernel
theorem d_X7_group_62 : decode (mC 69) 62 = .ok (.aload_n 0, 1) := by decide +kernel
theorem d_X7_group_63 : decode (mC 69) 63 = .ok (.getfield 51, 3) := by decide +kernel
theorem d_X7_group_66 : decode (mC 69) 66 = .ok (.getfield 166, 3) := by decide +kernel
theorem d_X7_group_69 : decode (mC 69) 69 = .ok (.iload_n 1, 1) := by decide +kernel
theorem d_X7_group_70 : decode (mC 69) 70 = .ok (.iaload, 1) := by decide +kernel
theorem d_X7_group_71 : decode (mC 69) 71 = .ok (.ireturn, 1) := by decide +kernel
theorem d_X7_group_72 : decode (mC 69) 72 = .ok (.aload_n 0, 1) := by decide +kernel
theorem d_X7_group_73 : decode (mC 69) 73 = .ok (.getfield 51, 3) := by decide +kernel
theorem d_X7_group_76 : decode (mC 69) 76 = .ok (.getfield 169, 3) := by decide +kernel
theorem d_X7_group_79 : decode (mC 69) 79 = .ok (.iload_n 1, 1) := by decide +kernel
theorem d_X7_group_80 : decode (mC 69) 80 = .ok (.iaload, 1) := by decide +kernel
theorem d_X7_group_81 : decode (mC 69) 81 = .ok (.ireturn, 1) := by decide +kernel
theorem d_X7_group_82 : decode (mC 69) 82 = .ok (.aload_n 0, 1) := by decide +kernel
theorem d_X7_group_83 : decode (mC 69) 83 = .ok (.getfield 51, 3) := by decide +kernel
theorem d_X7_group_86 : decode (mC 69) 86 = .ok (.getfield 172, 3) := by decide +kernel
theorem d_X7_group_89 : decode (mC 69) 89 = .ok (.iload_n 1, 1) := by decide +kernel
theorem d_X7_group_90 : decode (mC 69) 90 = .ok (.iaload, 1) := by decide +kernel
theorem d_X7_group_91 : decode (mC 69) 91 = .ok (.ireturn, 1) := by decide +kernel
theorem d_X7_group_92 : decode (mC 69) 92 = .ok (.aload_n 0, 1) := by decide +kernel
theorem d_X7_group_93 : decode (mC 69) 93 = .ok (.getfield 19, 3) := by decide +kernel
theorem d_X7_group_96 : decode (mC 69) 96 = .ok (.getfield 120, 3) := by decide +kernel
theorem d_X7_group_99 : decode (mC 69) 99 = .ok (.iload_n 1, 1) := by decide +kernel
theorem d_X7_group_100 : decode (mC 69) 100 = .ok (.ishr, 1) := by decide +kernel
theorem d_X7_group_101 : decode (mC 69) 101 = .ok (.iconst 1, 1) := by decide +kernel
theorem d_X7_group_102 : decode (mC 69) 102 = .ok (.iand, 1) := by decide +kernel
theorem d_X7_group_103 : decode (mC 69) 103 = .ok (.ireturn, 1) := by decide +kernel
theorem d_X7_group_104 : decode (mC 69) 104 = .ok (.aload_n 0, 1) := by decide +kernel
theorem d_X7_group_105 : decode (mC 69) 105 = .ok (.getfield 19, 3) := by decide +kernel
theorem d_X7_group_108 : decode (mC 69) 108 = .ok (.getfield 123, 3) := by decide +kernel
theorem d_X7_group_111 : decode (mC 69) 111 = .ok (.iload_n 1, 1) := by decide +kernel
theorem d_X7_group_112 : decode (mC 69) 112 = .ok (.ishr, 1) := by decide +kernel
theorem d_X7_group_113 : decode (mC 69) 113 = .ok (.iconst 1, 1) := by decide +kernel
theorem d_X7_group_114 : decode (mC 69) 114 = .ok (.iand, 1) := by decide +kernel
theorem d_X7_group_115 : decode (mC 69) 115 = .ok (.ireturn, 1) := by decide +kernel
theorem d_X7_group_116 : decode (mC 69) 116 = .ok (.ldc 58, 2) := by decide +kernel
theorem d_X7_group_118 : decode (mC 69) 118 = .ok (.ireturn, 1) := by decide +kernel
theorem cv_69_160 : mn_cvt 69 7 160 97 = true := by decide +kernel
theorem fr_69_19 : mn_fr 69 7 19 7 1 = true := by decide +kernel
theorem fi_69_123 : mn_fi 69 7 123 1 5 = true := by decide +kernel
theorem fi_69_120 : mn_fi 69 7 120 1 4 = true := by decide +kernel
theorem fr_69_51 : mn_fr 69 7 51 7 6 = true := by decide +kernel
theorem fr_69_172 : mn_fr 69 7 172 5 8 = true := by decide +kernel
theorem fr_69_169 : mn_fr 69 7 169 5 7 = true := by decide +kernel
theorem fr_69_166 : mn_fr 69 7 166 5 6 = true := by decide +kernel
theorem fr_69_163 : mn_fr 69 7 163 5 5 = true := by decide +kernel
theorem b_X7_group_0 {x1 x2 : Int32} {h h' : mn_H} {r : Option Value} : mn_E 69 0 [.ref 0, .int x1, .int x2] [] h r h' ↔ ∃ x h1, mn_X 97 [.ref 0, .int x1] h (some (.int x)) h1 ∧ mn_E 69 5 [.ref 0, .int x1, .int x2] [.int x] h1 r h' :=
  (mX_aload_n d_X7_group_0 rfl).trans <| (mX_iload_n d_X7_group_1 rfl).trans <| mV_i (a := 0) (vs := [.int x1]) (st' := []) d_X7_group_2 cv_69_160 (Or.inr (Or.inl rfl)) (Nat.le_of_ble_eq_true rfl) rfl rfl rfl rfl
theorem b_X7_group_5 {x1 x2 s0 : Int32} {h h' : mn_H} {r : Option Value} : mn_E 69 5 [.ref 0, .int x1, .int x2] [.int s0] h r h' ↔ if ¬ s0 = 0 then mn_E 69 11 [.ref 0, .int x1, .int x2] [] h r h' else mn_E 69 8 [.ref 0, .int x1, .int x2] [] h r h' :=
  mX_if_ne d_X7_group_5 rfl
theorem b_X7_group_8 {x1 x2 : Int32} {h h' : mn_H} {r : Option Value} : mn_E 69 8 [.ref 0, .int x1, .int x2] [] h r h' ↔ r = some (.int (-1000000001)) ∧ h' = h :=
  (mX_ldc d_X7_group_8 mo_69 kc_7_142 (by decide)).trans <| mX_iret d_X7_group_10 rfl
theorem b_X7_group_11 {x1 x2 : Int32} {h h' : mn_H} {r : Option Value} : mn_E 69 11 [.ref 0, .int x1, .int x2] [] h r h' ↔ mn_E 69 12 [.ref 0, .int x1, .int x2] [.int x2] h r h' :=
  mX_iload_n d_X7_group_11 rfl
theorem b_X7_group_12_d {x1 x2 s0 : Int32} {h h' : mn_H} {r : Option Value} (hx : s0.toInt < 0 ∨ 5 < s0.toInt) : mn_E 69 12 [.ref 0, .int x1, .int x2] [.int s0] h r h' ↔ mn_E 69 116 [.ref 0, .int x1, .int x2] [] h r h' :=
  mX_tsw d_X7_group_12 rfl (by unfold mn_tsw; rw [if_pos hx]; rfl)
theorem b_X7_group_12_0 {x1 x2 : Int32} {h h' : mn_H} {r : Option Value} : mn_E 69 12 [.ref 0, .int x1, .int x2] [.int 0] h r h' ↔ mn_E 69 52 [.ref 0, .int x1, .int x2] [] h r h' :=
  mX_tsw d_X7_group_12 rfl (by decide)
theorem b_X7_group_12_1 {x1 x2 : Int32} {h h' : mn_H} {r : Option Value} : mn_E 69 12 [.ref 0, .int x1, .int x2] [.int 1] h r h' ↔ mn_E 69 62 [.ref 0, .int x1, .int x2] [] h r h' :=
  mX_tsw d_X7_group_12 rfl (by decide)
theorem b_X7_group_12_2 {x1 x2 : Int32} {h h' : mn_H} {r : Option Value} : mn_E 69 12 [.ref 0, .int x1, .int x2] [.int 2] h r h' ↔ mn_E 69 72 [.ref 0, .int x1, .int x2] [] h r h' :=
  mX_tsw d_X7_group_12 rfl (by decide)
theorem b_X7_group_12_3 {x1 x2 : Int32} {h h' : mn_H} {r : Option Value} : mn_E 69 12 [.ref 0, .int x1, .int x2] [.int 3] h r h' ↔ mn_E 69 82 [.ref 0, .int x1, .int x2] [] h r h' :=
  mX_tsw d_X7_group_12 rfl (by decide)
theorem b_X7_group_12_4 {x1 x2 : Int32} {h h' : mn_H} {r : Option Value} : mn_E 69 12 [.ref 0, .int x1, .int x2] [.int 4] h r h' ↔ mn_E 69 92 [.ref 0, .int x1, .int x2] [] h r h' :=
  mX_tsw d_X7_group_12 rfl (by decide)
theorem b_X7_group_12_5 {x1 x2 : Int32} {h h' : mn_H} {r : Option Value} : mn_E 69 12 [.ref 0, .int x1, .int x2] [.int 5] h r h' ↔ mn_E 69 104 [.ref 0, .int x1, .int x2] [] h r h' :=
  mX_tsw d_X7_group_12 rfl (by decide)
theorem b_X7_group_52 {x1 x2 : Int32} {h h' : mn_H} {r : Option Value} (hy0 : mn_isT (mn_hr h)) (hy1 : vp_in x1 6) : mn_E 69 52 [.ref 0, .int x1, .int x2] [] h r h' ↔ r = some (.int (h ((mn_hr h) + 4) x1.toNatClampNeg)) ∧ h' = h :=
  (mX_aload_n d_X7_group_52 rfl).trans <| (mG_r (b := (mn_hr h)) d_X7_group_53 fr_69_51 rfl (by decide) rfl).trans <| (mG_r (b := ((mn_hr h) + 4)) d_X7_group_56 fr_69_163 (mn_shT0 hy0) (mn_ltT0 hy0) (mn_rfT5 hy0 _)).trans <| (mX_iload_n d_X7_group_59 rfl).trans <| (mX_iaload d_X7_group_60 (mn_shT4 hy0) (mn_ltT hy0 (by decide)) hy1).trans <| mX_iret d_X7_group_61 rfl
theorem b_X7_group_62 {x1 x2 : Int32} {h h' : mn_H} {r : Option Value} (hy0 : mn_isT (mn_hr h)) (hy1 : vp_in x1 6) : mn_E 69 62 [.ref 0, .int x1, .int x2] [] h r h' ↔ r = some (.int (h ((mn_hr h) + 5) x1.toNatClampNeg)) ∧ h' = h :=
  (mX_aload_n d_X7_group_62 rfl).trans <| (mG_r (b := (mn_hr h)) d_X7_group_63 fr_69_51 rfl (by decide) rfl).trans <| (mG_r (b := ((mn_hr h) + 5)) d_X7_group_66 fr_69_166 (mn_shT0 hy0) (mn_ltT0 hy0) (mn_rfT6 hy0 _)).trans <| (mX_iload_n d_X7_group_69 rfl).trans <| (mX_iaload d_X7_group_70 (mn_shT5 hy0) (mn_ltT hy0 (by decide)) hy1).trans <| mX_iret d_X7_group_71 rfl
theorem b_X7_group_72 {x1 x2 : Int32} {h h' : mn_H} {r : Option Value} (hy0 : mn_isT (mn_hr h)) (hy1 : vp_in x1 6) : mn_E 69 72 [.ref 0, .int x1, .int x2] [] h r h' ↔ r = some (.int (h ((mn_hr h) + 6) x1.toNatClampNeg)) ∧ h' = h :=
  (mX_aload_n d_X7_group_72 rfl).trans <| (mG_r (b := (mn_hr h)) d_X7_group_73 fr_69_51 rfl (by decide) rfl).trans <| (mG_r (b := ((mn_hr h) + 6)) d_X7_group_76 fr_69_169 (mn_shT0 hy0) (mn_ltT0 hy0) (mn_rfT7 hy0 _)).trans <| (mX_iload_n d_X7_group_79 rfl).trans <| (mX_iaload d_X7_group_80 (mn_shT6 hy0) (mn_ltT hy0 (by decide)) hy1).trans <| mX_iret d_X7_group_81 rfl
theorem b_X7_group_82 {x1 x2 : Int32} {h h' : mn_H} {r : Option Value} (hy0 : mn_isT (mn_hr h)) (hy1 : vp_in x1 6) : mn_E 69 82 [.ref 0, .int x1, .int x2] [] h r h' ↔ r = some (.int (h ((mn_hr h) + 7) x1.toNatClampNeg)) ∧ h' = h :=
  (mX_aload_n d_X7_group_82 rfl).trans <| (mG_r (b := (mn_hr h)) d_X7_group_83 fr_69_51 rfl (by decide) rfl).trans <| (mG_r (b := ((mn_hr h) + 7)) d_X7_group_86 fr_69_172 (mn_shT0 hy0) (mn_ltT0 hy0) (mn_rfT8 hy0 _)).trans <| (mX_iload_n d_X7_group_89 rfl).trans <| (mX_iaload d_X7_group_90 (mn_shT7 hy0) (mn_ltT hy0 (by decide)) hy1).trans <| mX_iret d_X7_group_91 rfl
theorem b_X7_group_92 {x1 x2 : Int32} {h h' : mn_H} {r : Option Value} : mn_E 69 92 [.ref 0, .int x1, .int x2] [] h r h' ↔ r = some (.int (((h 3 4) >>> (x1 &&& 31)) &&& 1)) ∧ h' = h :=
  (mX_aload_n d_X7_group_92 rfl).trans <| (mG_r (b := 3) d_X7_group_93 fr_69_19 rfl (by decide) rfl).trans <| (mG_i d_X7_group_96 fi_69_120 rfl (by decide)).trans <| (mX_iload_n d_X7_group_99 rfl).trans <| (mX_ishr d_X7_group_100).trans <| (mX_iconst d_X7_group_101 ci_1).trans <| (mX_iand d_X7_group_102).trans <| mX_iret d_X7_group_103 rfl
theorem b_X7_group_104 {x1 x2 : Int32} {h h' : mn_H} {r : Option Value} : mn_E 69 104 [.ref 0, .int x1, .int x2] [] h r h' ↔ r = some (.int (((h 3 5) >>> (x1 &&& 31)) &&& 1)) ∧ h' = h :=
  (mX_aload_n d_X7_group_104 rfl).trans <| (mG_r (b := 3) d_X7_group_105 fr_69_19 rfl (by decide) rfl).trans <| (mG_i d_X7_group_108 fi_69_123 rfl (by decide)).trans <| (mX_iload_n d_X7_group_111 rfl).trans <| (mX_ishr d_X7_group_112).trans <| (mX_iconst d_X7_group_113 ci_1).trans <| (mX_iand d_X7_group_114).trans <| mX_iret d_X7_group_115 rfl
theorem b_X7_group_116 {x1 x2 : Int32} {h h' : mn_H} {r : Option Value} : mn_E 69 116 [.ref 0, .int x1, .int x2] [] h r h' ↔ r = some (.int (-1000000002)) ∧ h' = h :=
  (mX_ldc d_X7_group_116 mo_69 kc_7_58 (by decide)).trans <| mX_iret d_X7_group_118 rfl
-- X7_harm
theorem mo_70 : mO 70 = 7 := rfl
theorem d_X7_harm_0 : decode (mC 70) 0 = .ok (.iload_n 1, 1) := by decide +kernel
theorem d_X7_harm_1 : decode (mC 70) 1 = .ok (.invokestatic 175, 3) := by decide +kernel
theorem d_X7_harm_4 : decode (mC 70) 4 = .ok (.ifCond .eq 14, 3) := by decide +kernel
theorem d_X7_harm_7 : decode (mC 70) 7 = .ok (.aload_n 0, 1) := by decide +kernel
theorem d_X7_harm_8 : decode (mC 70) 8 = .ok (.getfield 51, 3) := by decide +kernel
theorem d_X7_harm_11 : decode (mC 70) 11 = .ok (.iload_n 1, 1) := by decide +kernel
theorem d_X7_harm_12 : decode (mC 70) 12 = .ok (.invokevirtual 178, 3) := by decide +kernel
theorem d_X7_harm_15 : decode (mC 70) 15 = .ok (.goto 5, 3) := by decide +kernel
theorem d_X7_harm_18 : decode (mC 70) 18 = .ok (.ldc 58, 2) := by decide +kernel
theorem d_X7_harm_20 : decode (mC 70) 20 = .ok (.ireturn, 1) := by decide +kernel
theorem cs_70_175 : mn_cs 70 7 175 99 = true := by decide +kernel
theorem fr_70_51 : mn_fr 70 7 51 7 6 = true := by decide +kernel
theorem cv_70_178 : mn_cvt 70 7 178 55 = true := by decide +kernel
theorem b_X7_harm_0 {x1 : Int32} {h h' : mn_H} {r : Option Value} : mn_E 70 0 [.ref 0, .int x1] [] h r h' ↔ ∃ x h1, mn_X 99 [.int x1] h (some (.int x)) h1 ∧ mn_E 70 4 [.ref 0, .int x1] [.int x] h1 r h' :=
  (mX_iload_n d_X7_harm_0 rfl).trans <| mS_i (vs := [.int x1]) (st' := []) d_X7_harm_1 cs_70_175 (Or.inr (Or.inl rfl)) (Nat.le_of_ble_eq_true rfl) rfl rfl rfl
theorem b_X7_harm_4 {x1 s0 : Int32} {h h' : mn_H} {r : Option Value} : mn_E 70 4 [.ref 0, .int x1] [.int s0] h r h' ↔ if s0 = 0 then mn_E 70 18 [.ref 0, .int x1] [] h r h' else mn_E 70 7 [.ref 0, .int x1] [] h r h' :=
  mX_if_eq d_X7_harm_4 rfl
theorem b_X7_harm_7 {x1 : Int32} {h h' : mn_H} {r : Option Value} (hy0 : mn_isT (mn_hr h)) : mn_E 70 7 [.ref 0, .int x1] [] h r h' ↔ ∃ x h1, mn_X 55 [.ref (mn_hr h), .int x1] h (some (.int x)) h1 ∧ mn_E 70 15 [.ref 0, .int x1] [.int x] h1 r h' :=
  (mX_aload_n d_X7_harm_7 rfl).trans <| (mG_r (b := (mn_hr h)) d_X7_harm_8 fr_70_51 rfl (by decide) rfl).trans <| (mX_iload_n d_X7_harm_11 rfl).trans <| mV_i (a := (mn_hr h)) (vs := [.int x1]) (st' := []) d_X7_harm_12 cv_70_178 (Or.inl rfl) (Nat.le_of_ble_eq_true rfl) rfl rfl (mn_shT0 hy0) rfl
theorem b_X7_harm_15 {x1 s0 : Int32} {h h' : mn_H} {r : Option Value} : mn_E 70 15 [.ref 0, .int x1] [.int s0] h r h' ↔ mn_E 70 20 [.ref 0, .int x1] [.int s0] h r h' :=
  mX_goto d_X7_harm_15 rfl
theorem b_X7_harm_18 {x1 : Int32} {h h' : mn_H} {r : Option Value} : mn_E 70 18 [.ref 0, .int x1] [] h r h' ↔ mn_E 70 20 [.ref 0, .int x1] [.int (-1000000002)] h r h' :=
  mX_ldc d_X7_harm_18 mo_70 kc_7_58 (by decide)
theorem b_X7_harm_20 {x1 s0 : Int32} {h h' : mn_H} {r : Option Value} : mn_E 70 20 [.ref 0, .int x1] [.int s0] h r h' ↔ r = some (.int s0) ∧ h' = h :=
  mX_iret d_X7_harm_20 rfl
-- X7_ring
theorem mo_71 : mO 71 = 7 := rfl
theorem d_X7_ring_0 : decode (mC 71) 0 = .ok (.iload_n 1, 1) := by decide +kernel
theorem d_X7_ring_1 : decode (mC 71) 1 = .ok (.invokestatic 175, 3) := by decide +kernel
theorem d_X7_ring_4 : decode (mC 71) 4 = .ok (.ifCond .eq 21, 3) := by decide +kernel
theorem d_X7_ring_7 : decode (mC 71) 7 = .ok (.aload_n 0, 1) := by decide +kernel
theorem d_X7_ring_8 : decode (mC 71) 8 = .ok (.getfield 51, 3) := by decide +kernel
theorem d_X7_ring_11 : decode (mC 71) 11 = .ok (.aload_n 0, 1) := by decide +kernel
theorem d_X7_ring_12 : decode (mC 71) 12 = .ok (.getfield 19, 3) := by decide +kernel
theorem d_X7_ring_15 : decode (mC 71) 15 = .ok (.invokevirtual 114, 3) := by decide +kernel
theorem d_X7_ring_18 : decode (mC 71) 18 = .ok (.iload_n 1, 1) := by decide +kernel
theorem d_X7_ring_19 : decode (mC 71) 19 = .ok (.invokevirtual 181, 3) := by decide +kernel
theorem d_X7_ring_22 : decode (mC 71) 22 = .ok (.goto 5, 3) := by decide +kernel
theorem d_X7_ring_25 : decode (mC 71) 25 = .ok (.ldc 58, 2) := by decide +kernel
theorem d_X7_ring_27 : decode (mC 71) 27 = .ok (.ireturn, 1) := by decide +kernel
theorem cs_71_175 : mn_cs 71 7 175 99 = true := by decide +kernel
theorem fr_71_51 : mn_fr 71 7 51 7 6 = true := by decide +kernel
theorem fr_71_19 : mn_fr 71 7 19 7 1 = true := by decide +kernel
theorem cv_71_114 : mn_cvt 71 7 114 6 = true := by decide +kernel
theorem cv_71_181 : mn_cvt 71 7 181 50 = true := by decide +kernel
theorem b_X7_ring_0 {x1 : Int32} {h h' : mn_H} {r : Option Value} : mn_E 71 0 [.ref 0, .int x1] [] h r h' ↔ ∃ x h1, mn_X 99 [.int x1] h (some (.int x)) h1 ∧ mn_E 71 4 [.ref 0, .int x1] [.int x] h1 r h' :=
  (mX_iload_n d_X7_ring_0 rfl).trans <| mS_i (vs := [.int x1]) (st' := []) d_X7_ring_1 cs_71_175 (Or.inr (Or.inl rfl)) (Nat.le_of_ble_eq_true rfl) rfl rfl rfl
theorem b_X7_ring_4 {x1 s0 : Int32} {h h' : mn_H} {r : Option Value} : mn_E 71 4 [.ref 0, .int x1] [.int s0] h r h' ↔ if s0 = 0 then mn_E 71 25 [.ref 0, .int x1] [] h r h' else mn_E 71 7 [.ref 0, .int x1] [] h r h' :=
  mX_if_eq d_X7_ring_4 rfl
theorem b_X7_ring_7 {x1 : Int32} {h h' : mn_H} {r : Option Value} (hy0 : mn_isT (mn_hr h)) : mn_E 71 7 [.ref 0, .int x1] [] h r h' ↔ ∃ x h1, mn_X 6 [.ref 3] h (some (.int x)) h1 ∧ mn_E 71 18 [.ref 0, .int x1] [.int x, .ref (mn_hr h)] h1 r h' :=
  (mX_aload_n d_X7_ring_7 rfl).trans <| (mG_r (b := (mn_hr h)) d_X7_ring_8 fr_71_51 rfl (by decide) rfl).trans <| (mX_aload_n d_X7_ring_11 rfl).trans <| (mG_r (b := 3) d_X7_ring_12 fr_71_19 rfl (by decide) rfl).trans <| mV_i (a := 3) (vs := []) (st' := [.ref (mn_hr h)]) d_X7_ring_15 cv_71_114 (Or.inl rfl) (Nat.le_of_ble_eq_true rfl) rfl rfl rfl rfl
theorem b_X7_ring_18 {x1 s0 : Int32} {bs1 : Nat} {h h' : mn_H} {r : Option Value} (hbs1 : mn_isT bs1) : mn_E 71 18 [.ref 0, .int x1] [.int s0, .ref bs1] h r h' ↔ ∃ x h1, mn_X 50 [.ref bs1, .int s0, .int x1] h (some (.int x)) h1 ∧ mn_E 71 22 [.ref 0, .int x1] [.int x] h1 r h' :=
  (mX_iload_n d_X7_ring_18 rfl).trans <| mV_i (a := bs1) (vs := [.int s0, .int x1]) (st' := []) d_X7_ring_19 cv_71_181 (Or.inl rfl) (Nat.le_of_ble_eq_true rfl) rfl rfl (mn_shT0 hbs1) rfl
theorem b_X7_ring_22 {x1 s0 : Int32} {h h' : mn_H} {r : Option Value} : mn_E 71 22 [.ref 0, .int x1] [.int s0] h r h' ↔ mn_E 71 27 [.ref 0, .int x1] [.int s0] h r h' :=
  mX_goto d_X7_ring_22 rfl
theorem b_X7_ring_25 {x1 : Int32} {h h' : mn_H} {r : Option Value} : mn_E 71 25 [.ref 0, .int x1] [] h r h' ↔ mn_E 71 27 [.ref 0, .int x1] [.int (-1000000002)] h r h' :=
  mX_ldc d_X7_ring_25 mo_71 kc_7_58 (by decide)
theorem b_X7_ring_27 {x1 s0 : Int32} {h h' : mn_H} {r : Option Value} : mn_E 71 27 [.ref 0, .int x1] [.int s0] h r h' ↔ r = some (.int s0) ∧ h' = h :=
  mX_iret d_X7_ring_27 rfl
-- X7_done
theorem mo_72 : mO 72 = 7 := rfl
theorem d_X7_done_0 : decode (mC 72) 0 = .ok (.aload_n 0, 1) := by decide +kernel
theorem d_X7_done_1 : decode (mC 72) 1 = .ok (.iload_n 1, 1) := by decide +kernel
theorem d_X7_done_2 : decode (mC 72) 2 = .ok (.invokevirtual 185, 3) := by decide +kernel
theorem d_X7_done_5 : decode (mC 72) 5 = .ok (.ifCond .ne 6, 3) := by decide +kernel
theorem d_X7_done_8 : decode (mC 72) 8 = .ok (.ldc 142, 2) := by decide +kernel
theorem d_X7_done_10 : decode (mC 72) 10 = .ok (.ireturn, 1) := by decide +kernel
theorem d_X7_done_11 : decode (mC 72) 11 = .ok (.iload_n 2, 1) := by decide +kernel
theorem d_X7_done_12 : decode (mC 72) 12 = .ok (.ifCond .lt 9, 3) := by decide +kernel
theorem d_X7_done_15 : decode (mC 72) 15 = .ok (.iload_n 2, 1) := by decide +kernel
theorem d_X7_done_16 : decode (mC 72) 16 = .ok (.bipush 6, 2) := by decide +kernel
theorem d_X7_done_18 : decode (mC 72) 18 = .ok (.if_icmp .lt 6, 3) := by decide +kernel
theorem d_X7_done_21 : decode (mC 72) 21 = .ok (.ldc 58, 2) := by decide +kernel
theorem d_X7_done_23 : decode (mC 72) 23 = .ok (.ireturn, 1) := by decide +kernel
theorem d_X7_done_24 : decode (mC 72) 24 = .ok (.aload_n 0, 1) := by decide +kernel
theorem d_X7_done_25 : decode (mC 72) 25 = .ok (.getfield 37, 3) := by decide +kernel
theorem d_X7_done_28 : decode (mC 72) 28 = .ok (.aload_n 0, 1) := by decide +kernel
theorem d_X7_done_29 : decode (mC 72) 29 = .ok (.getfield 51, 3) := by decide +kernel
theorem d_X7_done_32 : decode (mC 72) 32 = .ok (.iload_n 1, 1) := by decide +kernel
theorem d_X7_done_33 : decode (mC 72) 33 = .ok (.aload_n 0, 1) := by decide +kernel
theorem d_X7_done_34 : decode (mC 72) 34 = .ok (.getfield 19, 3) := by decide +kernel
theorem d_X7_done_37 : decode (mC 72) 37 = .ok (.getfield 120, 3) := by decide +kernel
theorem d_X7_done_40 : decode (mC 72) 40 = .ok (.aload_n 0, 1) := by decide +kernel
theorem d_X7_done_41 : decode (mC 72) 41 = .ok (.getfield 19, 3) := by decide +kernel
theorem d_X7_done_44 : decode (mC 72) 44 = .ok (.getfield 123, 3) := by decide +kernel
theorem d_X7_done_47 : decode (mC 72) 47 = .ok (.iconst (-1), 1) := by decide +kernel
theorem d_X7_done_48 : decode (mC 72) 48 = .ok (.iconst 0, 1) := by decide +kernel
theorem d_X7_done_49 : decode (mC 72) 49 = .ok (.invokevirtual 188, 3) := by decide +kernel
theorem d_X7_done_52 : decode (mC 72) 52 = .ok (.aload_n 0, 1) := by decide +kernel
theorem d_X7_done_53 : decode (mC 72) 53 = .ok (.getfield 37, 3) := by decide +kernel
theorem d_X7_done_56 : decode (mC 72) 56 = .ok (.getfield 192, 3) := by decide +kernel
theorem d_X7_done_59 : decode (mC 72) 59 = .ok (.iload_n 2, 1) := by decide +kernel
theorem d_X7_done_60 : decode (mC 72) 60 = .ok (.iaload, 1) := by decide +kernel
theorem d_X7_done_61 : decode (mC 72) 61 = .ok (.ireturn, 1) := by decide +kernel
theorem cv_72_185 : mn_cvt 72 7 185 98 = true := by decide +kernel
theorem fr_72_37 : mn_fr 72 7 37 7 4 = true := by decide +kernel
theorem fr_72_51 : mn_fr 72 7 51 7 6 = true := by decide +kernel
theorem fr_72_19 : mn_fr 72 7 19 7 1 = true := by decide +kernel
theorem fi_72_120 : mn_fi 72 7 120 1 4 = true := by decide +kernel
theorem fi_72_123 : mn_fi 72 7 123 1 5 = true := by decide +kernel
theorem cv_72_188 : mn_cvt 72 7 188 59 = true := by decide +kernel
theorem fr_72_192 : mn_fr 72 7 192 6 0 = true := by decide +kernel
theorem b_X7_done_0 {x1 x2 : Int32} {h h' : mn_H} {r : Option Value} : mn_E 72 0 [.ref 0, .int x1, .int x2] [] h r h' ↔ ∃ x h1, mn_X 98 [.ref 0, .int x1] h (some (.int x)) h1 ∧ mn_E 72 5 [.ref 0, .int x1, .int x2] [.int x] h1 r h' :=
  (mX_aload_n d_X7_done_0 rfl).trans <| (mX_iload_n d_X7_done_1 rfl).trans <| mV_i (a := 0) (vs := [.int x1]) (st' := []) d_X7_done_2 cv_72_185 (Or.inr (Or.inl rfl)) (Nat.le_of_ble_eq_true rfl) rfl rfl rfl rfl
theorem b_X7_done_5 {x1 x2 s0 : Int32} {h h' : mn_H} {r : Option Value} : mn_E 72 5 [.ref 0, .int x1, .int x2] [.int s0] h r h' ↔ if ¬ s0 = 0 then mn_E 72 11 [.ref 0, .int x1, .int x2] [] h r h' else mn_E 72 8 [.ref 0, .int x1, .int x2] [] h r h' :=
  mX_if_ne d_X7_done_5 rfl
theorem b_X7_done_8 {x1 x2 : Int32} {h h' : mn_H} {r : Option Value} : mn_E 72 8 [.ref 0, .int x1, .int x2] [] h r h' ↔ r = some (.int (-1000000001)) ∧ h' = h :=
  (mX_ldc d_X7_done_8 mo_72 kc_7_142 (by decide)).trans <| mX_iret d_X7_done_10 rfl
theorem b_X7_done_11 {x1 x2 : Int32} {h h' : mn_H} {r : Option Value} : mn_E 72 11 [.ref 0, .int x1, .int x2] [] h r h' ↔ if x2 < 0 then mn_E 72 21 [.ref 0, .int x1, .int x2] [] h r h' else mn_E 72 15 [.ref 0, .int x1, .int x2] [] h r h' :=
  (mX_iload_n d_X7_done_11 rfl).trans <| mX_if_lt d_X7_done_12 rfl
theorem b_X7_done_15 {x1 x2 : Int32} {h h' : mn_H} {r : Option Value} : mn_E 72 15 [.ref 0, .int x1, .int x2] [] h r h' ↔ if x2 < 6 then mn_E 72 24 [.ref 0, .int x1, .int x2] [] h r h' else mn_E 72 21 [.ref 0, .int x1, .int x2] [] h r h' :=
  (mX_iload_n d_X7_done_15 rfl).trans <| (mX_bipush d_X7_done_16 cb_6).trans <| mX_icmp_lt d_X7_done_18 rfl
theorem b_X7_done_21 {x1 x2 : Int32} {h h' : mn_H} {r : Option Value} : mn_E 72 21 [.ref 0, .int x1, .int x2] [] h r h' ↔ r = some (.int (-1000000002)) ∧ h' = h :=
  (mX_ldc d_X7_done_21 mo_72 kc_7_58 (by decide)).trans <| mX_iret d_X7_done_23 rfl
theorem b_X7_done_24 {x1 x2 : Int32} {h h' : mn_H} {r : Option Value} (hy0 : mn_isT (mn_hr h)) : mn_E 72 24 [.ref 0, .int x1, .int x2] [] h r h' ↔ ∃ h1, mn_X 59 [.ref 16, .ref (mn_hr h), .int x1, .int (h 3 4), .int (h 3 5), .int (-1), .int 0] h none h1 ∧ mn_E 72 52 [.ref 0, .int x1, .int x2] [] h1 r h' :=
  (mX_aload_n d_X7_done_24 rfl).trans <| (mG_r (b := 16) d_X7_done_25 fr_72_37 rfl (by decide) rfl).trans <| (mX_aload_n d_X7_done_28 rfl).trans <| (mG_r (b := (mn_hr h)) d_X7_done_29 fr_72_51 rfl (by decide) rfl).trans <| (mX_iload_n d_X7_done_32 rfl).trans <| (mX_aload_n d_X7_done_33 rfl).trans <| (mG_r (b := 3) d_X7_done_34 fr_72_19 rfl (by decide) rfl).trans <| (mG_i d_X7_done_37 fi_72_120 rfl (by decide)).trans <| (mX_aload_n d_X7_done_40 rfl).trans <| (mG_r (b := 3) d_X7_done_41 fr_72_19 rfl (by decide) rfl).trans <| (mG_i d_X7_done_44 fi_72_123 rfl (by decide)).trans <| (mX_iconst d_X7_done_47 ci_m1).trans <| (mX_iconst d_X7_done_48 ci_0).trans <| mV_v (a := 16) (vs := [.ref (mn_hr h), .int x1, .int (h 3 4), .int (h 3 5), .int (-1), .int 0]) (st' := []) d_X7_done_49 cv_72_188 rfl (Nat.le_of_ble_eq_true rfl) rfl rfl rfl rfl
theorem b_X7_done_52 {x1 x2 : Int32} {h h' : mn_H} {r : Option Value} (hy0 : vp_in x2 7) : mn_E 72 52 [.ref 0, .int x1, .int x2] [] h r h' ↔ r = some (.int (h 17 x2.toNatClampNeg)) ∧ h' = h :=
  (mX_aload_n d_X7_done_52 rfl).trans <| (mG_r (b := 16) d_X7_done_53 fr_72_37 rfl (by decide) rfl).trans <| (mG_r (b := 17) d_X7_done_56 fr_72_192 rfl (by decide) rfl).trans <| (mX_iload_n d_X7_done_59 rfl).trans <| (mX_iaload d_X7_done_60 rfl (by decide) hy0).trans <| mX_iret d_X7_done_61 rfl
-- X7_comes
theorem mo_73 : mO 73 = 7 := rfl
theorem d_X7_comes_0 : decode (mC 73) 0 = .ok (.aload_n 0, 1) := by decide +kernel
theorem d_X7_comes_1 : decode (mC 73) 1 = .ok (.iload_n 1, 1) := by decide +kernel
theorem d_X7_comes_2 : decode (mC 73) 2 = .ok (.invokevirtual 185, 3) := by decide +kernel
theorem d_X7_comes_5 : decode (mC 73) 5 = .ok (.ifCond .ne 6, 3) := by decide +kernel
theorem d_X7_comes_8 : decode (mC 73) 8 = .ok (.ldc 142, 2) := by decide +kernel
theorem d_X7_comes_10 : decode (mC 73) 10 = .ok (.ireturn, 1) := by decide +kernel
theorem d_X7_comes_11 : decode (mC 73) 11 = .ok (.aload_n 0, 1) := by decide +kernel
theorem d_X7_comes_12 : decode (mC 73) 12 = .ok (.invokevirtual 195, 3) := by decide +kernel
theorem d_X7_comes_15 : decode (mC 73) 15 = .ok (.aload_n 0, 1) := by decide +kernel
theorem d_X7_comes_16 : decode (mC 73) 16 = .ok (.getfield 37, 3) := by decide +kernel
theorem d_X7_comes_19 : decode (mC 73) 19 = .ok (.iload_n 1, 1) := by decide +kernel
theorem d_X7_comes_20 : decode (mC 73) 20 = .ok (.aload_n 0, 1) := by decide +kernel
theorem d_X7_comes_21 : decode (mC 73) 21 = .ok (.getfield 51, 3) := by decide +kernel
theorem d_X7_comes_24 : decode (mC 73) 24 = .ok (.aload_n 0, 1) := by decide +kernel
theorem d_X7_comes_25 : decode (mC 73) 25 = .ok (.getfield 51, 3) := by decide +kernel
theorem d_X7_comes_28 : decode (mC 73) 28 = .ok (.aload_n 0, 1) := by decide +kernel
theorem d_X7_comes_29 : decode (mC 73) 29 = .ok (.getfield 19, 3) := by decide +kernel
theorem d_X7_comes_32 : decode (mC 73) 32 = .ok (.getfield 111, 3) := by decide +kernel
theorem d_X7_comes_35 : decode (mC 73) 35 = .ok (.invokevirtual 198, 3) := by decide +kernel
theorem d_X7_comes_38 : decode (mC 73) 38 = .ok (.invokevirtual 201, 3) := by decide +kernel
theorem d_X7_comes_41 : decode (mC 73) 41 = .ok (.invokevirtual 204, 3) := by decide +kernel
theorem d_X7_comes_44 : decode (mC 73) 44 = .ok (.ireturn, 1) := by decide +kernel
theorem cv_73_185 : mn_cvt 73 7 185 98 = true := by decide +kernel
theorem cv_73_195 : mn_cvt 73 7 195 102 = true := by decide +kernel
theorem fr_73_37 : mn_fr 73 7 37 7 4 = true := by decide +kernel
theorem fr_73_51 : mn_fr 73 7 51 7 6 = true := by decide +kernel
theorem fr_73_19 : mn_fr 73 7 19 7 1 = true := by decide +kernel
theorem fi_73_111 : mn_fi 73 7 111 1 2 = true := by decide +kernel
theorem cv_73_198 : mn_cvt 73 7 198 52 = true := by decide +kernel
theorem cv_73_201 : mn_cvt 73 7 201 53 = true := by decide +kernel
theorem cv_73_204 : mn_cvt 73 7 204 60 = true := by decide +kernel
theorem b_X7_comes_0 {x1 : Int32} {h h' : mn_H} {r : Option Value} : mn_E 73 0 [.ref 0, .int x1] [] h r h' ↔ ∃ x h1, mn_X 98 [.ref 0, .int x1] h (some (.int x)) h1 ∧ mn_E 73 5 [.ref 0, .int x1] [.int x] h1 r h' :=
  (mX_aload_n d_X7_comes_0 rfl).trans <| (mX_iload_n d_X7_comes_1 rfl).trans <| mV_i (a := 0) (vs := [.int x1]) (st' := []) d_X7_comes_2 cv_73_185 (Or.inr (Or.inl rfl)) (Nat.le_of_ble_eq_true rfl) rfl rfl rfl rfl
theorem b_X7_comes_5 {x1 s0 : Int32} {h h' : mn_H} {r : Option Value} : mn_E 73 5 [.ref 0, .int x1] [.int s0] h r h' ↔ if ¬ s0 = 0 then mn_E 73 11 [.ref 0, .int x1] [] h r h' else mn_E 73 8 [.ref 0, .int x1] [] h r h' :=
  mX_if_ne d_X7_comes_5 rfl
theorem b_X7_comes_8 {x1 : Int32} {h h' : mn_H} {r : Option Value} : mn_E 73 8 [.ref 0, .int x1] [] h r h' ↔ r = some (.int (-1000000001)) ∧ h' = h :=
  (mX_ldc d_X7_comes_8 mo_73 kc_7_142 (by decide)).trans <| mX_iret d_X7_comes_10 rfl
theorem b_X7_comes_11 {x1 : Int32} {h h' : mn_H} {r : Option Value} : mn_E 73 11 [.ref 0, .int x1] [] h r h' ↔ ∃ h1, mn_X 102 [.ref 0] h none h1 ∧ mn_E 73 15 [.ref 0, .int x1] [] h1 r h' :=
  (mX_aload_n d_X7_comes_11 rfl).trans <| mV_v (a := 0) (vs := []) (st' := []) d_X7_comes_12 cv_73_195 rfl (Nat.le_of_ble_eq_true rfl) rfl rfl rfl rfl
theorem b_X7_comes_15 {x1 : Int32} {h h' : mn_H} {r : Option Value} (hy0 : mn_isT (mn_hr h)) : mn_E 73 15 [.ref 0, .int x1] [] h r h' ↔ ∃ x h1, mn_X 52 [.ref (mn_hr h), .int (h 3 2)] h (some (.int x)) h1 ∧ mn_E 73 38 [.ref 0, .int x1] [.int x, .ref (mn_hr h), .int x1, .ref 16] h1 r h' :=
  (mX_aload_n d_X7_comes_15 rfl).trans <| (mG_r (b := 16) d_X7_comes_16 fr_73_37 rfl (by decide) rfl).trans <| (mX_iload_n d_X7_comes_19 rfl).trans <| (mX_aload_n d_X7_comes_20 rfl).trans <| (mG_r (b := (mn_hr h)) d_X7_comes_21 fr_73_51 rfl (by decide) rfl).trans <| (mX_aload_n d_X7_comes_24 rfl).trans <| (mG_r (b := (mn_hr h)) d_X7_comes_25 fr_73_51 rfl (by decide) rfl).trans <| (mX_aload_n d_X7_comes_28 rfl).trans <| (mG_r (b := 3) d_X7_comes_29 fr_73_19 rfl (by decide) rfl).trans <| (mG_i d_X7_comes_32 fi_73_111 rfl (by decide)).trans <| mV_i (a := (mn_hr h)) (vs := [.int (h 3 2)]) (st' := [.ref (mn_hr h), .int x1, .ref 16]) d_X7_comes_35 cv_73_198 (Or.inl rfl) (Nat.le_of_ble_eq_true rfl) rfl rfl (mn_shT0 hy0) rfl
theorem b_X7_comes_38 {x1 s0 s2 : Int32} {bs1 : Nat} {h h' : mn_H} {r : Option Value} (hbs1 : mn_isT bs1) : mn_E 73 38 [.ref 0, .int x1] [.int s0, .ref bs1, .int s2, .ref 16] h r h' ↔ ∃ x h1, mn_X 53 [.ref bs1, .int s0] h (some (.int x)) h1 ∧ mn_E 73 41 [.ref 0, .int x1] [.int x, .int s2, .ref 16] h1 r h' :=
  mV_i (a := bs1) (vs := [.int s0]) (st' := [.int s2, .ref 16]) d_X7_comes_38 cv_73_201 (Or.inl rfl) (Nat.le_of_ble_eq_true rfl) rfl rfl (mn_shT0 hbs1) rfl
theorem b_X7_comes_41 {x1 s0 s1 : Int32} {h h' : mn_H} {r : Option Value} : mn_E 73 41 [.ref 0, .int x1] [.int s0, .int s1, .ref 16] h r h' ↔ ∃ x h1, mn_X 60 [.ref 16, .int s1, .int s0] h (some (.int x)) h1 ∧ mn_E 73 44 [.ref 0, .int x1] [.int x] h1 r h' :=
  mV_i (a := 16) (vs := [.int s1, .int s0]) (st' := []) d_X7_comes_41 cv_73_204 (Or.inl rfl) (Nat.le_of_ble_eq_true rfl) rfl rfl rfl rfl
theorem b_X7_comes_44 {x1 s0 : Int32} {h h' : mn_H} {r : Option Value} : mn_E 73 44 [.ref 0, .int x1] [.int s0] h r h' ↔ r = some (.int s0) ∧ h' = h :=
  mX_iret d_X7_comes_44 rfl
-- X7_could
theorem mo_74 : mO 74 = 7 := rfl
theorem d_X7_could_0 : decode (mC 74) 0 = .ok (.aload_n 0, 1) := by decide +kernel
theorem d_X7_could_1 : decode (mC 74) 1 = .ok (.invokevirtual 207, 3) := by decide +kernel
theorem d_X7_could_4 : decode (mC 74) 4 = .ok (.lstore_n 2, 1) := by decide +kernel
theorem d_X7_could_5 : decode (mC 74) 5 = .ok (.iload_n 1, 1) := by decide +kernel
theorem d_X7_could_6 : decode (mC 74) 6 = .ok (.iconst (-1), 1) := by decide +kernel
theorem d_X7_could_7 : decode (mC 74) 7 = .ok (.if_icmp .ne 10, 3) := by decide +kernel
theorem d_X7_could_10 : decode (mC 74) 10 = .ok (.lload_n 2, 1) := by decide +kernel
theorem d_X7_could_11 : decode (mC 74) 11 = .ok (.invokestatic 133, 3) := by decide +kernel
theorem d_X7_could_14 : decode (mC 74) 14 = .ok (.goto 8, 3) := by decide +kernel
theorem d_X7_could_17 : decode (mC 74) 17 = .ok (.lload_n 2, 1) := by decide +kernel
theorem d_X7_could_18 : decode (mC 74) 18 = .ok (.iload_n 1, 1) := by decide +kernel
theorem d_X7_could_19 : decode (mC 74) 19 = .ok (.invokestatic 211, 3) := by decide +kernel
theorem d_X7_could_22 : decode (mC 74) 22 = .ok (.ireturn, 1) := by decide +kernel
theorem cv_74_207 : mn_cvt 74 7 207 104 = true := by decide +kernel
theorem cs_74_133 : mn_cs 74 7 133 191 = true := by decide +kernel
theorem cs_74_211 : mn_cs 74 7 211 111 = true := by decide +kernel
theorem b_X7_could_0 {x1 : Int32} {h h' : mn_H} {r : Option Value} : mn_E 74 0 [.ref 0, .int x1, .null, .null] [] h r h' ↔ ∃ x h1, mn_X 104 [.ref 0] h (some (.long x)) h1 ∧ mn_E 74 4 [.ref 0, .int x1, .null, .null] [.long x] h1 r h' :=
  (mX_aload_n d_X7_could_0 rfl).trans <| mV_l (a := 0) (vs := []) (st' := []) d_X7_could_1 cv_74_207 rfl (Nat.le_of_ble_eq_true rfl) rfl rfl rfl rfl
theorem b_X7_could_4 {x1 : Int32} {m0 : Int64} {h h' : mn_H} {r : Option Value} : mn_E 74 4 [.ref 0, .int x1, .null, .null] [.long m0] h r h' ↔ if ¬ x1 = (-1) then mn_E 74 17 [.ref 0, .int x1, .long m0, .null] [] h r h' else mn_E 74 10 [.ref 0, .int x1, .long m0, .null] [] h r h' :=
  (mX_lstore_n (ls' := [.ref 0, .int x1, .long m0, .null]) d_X7_could_4 rfl rfl).trans <| (mX_iload_n d_X7_could_5 rfl).trans <| (mX_iconst d_X7_could_6 ci_m1).trans <| mX_icmp_ne d_X7_could_7 rfl
theorem b_X7_could_10 {x1 : Int32} {l2 : Int64} {h h' : mn_H} {r : Option Value} : mn_E 74 10 [.ref 0, .int x1, .long l2, .null] [] h r h' ↔ ∃ x h1, mn_X 191 [.long l2] h (some (.int x)) h1 ∧ mn_E 74 14 [.ref 0, .int x1, .long l2, .null] [.int x] h1 r h' :=
  (mX_lload_n d_X7_could_10 rfl).trans <| mS_i (vs := [.long l2]) (st' := []) d_X7_could_11 cs_74_133 (Or.inl rfl) (Nat.le_of_ble_eq_true rfl) rfl rfl rfl
theorem b_X7_could_14 {x1 s0 : Int32} {l2 : Int64} {h h' : mn_H} {r : Option Value} : mn_E 74 14 [.ref 0, .int x1, .long l2, .null] [.int s0] h r h' ↔ mn_E 74 22 [.ref 0, .int x1, .long l2, .null] [.int s0] h r h' :=
  mX_goto d_X7_could_14 rfl
theorem b_X7_could_17 {x1 : Int32} {l2 : Int64} {h h' : mn_H} {r : Option Value} : mn_E 74 17 [.ref 0, .int x1, .long l2, .null] [] h r h' ↔ ∃ x h1, mn_X 111 [.long l2, .int x1] h (some (.int x)) h1 ∧ mn_E 74 22 [.ref 0, .int x1, .long l2, .null] [.int x] h1 r h' :=
  (mX_lload_n d_X7_could_17 rfl).trans <| (mX_iload_n d_X7_could_18 rfl).trans <| mS_i (vs := [.long l2, .int x1]) (st' := []) d_X7_could_19 cs_74_211 (Or.inl rfl) (Nat.le_of_ble_eq_true rfl) rfl rfl rfl
theorem b_X7_could_22 {x1 s0 : Int32} {l2 : Int64} {h h' : mn_H} {r : Option Value} : mn_E 74 22 [.ref 0, .int x1, .long l2, .null] [.int s0] h r h' ↔ r = some (.int s0) ∧ h' = h :=
  mX_iret d_X7_could_22 rfl
-- X7_sure
theorem mo_75 : mO 75 = 7 := rfl
theorem d_X7_sure_0 : decode (mC 75) 0 = .ok (.iload_n 1, 1) := by decide +kernel
theorem d_X7_sure_1 : decode (mC 75) 1 = .ok (.invokestatic 215, 3) := by decide +kernel
theorem d_X7_sure_4 : decode (mC 75) 4 = .ok (.ifCond .ne 6, 3) := by decide +kernel
theorem d_X7_sure_7 : decode (mC 75) 7 = .ok (.ldc 58, 2) := by decide +kernel
theorem d_X7_sure_9 : decode (mC 75) 9 = .ok (.ireturn, 1) := by decide +kernel
theorem d_X7_sure_10 : decode (mC 75) 10 = .ok (.aload_n 0, 1) := by decide +kernel
theorem d_X7_sure_11 : decode (mC 75) 11 = .ok (.invokevirtual 207, 3) := by decide +kernel
theorem d_X7_sure_14 : decode (mC 75) 14 = .ok (.lstore_n 2, 1) := by decide +kernel
theorem d_X7_sure_15 : decode (mC 75) 15 = .ok (.iload_n 1, 1) := by decide +kernel
theorem d_X7_sure_16 : decode (mC 75) 16 = .ok (.ifCond .ne 10, 3) := by decide +kernel
theorem d_X7_sure_19 : decode (mC 75) 19 = .ok (.lload_n 2, 1) := by decide +kernel
theorem d_X7_sure_20 : decode (mC 75) 20 = .ok (.invokestatic 218, 3) := by decide +kernel
theorem d_X7_sure_23 : decode (mC 75) 23 = .ok (.goto 7, 3) := by decide +kernel
theorem d_X7_sure_26 : decode (mC 75) 26 = .ok (.lload_n 2, 1) := by decide +kernel
theorem d_X7_sure_27 : decode (mC 75) 27 = .ok (.invokestatic 221, 3) := by decide +kernel
theorem d_X7_sure_30 : decode (mC 75) 30 = .ok (.ireturn, 1) := by decide +kernel
theorem cs_75_215 : mn_cs 75 7 215 101 = true := by decide +kernel
theorem cv_75_207 : mn_cvt 75 7 207 104 = true := by decide +kernel
theorem cs_75_218 : mn_cs 75 7 218 109 = true := by decide +kernel
theorem cs_75_221 : mn_cs 75 7 221 110 = true := by decide +kernel
theorem b_X7_sure_0 {x1 : Int32} {h h' : mn_H} {r : Option Value} : mn_E 75 0 [.ref 0, .int x1, .null, .null] [] h r h' ↔ ∃ x h1, mn_X 101 [.int x1] h (some (.int x)) h1 ∧ mn_E 75 4 [.ref 0, .int x1, .null, .null] [.int x] h1 r h' :=
  (mX_iload_n d_X7_sure_0 rfl).trans <| mS_i (vs := [.int x1]) (st' := []) d_X7_sure_1 cs_75_215 (Or.inr (Or.inl rfl)) (Nat.le_of_ble_eq_true rfl) rfl rfl rfl
theorem b_X7_sure_4 {x1 s0 : Int32} {h h' : mn_H} {r : Option Value} : mn_E 75 4 [.ref 0, .int x1, .null, .null] [.int s0] h r h' ↔ if ¬ s0 = 0 then mn_E 75 10 [.ref 0, .int x1, .null, .null] [] h r h' else mn_E 75 7 [.ref 0, .int x1, .null, .null] [] h r h' :=
  mX_if_ne d_X7_sure_4 rfl
theorem b_X7_sure_7 {x1 : Int32} {h h' : mn_H} {r : Option Value} : mn_E 75 7 [.ref 0, .int x1, .null, .null] [] h r h' ↔ r = some (.int (-1000000002)) ∧ h' = h :=
  (mX_ldc d_X7_sure_7 mo_75 kc_7_58 (by decide)).trans <| mX_iret d_X7_sure_9 rfl
theorem b_X7_sure_10 {x1 : Int32} {h h' : mn_H} {r : Option Value} : mn_E 75 10 [.ref 0, .int x1, .null, .null] [] h r h' ↔ ∃ x h1, mn_X 104 [.ref 0] h (some (.long x)) h1 ∧ mn_E 75 14 [.ref 0, .int x1, .null, .null] [.long x] h1 r h' :=
  (mX_aload_n d_X7_sure_10 rfl).trans <| mV_l (a := 0) (vs := []) (st' := []) d_X7_sure_11 cv_75_207 rfl (Nat.le_of_ble_eq_true rfl) rfl rfl rfl rfl
theorem b_X7_sure_14 {x1 : Int32} {m0 : Int64} {h h' : mn_H} {r : Option Value} : mn_E 75 14 [.ref 0, .int x1, .null, .null] [.long m0] h r h' ↔ if ¬ x1 = 0 then mn_E 75 26 [.ref 0, .int x1, .long m0, .null] [] h r h' else mn_E 75 19 [.ref 0, .int x1, .long m0, .null] [] h r h' :=
  (mX_lstore_n (ls' := [.ref 0, .int x1, .long m0, .null]) d_X7_sure_14 rfl rfl).trans <| (mX_iload_n d_X7_sure_15 rfl).trans <| mX_if_ne d_X7_sure_16 rfl
theorem b_X7_sure_19 {x1 : Int32} {l2 : Int64} {h h' : mn_H} {r : Option Value} : mn_E 75 19 [.ref 0, .int x1, .long l2, .null] [] h r h' ↔ ∃ x h1, mn_X 109 [.long l2] h (some (.int x)) h1 ∧ mn_E 75 23 [.ref 0, .int x1, .long l2, .null] [.int x] h1 r h' :=
  (mX_lload_n d_X7_sure_19 rfl).trans <| mS_i (vs := [.long l2]) (st' := []) d_X7_sure_20 cs_75_218 (Or.inl rfl) (Nat.le_of_ble_eq_true rfl) rfl rfl rfl
theorem b_X7_sure_23 {x1 s0 : Int32} {l2 : Int64} {h h' : mn_H} {r : Option Value} : mn_E 75 23 [.ref 0, .int x1, .long l2, .null] [.int s0] h r h' ↔ mn_E 75 30 [.ref 0, .int x1, .long l2, .null] [.int s0] h r h' :=
  mX_goto d_X7_sure_23 rfl
theorem b_X7_sure_26 {x1 : Int32} {l2 : Int64} {h h' : mn_H} {r : Option Value} : mn_E 75 26 [.ref 0, .int x1, .long l2, .null] [] h r h' ↔ ∃ x h1, mn_X 110 [.long l2] h (some (.int x)) h1 ∧ mn_E 75 30 [.ref 0, .int x1, .long l2, .null] [.int x] h1 r h' :=
  (mX_lload_n d_X7_sure_26 rfl).trans <| mS_i (vs := [.long l2]) (st' := []) d_X7_sure_27 cs_75_221 (Or.inl rfl) (Nat.le_of_ble_eq_true rfl) rfl rfl rfl
theorem b_X7_sure_30 {x1 s0 : Int32} {l2 : Int64} {h h' : mn_H} {r : Option Value} : mn_E 75 30 [.ref 0, .int x1, .long l2, .null] [.int s0] h r h' ↔ r = some (.int s0) ∧ h' = h :=
  mX_iret d_X7_sure_30 rfl
-- X7_live
theorem mo_76 : mO 76 = 7 := rfl
theorem d_X7_live_0 : decode (mC 76) 0 = .ok (.aload_n 0, 1) := by decide +kernel
theorem d_X7_live_1 : decode (mC 76) 1 = .ok (.invokevirtual 207, 3) := by decide +kernel
theorem d_X7_live_4 : decode (mC 76) 4 = .ok (.iload_n 1, 1) := by decide +kernel
theorem d_X7_live_5 : decode (mC 76) 5 = .ok (.invokestatic 211, 3) := by decide +kernel
theorem d_X7_live_8 : decode (mC 76) 8 = .ok (.istore_n 2, 1) := by decide +kernel
theorem d_X7_live_9 : decode (mC 76) 9 = .ok (.iload_n 2, 1) := by decide +kernel
theorem d_X7_live_10 : decode (mC 76) 10 = .ok (.iconst (-1), 1) := by decide +kernel
theorem d_X7_live_11 : decode (mC 76) 11 = .ok (.if_icmp .ne 6, 3) := by decide +kernel
theorem d_X7_live_14 : decode (mC 76) 14 = .ok (.ldc 58, 2) := by decide +kernel
theorem d_X7_live_16 : decode (mC 76) 16 = .ok (.ireturn, 1) := by decide +kernel
theorem d_X7_live_17 : decode (mC 76) 17 = .ok (.aload_n 0, 1) := by decide +kernel
theorem d_X7_live_18 : decode (mC 76) 18 = .ok (.getfield 19, 3) := by decide +kernel
theorem d_X7_live_21 : decode (mC 76) 21 = .ok (.getfield 111, 3) := by decide +kernel
theorem d_X7_live_24 : decode (mC 76) 24 = .ok (.bipush 60, 2) := by decide +kernel
theorem d_X7_live_26 : decode (mC 76) 26 = .ok (.if_icmp .lt 6, 3) := by decide +kernel
theorem d_X7_live_29 : decode (mC 76) 29 = .ok (.ldc 67, 2) := by decide +kernel
theorem d_X7_live_31 : decode (mC 76) 31 = .ok (.ireturn, 1) := by decide +kernel
theorem d_X7_live_32 : decode (mC 76) 32 = .ok (.aload_n 0, 1) := by decide +kernel
theorem d_X7_live_33 : decode (mC 76) 33 = .ok (.getfield 19, 3) := by decide +kernel
theorem d_X7_live_36 : decode (mC 76) 36 = .ok (.iload_n 2, 1) := by decide +kernel
theorem d_X7_live_37 : decode (mC 76) 37 = .ok (.aload_n 0, 1) := by decide +kernel
theorem d_X7_live_38 : decode (mC 76) 38 = .ok (.getfield 51, 3) := by decide +kernel
theorem d_X7_live_41 : decode (mC 76) 41 = .ok (.iload_n 2, 1) := by decide +kernel
theorem d_X7_live_42 : decode (mC 76) 42 = .ok (.invokevirtual 178, 3) := by decide +kernel
theorem d_X7_live_45 : decode (mC 76) 45 = .ok (.invokevirtual 224, 3) := by decide +kernel
theorem d_X7_live_48 : decode (mC 76) 48 = .ok (.iload_n 2, 1) := by decide +kernel
theorem d_X7_live_49 : decode (mC 76) 49 = .ok (.ireturn, 1) := by decide +kernel
theorem cv_76_207 : mn_cvt 76 7 207 104 = true := by decide +kernel
theorem cs_76_211 : mn_cs 76 7 211 111 = true := by decide +kernel
theorem fr_76_19 : mn_fr 76 7 19 7 1 = true := by decide +kernel
theorem fi_76_111 : mn_fi 76 7 111 1 2 = true := by decide +kernel
theorem fr_76_51 : mn_fr 76 7 51 7 6 = true := by decide +kernel
theorem cv_76_178 : mn_cvt 76 7 178 55 = true := by decide +kernel
theorem cv_76_224 : mn_cvt 76 7 224 7 = true := by decide +kernel
theorem b_X7_live_0 {x1 : Int32} {h h' : mn_H} {r : Option Value} : mn_E 76 0 [.ref 0, .int x1, .null] [] h r h' ↔ ∃ x h1, mn_X 104 [.ref 0] h (some (.long x)) h1 ∧ mn_E 76 4 [.ref 0, .int x1, .null] [.long x] h1 r h' :=
  (mX_aload_n d_X7_live_0 rfl).trans <| mV_l (a := 0) (vs := []) (st' := []) d_X7_live_1 cv_76_207 rfl (Nat.le_of_ble_eq_true rfl) rfl rfl rfl rfl
theorem b_X7_live_4 {x1 : Int32} {m0 : Int64} {h h' : mn_H} {r : Option Value} : mn_E 76 4 [.ref 0, .int x1, .null] [.long m0] h r h' ↔ ∃ x h1, mn_X 111 [.long m0, .int x1] h (some (.int x)) h1 ∧ mn_E 76 8 [.ref 0, .int x1, .null] [.int x] h1 r h' :=
  (mX_iload_n d_X7_live_4 rfl).trans <| mS_i (vs := [.long m0, .int x1]) (st' := []) d_X7_live_5 cs_76_211 (Or.inl rfl) (Nat.le_of_ble_eq_true rfl) rfl rfl rfl
theorem b_X7_live_8 {x1 s0 : Int32} {h h' : mn_H} {r : Option Value} : mn_E 76 8 [.ref 0, .int x1, .null] [.int s0] h r h' ↔ if ¬ s0 = (-1) then mn_E 76 17 [.ref 0, .int x1, .int s0] [] h r h' else mn_E 76 14 [.ref 0, .int x1, .int s0] [] h r h' :=
  (mX_istore_n (ls' := [.ref 0, .int x1, .int s0]) d_X7_live_8 rfl rfl).trans <| (mX_iload_n d_X7_live_9 rfl).trans <| (mX_iconst d_X7_live_10 ci_m1).trans <| mX_icmp_ne d_X7_live_11 rfl
theorem b_X7_live_14 {x1 x2 : Int32} {h h' : mn_H} {r : Option Value} : mn_E 76 14 [.ref 0, .int x1, .int x2] [] h r h' ↔ r = some (.int (-1000000002)) ∧ h' = h :=
  (mX_ldc d_X7_live_14 mo_76 kc_7_58 (by decide)).trans <| mX_iret d_X7_live_16 rfl
theorem b_X7_live_17 {x1 x2 : Int32} {h h' : mn_H} {r : Option Value} : mn_E 76 17 [.ref 0, .int x1, .int x2] [] h r h' ↔ if (h 3 2) < 60 then mn_E 76 32 [.ref 0, .int x1, .int x2] [] h r h' else mn_E 76 29 [.ref 0, .int x1, .int x2] [] h r h' :=
  (mX_aload_n d_X7_live_17 rfl).trans <| (mG_r (b := 3) d_X7_live_18 fr_76_19 rfl (by decide) rfl).trans <| (mG_i d_X7_live_21 fi_76_111 rfl (by decide)).trans <| (mX_bipush d_X7_live_24 cb_60).trans <| mX_icmp_lt d_X7_live_26 rfl
theorem b_X7_live_29 {x1 x2 : Int32} {h h' : mn_H} {r : Option Value} : mn_E 76 29 [.ref 0, .int x1, .int x2] [] h r h' ↔ r = some (.int (-1000000004)) ∧ h' = h :=
  (mX_ldc d_X7_live_29 mo_76 kc_7_67 (by decide)).trans <| mX_iret d_X7_live_31 rfl
theorem b_X7_live_32 {x1 x2 : Int32} {h h' : mn_H} {r : Option Value} (hy0 : mn_isT (mn_hr h)) : mn_E 76 32 [.ref 0, .int x1, .int x2] [] h r h' ↔ ∃ x h1, mn_X 55 [.ref (mn_hr h), .int x2] h (some (.int x)) h1 ∧ mn_E 76 45 [.ref 0, .int x1, .int x2] [.int x, .int x2, .ref 3] h1 r h' :=
  (mX_aload_n d_X7_live_32 rfl).trans <| (mG_r (b := 3) d_X7_live_33 fr_76_19 rfl (by decide) rfl).trans <| (mX_iload_n d_X7_live_36 rfl).trans <| (mX_aload_n d_X7_live_37 rfl).trans <| (mG_r (b := (mn_hr h)) d_X7_live_38 fr_76_51 rfl (by decide) rfl).trans <| (mX_iload_n d_X7_live_41 rfl).trans <| mV_i (a := (mn_hr h)) (vs := [.int x2]) (st' := [.int x2, .ref 3]) d_X7_live_42 cv_76_178 (Or.inl rfl) (Nat.le_of_ble_eq_true rfl) rfl rfl (mn_shT0 hy0) rfl
theorem b_X7_live_45 {x1 x2 s0 s1 : Int32} {h h' : mn_H} {r : Option Value} : mn_E 76 45 [.ref 0, .int x1, .int x2] [.int s0, .int s1, .ref 3] h r h' ↔ ∃ h1, mn_X 7 [.ref 3, .int s1, .int s0] h none h1 ∧ mn_E 76 48 [.ref 0, .int x1, .int x2] [] h1 r h' :=
  mV_v (a := 3) (vs := [.int s1, .int s0]) (st' := []) d_X7_live_45 cv_76_224 rfl (Nat.le_of_ble_eq_true rfl) rfl rfl rfl rfl
theorem b_X7_live_48 {x1 x2 : Int32} {h h' : mn_H} {r : Option Value} : mn_E 76 48 [.ref 0, .int x1, .int x2] [] h r h' ↔ r = some (.int x2) ∧ h' = h :=
  (mX_iload_n d_X7_live_48 rfl).trans <| mX_iret d_X7_live_49 rfl
-- X7_undo
theorem mo_77 : mO 77 = 7 := rfl
theorem d_X7_undo_0 : decode (mC 77) 0 = .ok (.iload_n 1, 1) := by decide +kernel
theorem d_X7_undo_1 : decode (mC 77) 1 = .ok (.ifCond .lt 14, 3) := by decide +kernel
theorem d_X7_undo_4 : decode (mC 77) 4 = .ok (.iload_n 1, 1) := by decide +kernel
theorem d_X7_undo_5 : decode (mC 77) 5 = .ok (.aload_n 0, 1) := by decide +kernel
theorem d_X7_undo_6 : decode (mC 77) 6 = .ok (.getfield 19, 3) := by decide +kernel
theorem d_X7_undo_9 : decode (mC 77) 9 = .ok (.getfield 111, 3) := by decide +kernel
theorem d_X7_undo_12 : decode (mC 77) 12 = .ok (.if_icmp .le 6, 3) := by decide +kernel
theorem d_X7_undo_15 : decode (mC 77) 15 = .ok (.ldc 58, 2) := by decide +kernel
theorem d_X7_undo_17 : decode (mC 77) 17 = .ok (.ireturn, 1) := by decide +kernel
theorem d_X7_undo_18 : decode (mC 77) 18 = .ok (.iconst 0, 1) := by decide +kernel
theorem d_X7_undo_19 : decode (mC 77) 19 = .ok (.istore_n 2, 1) := by decide +kernel
theorem d_X7_undo_20 : decode (mC 77) 20 = .ok (.iload_n 2, 1) := by decide +kernel
theorem d_X7_undo_21 : decode (mC 77) 21 = .ok (.iload_n 1, 1) := by decide +kernel
theorem d_X7_undo_22 : decode (mC 77) 22 = .ok (.if_icmp .ge 30, 3) := by decide +kernel
theorem d_X7_undo_25 : decode (mC 77) 25 = .ok (.aload_n 0, 1) := by decide +kernel
theorem d_X7_undo_26 : decode (mC 77) 26 = .ok (.getfield 19, 3) := by decide +kernel
theorem d_X7_undo_29 : decode (mC 77) 29 = .ok (.aload_n 0, 1) := by decide +kernel
theorem d_X7_undo_30 : decode (mC 77) 30 = .ok (.getfield 51, 3) := by decide +kernel
theorem d_X7_undo_33 : decode (mC 77) 33 = .ok (.aload_n 0, 1) := by decide +kernel
theorem d_X7_undo_34 : decode (mC 77) 34 = .ok (.getfield 19, 3) := by decide +kernel
theorem d_X7_undo_37 : decode (mC 77) 37 = .ok (.invokevirtual 114, 3) := by decide +kernel
theorem d_X7_undo_40 : decode (mC 77) 40 = .ok (.invokevirtual 178, 3) := by decide +kernel
theorem d_X7_undo_43 : decode (mC 77) 43 = .ok (.invokevirtual 228, 3) := by decide +kernel
theorem d_X7_undo_46 : decode (mC 77) 46 = .ok (.iinc 2 1, 3) := by decide +kernel
theorem d_X7_undo_49 : decode (mC 77) 49 = .ok (.goto (-29), 3) := by decide +kernel
theorem d_X7_undo_52 : decode (mC 77) 52 = .ok (.aload_n 0, 1) := by decide +kernel
theorem d_X7_undo_53 : decode (mC 77) 53 = .ok (.getfield 19, 3) := by decide +kernel
theorem d_X7_undo_56 : decode (mC 77) 56 = .ok (.getfield 111, 3) := by decide +kernel
theorem d_X7_undo_59 : decode (mC 77) 59 = .ok (.ireturn, 1) := by decide +kernel
theorem fr_77_19 : mn_fr 77 7 19 7 1 = true := by decide +kernel
theorem fi_77_111 : mn_fi 77 7 111 1 2 = true := by decide +kernel
theorem fr_77_51 : mn_fr 77 7 51 7 6 = true := by decide +kernel
theorem cv_77_114 : mn_cvt 77 7 114 6 = true := by decide +kernel
theorem cv_77_178 : mn_cvt 77 7 178 55 = true := by decide +kernel
theorem cv_77_228 : mn_cvt 77 7 228 8 = true := by decide +kernel
theorem b_X7_undo_0 {x1 : Int32} {h h' : mn_H} {r : Option Value} : mn_E 77 0 [.ref 0, .int x1, .null] [] h r h' ↔ if x1 < 0 then mn_E 77 15 [.ref 0, .int x1, .null] [] h r h' else mn_E 77 4 [.ref 0, .int x1, .null] [] h r h' :=
  (mX_iload_n d_X7_undo_0 rfl).trans <| mX_if_lt d_X7_undo_1 rfl
theorem b_X7_undo_4 {x1 : Int32} {h h' : mn_H} {r : Option Value} : mn_E 77 4 [.ref 0, .int x1, .null] [] h r h' ↔ if x1 ≤ (h 3 2) then mn_E 77 18 [.ref 0, .int x1, .null] [] h r h' else mn_E 77 15 [.ref 0, .int x1, .null] [] h r h' :=
  (mX_iload_n d_X7_undo_4 rfl).trans <| (mX_aload_n d_X7_undo_5 rfl).trans <| (mG_r (b := 3) d_X7_undo_6 fr_77_19 rfl (by decide) rfl).trans <| (mG_i d_X7_undo_9 fi_77_111 rfl (by decide)).trans <| mX_icmp_le d_X7_undo_12 rfl
theorem b_X7_undo_15 {x1 : Int32} {h h' : mn_H} {r : Option Value} : mn_E 77 15 [.ref 0, .int x1, .null] [] h r h' ↔ r = some (.int (-1000000002)) ∧ h' = h :=
  (mX_ldc d_X7_undo_15 mo_77 kc_7_58 (by decide)).trans <| mX_iret d_X7_undo_17 rfl
theorem b_X7_undo_18 {x1 : Int32} {h h' : mn_H} {r : Option Value} : mn_E 77 18 [.ref 0, .int x1, .null] [] h r h' ↔ mn_E 77 20 [.ref 0, .int x1, .int 0] [] h r h' :=
  (mX_iconst d_X7_undo_18 ci_0).trans <| mX_istore_n (ls' := [.ref 0, .int x1, .int 0]) d_X7_undo_19 rfl rfl
theorem b_X7_undo_20 {x1 x2 : Int32} {h h' : mn_H} {r : Option Value} : mn_E 77 20 [.ref 0, .int x1, .int x2] [] h r h' ↔ if x1 ≤ x2 then mn_E 77 52 [.ref 0, .int x1, .int x2] [] h r h' else mn_E 77 25 [.ref 0, .int x1, .int x2] [] h r h' :=
  (mX_iload_n d_X7_undo_20 rfl).trans <| (mX_iload_n d_X7_undo_21 rfl).trans <| mX_icmp_ge d_X7_undo_22 rfl
theorem b_X7_undo_25 {x1 x2 : Int32} {h h' : mn_H} {r : Option Value} (hy0 : mn_isT (mn_hr h)) : mn_E 77 25 [.ref 0, .int x1, .int x2] [] h r h' ↔ ∃ x h1, mn_X 6 [.ref 3] h (some (.int x)) h1 ∧ mn_E 77 40 [.ref 0, .int x1, .int x2] [.int x, .ref (mn_hr h), .ref 3] h1 r h' :=
  (mX_aload_n d_X7_undo_25 rfl).trans <| (mG_r (b := 3) d_X7_undo_26 fr_77_19 rfl (by decide) rfl).trans <| (mX_aload_n d_X7_undo_29 rfl).trans <| (mG_r (b := (mn_hr h)) d_X7_undo_30 fr_77_51 rfl (by decide) rfl).trans <| (mX_aload_n d_X7_undo_33 rfl).trans <| (mG_r (b := 3) d_X7_undo_34 fr_77_19 rfl (by decide) rfl).trans <| mV_i (a := 3) (vs := []) (st' := [.ref (mn_hr h), .ref 3]) d_X7_undo_37 cv_77_114 (Or.inl rfl) (Nat.le_of_ble_eq_true rfl) rfl rfl rfl rfl
theorem b_X7_undo_40 {x1 x2 s0 : Int32} {bs1 : Nat} {h h' : mn_H} {r : Option Value} (hbs1 : mn_isT bs1) : mn_E 77 40 [.ref 0, .int x1, .int x2] [.int s0, .ref bs1, .ref 3] h r h' ↔ ∃ x h1, mn_X 55 [.ref bs1, .int s0] h (some (.int x)) h1 ∧ mn_E 77 43 [.ref 0, .int x1, .int x2] [.int x, .ref 3] h1 r h' :=
  mV_i (a := bs1) (vs := [.int s0]) (st' := [.ref 3]) d_X7_undo_40 cv_77_178 (Or.inl rfl) (Nat.le_of_ble_eq_true rfl) rfl rfl (mn_shT0 hbs1) rfl
theorem b_X7_undo_43 {x1 x2 s0 : Int32} {h h' : mn_H} {r : Option Value} : mn_E 77 43 [.ref 0, .int x1, .int x2] [.int s0, .ref 3] h r h' ↔ ∃ h1, mn_X 8 [.ref 3, .int s0] h none h1 ∧ mn_E 77 46 [.ref 0, .int x1, .int x2] [] h1 r h' :=
  mV_v (a := 3) (vs := [.int s0]) (st' := []) d_X7_undo_43 cv_77_228 rfl (Nat.le_of_ble_eq_true rfl) rfl rfl rfl rfl
theorem b_X7_undo_46 {x1 x2 : Int32} {h h' : mn_H} {r : Option Value} : mn_E 77 46 [.ref 0, .int x1, .int x2] [] h r h' ↔ mn_E 77 20 [.ref 0, .int x1, .int (x2 + 1)] [] h r h' :=
  (mX_iinc (ls' := [.ref 0, .int x1, .int (x2 + 1)]) d_X7_undo_46 rfl ci_1 rfl rfl).trans <| mX_goto d_X7_undo_49 rfl
theorem b_X7_undo_52 {x1 x2 : Int32} {h h' : mn_H} {r : Option Value} : mn_E 77 52 [.ref 0, .int x1, .int x2] [] h r h' ↔ r = some (.int (h 3 2)) ∧ h' = h :=
  (mX_aload_n d_X7_undo_52 rfl).trans <| (mG_r (b := 3) d_X7_undo_53 fr_77_19 rfl (by decide) rfl).trans <| (mG_i d_X7_undo_56 fi_77_111 rfl (by decide)).trans <| mX_iret d_X7_undo_59 rfl
-- X7_yesterday
theorem mo_78 : mO 78 = 7 := rfl
theorem d_X7_yesterday_0 : decode (mC 78) 0 = .ok (.iload_n 1, 1) := by decide +kernel
theorem d_X7_yesterday_1 : decode (mC 78) 1 = .ok (.invokestatic 175, 3) := by decide +kernel
theorem d_X7_yesterday_4 : decode (mC 78) 4 = .ok (.ifCond .ne 6, 3) := by decide +kernel
theorem d_X7_yesterday_7 : decode (mC 78) 7 = .ok (.ldc 58, 2) := by decide +kernel
theorem d_X7_yesterday_9 : decode (mC 78) 9 = .ok (.ireturn, 1) := by decide +kernel
theorem d_X7_yesterday_10 : decode (mC 78) 10 = .ok (.aload_n 0, 1) := by decide +kernel
theorem d_X7_yesterday_11 : decode (mC 78) 11 = .ok (.getfield 19, 3) := by decide +kernel
theorem d_X7_yesterday_14 : decode (mC 78) 14 = .ok (.getfield 111, 3) := by decide +kernel
theorem d_X7_yesterday_17 : decode (mC 78) 17 = .ok (.ifCond .le 6, 3) := by decide +kernel
theorem d_X7_yesterday_20 : decode (mC 78) 20 = .ok (.ldc 231, 2) := by decide +kernel
theorem d_X7_yesterday_22 : decode (mC 78) 22 = .ok (.ireturn, 1) := by decide +kernel
theorem d_X7_yesterday_23 : decode (mC 78) 23 = .ok (.aload_n 0, 1) := by decide +kernel
theorem d_X7_yesterday_24 : decode (mC 78) 24 = .ok (.getfield 19, 3) := by decide +kernel
theorem d_X7_yesterday_27 : decode (mC 78) 27 = .ok (.getfield 232, 3) := by decide +kernel
theorem d_X7_yesterday_30 : decode (mC 78) 30 = .ok (.istore_n 2, 1) := by decide +kernel
theorem d_X7_yesterday_31 : decode (mC 78) 31 = .ok (.aload_n 0, 1) := by decide +kernel
theorem d_X7_yesterday_32 : decode (mC 78) 32 = .ok (.getfield 19, 3) := by decide +kernel
theorem d_X7_yesterday_35 : decode (mC 78) 35 = .ok (.iload_n 1, 1) := by decide +kernel
theorem d_X7_yesterday_36 : decode (mC 78) 36 = .ok (.putfield 232, 3) := by decide +kernel
theorem d_X7_yesterday_39 : decode (mC 78) 39 = .ok (.iload_n 2, 1) := by decide +kernel
theorem d_X7_yesterday_40 : decode (mC 78) 40 = .ok (.ireturn, 1) := by decide +kernel
theorem cs_78_175 : mn_cs 78 7 175 99 = true := by decide +kernel
theorem fr_78_19 : mn_fr 78 7 19 7 1 = true := by decide +kernel
theorem fi_78_111 : mn_fi 78 7 111 1 2 = true := by decide +kernel
theorem fi_78_232 : mn_fi 78 7 232 1 0 = true := by decide +kernel
theorem b_X7_yesterday_0 {x1 : Int32} {h h' : mn_H} {r : Option Value} : mn_E 78 0 [.ref 0, .int x1, .null] [] h r h' ↔ ∃ x h1, mn_X 99 [.int x1] h (some (.int x)) h1 ∧ mn_E 78 4 [.ref 0, .int x1, .null] [.int x] h1 r h' :=
  (mX_iload_n d_X7_yesterday_0 rfl).trans <| mS_i (vs := [.int x1]) (st' := []) d_X7_yesterday_1 cs_78_175 (Or.inr (Or.inl rfl)) (Nat.le_of_ble_eq_true rfl) rfl rfl rfl
theorem b_X7_yesterday_4 {x1 s0 : Int32} {h h' : mn_H} {r : Option Value} : mn_E 78 4 [.ref 0, .int x1, .null] [.int s0] h r h' ↔ if ¬ s0 = 0 then mn_E 78 10 [.ref 0, .int x1, .null] [] h r h' else mn_E 78 7 [.ref 0, .int x1, .null] [] h r h' :=
  mX_if_ne d_X7_yesterday_4 rfl
theorem b_X7_yesterday_7 {x1 : Int32} {h h' : mn_H} {r : Option Value} : mn_E 78 7 [.ref 0, .int x1, .null] [] h r h' ↔ r = some (.int (-1000000002)) ∧ h' = h :=
  (mX_ldc d_X7_yesterday_7 mo_78 kc_7_58 (by decide)).trans <| mX_iret d_X7_yesterday_9 rfl
theorem b_X7_yesterday_10 {x1 : Int32} {h h' : mn_H} {r : Option Value} : mn_E 78 10 [.ref 0, .int x1, .null] [] h r h' ↔ if (h 3 2) ≤ 0 then mn_E 78 23 [.ref 0, .int x1, .null] [] h r h' else mn_E 78 20 [.ref 0, .int x1, .null] [] h r h' :=
  (mX_aload_n d_X7_yesterday_10 rfl).trans <| (mG_r (b := 3) d_X7_yesterday_11 fr_78_19 rfl (by decide) rfl).trans <| (mG_i d_X7_yesterday_14 fi_78_111 rfl (by decide)).trans <| mX_if_le d_X7_yesterday_17 rfl
theorem b_X7_yesterday_20 {x1 : Int32} {h h' : mn_H} {r : Option Value} : mn_E 78 20 [.ref 0, .int x1, .null] [] h r h' ↔ r = some (.int (-1000000003)) ∧ h' = h :=
  (mX_ldc d_X7_yesterday_20 mo_78 kc_7_231 (by decide)).trans <| mX_iret d_X7_yesterday_22 rfl
theorem b_X7_yesterday_23 {x1 : Int32} {h h' : mn_H} {r : Option Value} : mn_E 78 23 [.ref 0, .int x1, .null] [] h r h' ↔ r = some (.int (h 3 0)) ∧ h' = mn_up h 3 0 x1 :=
  (mX_aload_n d_X7_yesterday_23 rfl).trans <| (mG_r (b := 3) d_X7_yesterday_24 fr_78_19 rfl (by decide) rfl).trans <| (mG_i d_X7_yesterday_27 fi_78_232 rfl (by decide)).trans <| (mX_istore_n (ls' := [.ref 0, .int x1, .int (h 3 0)]) d_X7_yesterday_30 rfl rfl).trans <| (mX_aload_n d_X7_yesterday_31 rfl).trans <| (mG_r (b := 3) d_X7_yesterday_32 fr_78_19 rfl (by decide) rfl).trans <| (mX_iload_n d_X7_yesterday_35 rfl).trans <| (mP_i d_X7_yesterday_36 fi_78_232 rfl (by decide) rfl (Or.inl (by decide))).trans <| (mX_iload_n d_X7_yesterday_39 rfl).trans <| mX_iret d_X7_yesterday_40 rfl
-- X7_deaf
theorem mo_79 : mO 79 = 7 := rfl
theorem d_X7_deaf_0 : decode (mC 79) 0 = .ok (.aload_n 0, 1) := by decide +kernel
theorem d_X7_deaf_1 : decode (mC 79) 1 = .ok (.iload_n 1, 1) := by decide +kernel
theorem d_X7_deaf_2 : decode (mC 79) 2 = .ok (.invokevirtual 160, 3) := by decide +kernel
theorem d_X7_deaf_5 : decode (mC 79) 5 = .ok (.ifCond .ne 6, 3) := by decide +kernel
theorem d_X7_deaf_8 : decode (mC 79) 8 = .ok (.ldc 142, 2) := by decide +kernel
theorem d_X7_deaf_10 : decode (mC 79) 10 = .ok (.ireturn, 1) := by decide +kernel
theorem d_X7_deaf_11 : decode (mC 79) 11 = .ok (.aload_n 0, 1) := by decide +kernel
theorem d_X7_deaf_12 : decode (mC 79) 12 = .ok (.getfield 19, 3) := by decide +kernel
theorem d_X7_deaf_15 : decode (mC 79) 15 = .ok (.getfield 120, 3) := by decide +kernel
theorem d_X7_deaf_18 : decode (mC 79) 18 = .ok (.iload_n 1, 1) := by decide +kernel
theorem d_X7_deaf_19 : decode (mC 79) 19 = .ok (.ishr, 1) := by decide +kernel
theorem d_X7_deaf_20 : decode (mC 79) 20 = .ok (.iconst 1, 1) := by decide +kernel
theorem d_X7_deaf_21 : decode (mC 79) 21 = .ok (.iand, 1) := by decide +kernel
theorem d_X7_deaf_22 : decode (mC 79) 22 = .ok (.istore_n 3, 1) := by decide +kernel
theorem d_X7_deaf_23 : decode (mC 79) 23 = .ok (.aload_n 0, 1) := by decide +kernel
theorem d_X7_deaf_24 : decode (mC 79) 24 = .ok (.getfield 19, 3) := by decide +kernel
theorem d_X7_deaf_27 : decode (mC 79) 27 = .ok (.iload_n 2, 1) := by decide +kernel
theorem d_X7_deaf_28 : decode (mC 79) 28 = .ok (.ifCond .eq 17, 3) := by decide +kernel
theorem d_X7_deaf_31 : decode (mC 79) 31 = .ok (.aload_n 0, 1) := by decide +kernel
theorem d_X7_deaf_32 : decode (mC 79) 32 = .ok (.getfield 19, 3) := by decide +kernel
theorem d_X7_deaf_35 : decode (mC 79) 35 = .ok (.getfield 120, 3) := by decide +kernel
theorem d_X7_deaf_38 : decode (mC 79) 38 = .ok (.iconst 1, 1) := by decide +kernel
theorem d_X7_deaf_39 : decode (mC 79) 39 = .ok (.iload_n 1, 1) := by decide +kernel
theorem d_X7_deaf_40 : decode (mC 79) 40 = .ok (.ishl, 1) := by decide +kernel
theorem d_X7_deaf_41 : decode (mC 79) 41 = .ok (.ior, 1) := by decide +kernel
theorem d_X7_deaf_42 : decode (mC 79) 42 = .ok (.goto 16, 3) := by decide +kernel
theorem d_X7_deaf_45 : decode (mC 79) 45 = .ok (.aload_n 0, 1) := by decide +kernel
theorem d_X7_deaf_46 : decode (mC 79) 46 = .ok (.getfield 19, 3) := by decide +kernel
theorem d_X7_deaf_49 : decode (mC 79) 49 = .ok (.getfield 120, 3) := by decide +kernel
theorem d_X7_deaf_52 : decode (mC 79) 52 = .ok (.iconst 1, 1) := by decide +kernel
theorem d_X7_deaf_53 : decode (mC 79) 53 = .ok (.iload_n 1, 1) := by decide +kernel
theorem d_X7_deaf_54 : decode (mC 79) 54 = .ok (.ishl, 1) := by decide +kernel
theorem d_X7_deaf_55 : decode (mC 79) 55 = .ok (.iconst (-1), 1) := by decide +kernel
theorem d_X7_deaf_56 : decode (mC 79) 56 = .ok (.ixor, 1) := by decide +kernel
theorem d_X7_deaf_57 : decode (mC 79) 57 = .ok (.iand, 1) := by decide +kernel
theorem d_X7_deaf_58 : decode (mC 79) 58 = .ok (.putfield 120, 3) := by decide +kernel
theorem d_X7_deaf_61 : decode (mC 79) 61 = .ok (.iload_n 3, 1) := by decide +kernel
theorem d_X7_deaf_62 : decode (mC 79) 62 = .ok (.ireturn, 1) := by decide +kernel
theorem cv_79_160 : mn_cvt 79 7 160 97 = true := by decide +kernel
theorem fr_79_19 : mn_fr 79 7 19 7 1 = true := by decide +kernel
theorem fi_79_120 : mn_fi 79 7 120 1 4 = true := by decide +kernel
theorem b_X7_deaf_0 {x1 x2 : Int32} {h h' : mn_H} {r : Option Value} : mn_E 79 0 [.ref 0, .int x1, .int x2, .null] [] h r h' ↔ ∃ x h1, mn_X 97 [.ref 0, .int x1] h (some (.int x)) h1 ∧ mn_E 79 5 [.ref 0, .int x1, .int x2, .null] [.int x] h1 r h' :=
  (mX_aload_n d_X7_deaf_0 rfl).trans <| (mX_iload_n d_X7_deaf_1 rfl).trans <| mV_i (a := 0) (vs := [.int x1]) (st' := []) d_X7_deaf_2 cv_79_160 (Or.inr (Or.inl rfl)) (Nat.le_of_ble_eq_true rfl) rfl rfl rfl rfl
theorem b_X7_deaf_5 {x1 x2 s0 : Int32} {h h' : mn_H} {r : Option Value} : mn_E 79 5 [.ref 0, .int x1, .int x2, .null] [.int s0] h r h' ↔ if ¬ s0 = 0 then mn_E 79 11 [.ref 0, .int x1, .int x2, .null] [] h r h' else mn_E 79 8 [.ref 0, .int x1, .int x2, .null] [] h r h' :=
  mX_if_ne d_X7_deaf_5 rfl
theorem b_X7_deaf_8 {x1 x2 : Int32} {h h' : mn_H} {r : Option Value} : mn_E 79 8 [.ref 0, .int x1, .int x2, .null] [] h r h' ↔ r = some (.int (-1000000001)) ∧ h' = h :=
  (mX_ldc d_X7_deaf_8 mo_79 kc_7_142 (by decide)).trans <| mX_iret d_X7_deaf_10 rfl
theorem b_X7_deaf_11 {x1 x2 : Int32} {h h' : mn_H} {r : Option Value} : mn_E 79 11 [.ref 0, .int x1, .int x2, .null] [] h r h' ↔ if x2 = 0 then mn_E 79 45 [.ref 0, .int x1, .int x2, .int (((h 3 4) >>> (x1 &&& 31)) &&& 1)] [.ref 3] h r h' else mn_E 79 31 [.ref 0, .int x1, .int x2, .int (((h 3 4) >>> (x1 &&& 31)) &&& 1)] [.ref 3] h r h' :=
  (mX_aload_n d_X7_deaf_11 rfl).trans <| (mG_r (b := 3) d_X7_deaf_12 fr_79_19 rfl (by decide) rfl).trans <| (mG_i d_X7_deaf_15 fi_79_120 rfl (by decide)).trans <| (mX_iload_n d_X7_deaf_18 rfl).trans <| (mX_ishr d_X7_deaf_19).trans <| (mX_iconst d_X7_deaf_20 ci_1).trans <| (mX_iand d_X7_deaf_21).trans <| (mX_istore_n (ls' := [.ref 0, .int x1, .int x2, .int (((h 3 4) >>> (x1 &&& 31)) &&& 1)]) d_X7_deaf_22 rfl rfl).trans <| (mX_aload_n d_X7_deaf_23 rfl).trans <| (mG_r (b := 3) d_X7_deaf_24 fr_79_19 rfl (by decide) rfl).trans <| (mX_iload_n d_X7_deaf_27 rfl).trans <| mX_if_eq d_X7_deaf_28 rfl
theorem b_X7_deaf_31 {x1 x2 x3 : Int32} {h h' : mn_H} {r : Option Value} : mn_E 79 31 [.ref 0, .int x1, .int x2, .int x3] [.ref 3] h r h' ↔ mn_E 79 58 [.ref 0, .int x1, .int x2, .int x3] [.int ((h 3 4) ||| (1 <<< (x1 &&& 31))), .ref 3] h r h' :=
  (mX_aload_n d_X7_deaf_31 rfl).trans <| (mG_r (b := 3) d_X7_deaf_32 fr_79_19 rfl (by decide) rfl).trans <| (mG_i d_X7_deaf_35 fi_79_120 rfl (by decide)).trans <| (mX_iconst d_X7_deaf_38 ci_1).trans <| (mX_iload_n d_X7_deaf_39 rfl).trans <| (mX_ishl d_X7_deaf_40).trans <| (mX_ior d_X7_deaf_41).trans <| mX_goto d_X7_deaf_42 rfl
theorem b_X7_deaf_45 {x1 x2 x3 : Int32} {h h' : mn_H} {r : Option Value} : mn_E 79 45 [.ref 0, .int x1, .int x2, .int x3] [.ref 3] h r h' ↔ mn_E 79 58 [.ref 0, .int x1, .int x2, .int x3] [.int ((h 3 4) &&& ((1 <<< (x1 &&& 31)) ^^^ (-1))), .ref 3] h r h' :=
  (mX_aload_n d_X7_deaf_45 rfl).trans <| (mG_r (b := 3) d_X7_deaf_46 fr_79_19 rfl (by decide) rfl).trans <| (mG_i d_X7_deaf_49 fi_79_120 rfl (by decide)).trans <| (mX_iconst d_X7_deaf_52 ci_1).trans <| (mX_iload_n d_X7_deaf_53 rfl).trans <| (mX_ishl d_X7_deaf_54).trans <| (mX_iconst d_X7_deaf_55 ci_m1).trans <| (mX_ixor d_X7_deaf_56).trans <| mX_iand d_X7_deaf_57
theorem b_X7_deaf_58 {x1 x2 x3 s0 : Int32} {h h' : mn_H} {r : Option Value} : mn_E 79 58 [.ref 0, .int x1, .int x2, .int x3] [.int s0, .ref 3] h r h' ↔ r = some (.int x3) ∧ h' = mn_up h 3 4 s0 :=
  (mP_i d_X7_deaf_58 fi_79_120 rfl (by decide) rfl (Or.inl (by decide))).trans <| (mX_iload_n d_X7_deaf_61 rfl).trans <| mX_iret d_X7_deaf_62 rfl
-- X7_may
theorem mo_80 : mO 80 = 7 := rfl
theorem d_X7_may_0 : decode (mC 80) 0 = .ok (.iload_n 1, 1) := by decide +kernel
theorem d_X7_may_1 : decode (mC 80) 1 = .ok (.aload_n 0, 1) := by decide +kernel
theorem d_X7_may_2 : decode (mC 80) 2 = .ok (.getfield 51, 3) := by decide +kernel
theorem d_X7_may_5 : decode (mC 80) 5 = .ok (.invokevirtual 72, 3) := by decide +kernel
theorem d_X7_may_8 : decode (mC 80) 8 = .ok (.iconst (-1), 1) := by decide +kernel
theorem d_X7_may_9 : decode (mC 80) 9 = .ok (.ixor, 1) := by decide +kernel
theorem d_X7_may_10 : decode (mC 80) 10 = .ok (.iand, 1) := by decide +kernel
theorem d_X7_may_11 : decode (mC 80) 11 = .ok (.ifCond .eq 6, 3) := by decide +kernel
theorem d_X7_may_14 : decode (mC 80) 14 = .ok (.ldc 142, 2) := by decide +kernel
theorem d_X7_may_16 : decode (mC 80) 16 = .ok (.ireturn, 1) := by decide +kernel
theorem d_X7_may_17 : decode (mC 80) 17 = .ok (.aload_n 0, 1) := by decide +kernel
theorem d_X7_may_18 : decode (mC 80) 18 = .ok (.getfield 19, 3) := by decide +kernel
theorem d_X7_may_21 : decode (mC 80) 21 = .ok (.getfield 123, 3) := by decide +kernel
theorem d_X7_may_24 : decode (mC 80) 24 = .ok (.istore_n 2, 1) := by decide +kernel
theorem d_X7_may_25 : decode (mC 80) 25 = .ok (.aload_n 0, 1) := by decide +kernel
theorem d_X7_may_26 : decode (mC 80) 26 = .ok (.getfield 19, 3) := by decide +kernel
theorem d_X7_may_29 : decode (mC 80) 29 = .ok (.iload_n 1, 1) := by decide +kernel
theorem d_X7_may_30 : decode (mC 80) 30 = .ok (.putfield 123, 3) := by decide +kernel
theorem d_X7_may_33 : decode (mC 80) 33 = .ok (.iload_n 2, 1) := by decide +kernel
theorem d_X7_may_34 : decode (mC 80) 34 = .ok (.ireturn, 1) := by decide +kernel
theorem fr_80_51 : mn_fr 80 7 51 7 6 = true := by decide +kernel
theorem cv_80_72 : mn_cvt 80 7 72 47 = true := by decide +kernel
theorem fr_80_19 : mn_fr 80 7 19 7 1 = true := by decide +kernel
theorem fi_80_123 : mn_fi 80 7 123 1 5 = true := by decide +kernel
theorem b_X7_may_0 {x1 : Int32} {h h' : mn_H} {r : Option Value} (hy0 : mn_isT (mn_hr h)) : mn_E 80 0 [.ref 0, .int x1, .null] [] h r h' ↔ ∃ x h1, mn_X 47 [.ref (mn_hr h)] h (some (.int x)) h1 ∧ mn_E 80 8 [.ref 0, .int x1, .null] [.int x, .int x1] h1 r h' :=
  (mX_iload_n d_X7_may_0 rfl).trans <| (mX_aload_n d_X7_may_1 rfl).trans <| (mG_r (b := (mn_hr h)) d_X7_may_2 fr_80_51 rfl (by decide) rfl).trans <| mV_i (a := (mn_hr h)) (vs := []) (st' := [.int x1]) d_X7_may_5 cv_80_72 (Or.inl rfl) (Nat.le_of_ble_eq_true rfl) rfl rfl (mn_shT0 hy0) rfl
theorem b_X7_may_8 {x1 s0 s1 : Int32} {h h' : mn_H} {r : Option Value} : mn_E 80 8 [.ref 0, .int x1, .null] [.int s0, .int s1] h r h' ↔ if (s1 &&& (s0 ^^^ (-1))) = 0 then mn_E 80 17 [.ref 0, .int x1, .null] [] h r h' else mn_E 80 14 [.ref 0, .int x1, .null] [] h r h' :=
  (mX_iconst d_X7_may_8 ci_m1).trans <| (mX_ixor d_X7_may_9).trans <| (mX_iand d_X7_may_10).trans <| mX_if_eq d_X7_may_11 rfl
theorem b_X7_may_14 {x1 : Int32} {h h' : mn_H} {r : Option Value} : mn_E 80 14 [.ref 0, .int x1, .null] [] h r h' ↔ r = some (.int (-1000000001)) ∧ h' = h :=
  (mX_ldc d_X7_may_14 mo_80 kc_7_142 (by decide)).trans <| mX_iret d_X7_may_16 rfl
theorem b_X7_may_17 {x1 : Int32} {h h' : mn_H} {r : Option Value} : mn_E 80 17 [.ref 0, .int x1, .null] [] h r h' ↔ r = some (.int (h 3 5)) ∧ h' = mn_up h 3 5 x1 :=
  (mX_aload_n d_X7_may_17 rfl).trans <| (mG_r (b := 3) d_X7_may_18 fr_80_19 rfl (by decide) rfl).trans <| (mG_i d_X7_may_21 fi_80_123 rfl (by decide)).trans <| (mX_istore_n (ls' := [.ref 0, .int x1, .int (h 3 5)]) d_X7_may_24 rfl rfl).trans <| (mX_aload_n d_X7_may_25 rfl).trans <| (mG_r (b := 3) d_X7_may_26 fr_80_19 rfl (by decide) rfl).trans <| (mX_iload_n d_X7_may_29 rfl).trans <| (mP_i d_X7_may_30 fi_80_123 rfl (by decide) rfl (Or.inl (by decide))).trans <| (mX_iload_n d_X7_may_33 rfl).trans <| mX_iret d_X7_may_34 rfl
-- X7_drift
theorem mo_81 : mO 81 = 7 := rfl
theorem d_X7_drift_0 : decode (mC 81) 0 = .ok (.iload_n 1, 1) := by decide +kernel
theorem d_X7_drift_1 : decode (mC 81) 1 = .ok (.iconst 1, 1) := by decide +kernel
theorem d_X7_drift_2 : decode (mC 81) 2 = .ok (.if_icmp .lt 9, 3) := by decide +kernel
theorem d_X7_drift_5 : decode (mC 81) 5 = .ok (.iload_n 1, 1) := by decide +kernel
theorem d_X7_drift_6 : decode (mC 81) 6 = .ok (.bipush 60, 2) := by decide +kernel
theorem d_X7_drift_8 : decode (mC 81) 8 = .ok (.if_icmp .le 6, 3) := by decide +kernel
theorem d_X7_drift_11 : decode (mC 81) 11 = .ok (.ldc 58, 2) := by decide +kernel
theorem d_X7_drift_13 : decode (mC 81) 13 = .ok (.ireturn, 1) := by decide +kernel
theorem d_X7_drift_14 : decode (mC 81) 14 = .ok (.aload_n 0, 1) := by decide +kernel
theorem d_X7_drift_15 : decode (mC 81) 15 = .ok (.getfield 19, 3) := by decide +kernel
theorem d_X7_drift_18 : decode (mC 81) 18 = .ok (.getfield 111, 3) := by decide +kernel
theorem d_X7_drift_21 : decode (mC 81) 21 = .ok (.iload_n 1, 1) := by decide +kernel
theorem d_X7_drift_22 : decode (mC 81) 22 = .ok (.iadd, 1) := by decide +kernel
theorem d_X7_drift_23 : decode (mC 81) 23 = .ok (.bipush 60, 2) := by decide +kernel
theorem d_X7_drift_25 : decode (mC 81) 25 = .ok (.if_icmp .le 6, 3) := by decide +kernel
theorem d_X7_drift_28 : decode (mC 81) 28 = .ok (.ldc 67, 2) := by decide +kernel
theorem d_X7_drift_30 : decode (mC 81) 30 = .ok (.ireturn, 1) := by decide +kernel
theorem d_X7_drift_31 : decode (mC 81) 31 = .ok (.aload_n 0, 1) := by decide +kernel
theorem d_X7_drift_32 : decode (mC 81) 32 = .ok (.getfield 19, 3) := by decide +kernel
theorem d_X7_drift_35 : decode (mC 81) 35 = .ok (.getfield 117, 3) := by decide +kernel
theorem d_X7_drift_38 : decode (mC 81) 38 = .ok (.istore_n 2, 1) := by decide +kernel
theorem d_X7_drift_39 : decode (mC 81) 39 = .ok (.aload_n 0, 1) := by decide +kernel
theorem d_X7_drift_40 : decode (mC 81) 40 = .ok (.invokevirtual 195, 3) := by decide +kernel
theorem d_X7_drift_43 : decode (mC 81) 43 = .ok (.iconst 0, 1) := by decide +kernel
theorem d_X7_drift_44 : decode (mC 81) 44 = .ok (.istore_n 3, 1) := by decide +kernel
theorem d_X7_drift_45 : decode (mC 81) 45 = .ok (.iload_n 3, 1) := by decide +kernel
theorem d_X7_drift_46 : decode (mC 81) 46 = .ok (.iload_n 1, 1) := by decide +kernel
theorem d_X7_drift_47 : decode (mC 81) 47 = .ok (.if_icmp .ge 80, 3) := by decide +kernel
theorem d_X7_drift_50 : decode (mC 81) 50 = .ok (.aload_n 0, 1) := by decide +kernel
theorem d_X7_drift_51 : decode (mC 81) 51 = .ok (.getfield 37, 3) := by decide +kernel
theorem d_X7_drift_54 : decode (mC 81) 54 = .ok (.aload_n 0, 1) := by decide +kernel
theorem d_X7_drift_55 : decode (mC 81) 55 = .ok (.getfield 51, 3) := by decide +kernel
theorem d_X7_drift_58 : decode (mC 81) 58 = .ok (.aload_n 0, 1) := by decide +kernel
theorem d_X7_drift_59 : decode (mC 81) 59 = .ok (.getfield 19, 3) := by decide +kernel
theorem d_X7_drift_62 : decode (mC 81) 62 = .ok (.invokevirtual 114, 3) := by decide +kernel
theorem d_X7_drift_65 : decode (mC 81) 65 = .ok (.aload_n 0, 1) := by decide +kernel
theorem d_X7_drift_66 : decode (mC 81) 66 = .ok (.getfield 51, 3) := by decide +kernel
theorem d_X7_drift_69 : decode (mC 81) 69 = .ok (.aload_n 0, 1) := by decide +kernel
theorem d_X7_drift_70 : decode (mC 81) 70 = .ok (.getfield 19, 3) := by decide +kernel
theorem d_X7_drift_73 : decode (mC 81) 73 = .ok (.getfield 111, 3) := by decide +kernel
theorem d_X7_drift_76 : decode (mC 81) 76 = .ok (.invokevirtual 198, 3) := by decide +kernel
theorem d_X7_drift_79 : decode (mC 81) 79 = .ok (.invokevirtual 235, 3) := by decide +kernel
theorem d_X7_drift_82 : decode (mC 81) 82 = .ok (.lstore 4, 2) := by decide +kernel
theorem d_X7_drift_84 : decode (mC 81) 84 = .ok (.lload 4, 2) := by decide +kernel
theorem d_X7_drift_86 : decode (mC 81) 86 = .ok (.aload_n 0, 1) := by decide +kernel
theorem d_X7_drift_87 : decode (mC 81) 87 = .ok (.getfield 19, 3) := by decide +kernel
theorem d_X7_drift_90 : decode (mC 81) 90 = .ok (.lload 4, 2) := by decide +kernel
theorem d_X7_drift_92 : decode (mC 81) 92 = .ok (.invokestatic 133, 3) := by decide +kernel
theorem d_X7_drift_95 : decode (mC 81) 95 = .ok (.invokevirtual 239, 3) := by decide +kernel
theorem d_X7_drift_98 : decode (mC 81) 98 = .ok (.invokestatic 211, 3) := by decide +kernel
theorem d_X7_drift_101 : decode (mC 81) 101 = .ok (.istore 6, 2) := by decide +kernel
theorem d_X7_drift_103 : decode (mC 81) 103 = .ok (.aload_n 0, 1) := by decide +kernel
theorem d_X7_drift_104 : decode (mC 81) 104 = .ok (.getfield 19, 3) := by decide +kernel
theorem d_X7_drift_107 : decode (mC 81) 107 = .ok (.iload 6, 2) := by decide +kernel
theorem d_X7_drift_109 : decode (mC 81) 109 = .ok (.aload_n 0, 1) := by decide +kernel
theorem d_X7_drift_110 : decode (mC 81) 110 = .ok (.getfield 51, 3) := by decide +kernel
theorem d_X7_drift_113 : decode (mC 81) 113 = .ok (.iload 6, 2) := by decide +kernel
theorem d_X7_drift_115 : decode (mC 81) 115 = .ok (.invokevirtual 178, 3) := by decide +kernel
theorem d_X7_drift_118 : decode (mC 81) 118 = .ok (.invokevirtual 224, 3) := by decide +kernel
theorem d_X7_drift_121 : decode (mC 81) 121 = .ok (.iinc 3 1, 3) := by decide +kernel
theorem d_X7_drift_124 : decode (mC 81) 124 = .ok (.goto (-79), 3) := by decide +kernel
theorem d_X7_drift_127 : decode (mC 81) 127 = .ok (.aload_n 0, 1) := by decide +kernel
theorem d_X7_drift_128 : decode (mC 81) 128 = .ok (.getfield 19, 3) := by decide +kernel
theorem d_X7_drift_131 : decode (mC 81) 131 = .ok (.getfield 117, 3) := by decide +kernel
theorem d_X7_drift_134 : decode (mC 81) 134 = .ok (.iload_n 2, 1) := by decide +kernel
theorem d_X7_drift_135 : decode (mC 81) 135 = .ok (.isub, 1) := by decide +kernel
theorem d_X7_drift_136 : decode (mC 81) 136 = .ok (.ireturn, 1) := by decide +kernel
theorem fr_81_19 : mn_fr 81 7 19 7 1 = true := by decide +kernel
theorem fi_81_111 : mn_fi 81 7 111 1 2 = true := by decide +kernel
theorem fi_81_117 : mn_fi 81 7 117 1 3 = true := by decide +kernel
theorem cv_81_195 : mn_cvt 81 7 195 102 = true := by decide +kernel
theorem fr_81_37 : mn_fr 81 7 37 7 4 = true := by decide +kernel
theorem fr_81_51 : mn_fr 81 7 51 7 6 = true := by decide +kernel
theorem cv_81_114 : mn_cvt 81 7 114 6 = true := by decide +kernel
theorem cv_81_198 : mn_cvt 81 7 198 52 = true := by decide +kernel
theorem cv_81_235 : mn_cvt 81 7 235 62 = true := by decide +kernel
theorem cs_81_133 : mn_cs 81 7 133 191 = true := by decide +kernel
theorem cv_81_239 : mn_cvt 81 7 239 9 = true := by decide +kernel
theorem cs_81_211 : mn_cs 81 7 211 111 = true := by decide +kernel
theorem cv_81_178 : mn_cvt 81 7 178 55 = true := by decide +kernel
theorem cv_81_224 : mn_cvt 81 7 224 7 = true := by decide +kernel
theorem b_X7_drift_0 {x1 : Int32} {h h' : mn_H} {r : Option Value} : mn_E 81 0 [.ref 0, .int x1, .null, .null, .null, .null, .null] [] h r h' ↔ if x1 < 1 then mn_E 81 11 [.ref 0, .int x1, .null, .null, .null, .null, .null] [] h r h' else mn_E 81 5 [.ref 0, .int x1, .null, .null, .null, .null, .null] [] h r h' :=
  (mX_iload_n d_X7_drift_0 rfl).trans <| (mX_iconst d_X7_drift_1 ci_1).trans <| mX_icmp_lt d_X7_drift_2 rfl
theorem b_X7_drift_5 {x1 : Int32} {h h' : mn_H} {r : Option Value} : mn_E 81 5 [.ref 0, .int x1, .null, .null, .null, .null, .null] [] h r h' ↔ if x1 ≤ 60 then mn_E 81 14 [.ref 0, .int x1, .null, .null, .null, .null, .null] [] h r h' else mn_E 81 11 [.ref 0, .int x1, .null, .null, .null, .null, .null] [] h r h' :=
  (mX_iload_n d_X7_drift_5 rfl).trans <| (mX_bipush d_X7_drift_6 cb_60).trans <| mX_icmp_le d_X7_drift_8 rfl
theorem b_X7_drift_11 {x1 : Int32} {h h' : mn_H} {r : Option Value} : mn_E 81 11 [.ref 0, .int x1, .null, .null, .null, .null, .null] [] h r h' ↔ r = some (.int (-1000000002)) ∧ h' = h :=
  (mX_ldc d_X7_drift_11 mo_81 kc_7_58 (by decide)).trans <| mX_iret d_X7_drift_13 rfl
theorem b_X7_drift_14 {x1 : Int32} {h h' : mn_H} {r : Option Value} : mn_E 81 14 [.ref 0, .int x1, .null, .null, .null, .null, .null] [] h r h' ↔ if ((h 3 2) + x1) ≤ 60 then mn_E 81 31 [.ref 0, .int x1, .null, .null, .null, .null, .null] [] h r h' else mn_E 81 28 [.ref 0, .int x1, .null, .null, .null, .null, .null] [] h r h' :=
  (mX_aload_n d_X7_drift_14 rfl).trans <| (mG_r (b := 3) d_X7_drift_15 fr_81_19 rfl (by decide) rfl).trans <| (mG_i d_X7_drift_18 fi_81_111 rfl (by decide)).trans <| (mX_iload_n d_X7_drift_21 rfl).trans <| (mX_iadd d_X7_drift_22).trans <| (mX_bipush d_X7_drift_23 cb_60).trans <| mX_icmp_le d_X7_drift_25 rfl
theorem b_X7_drift_28 {x1 : Int32} {h h' : mn_H} {r : Option Value} : mn_E 81 28 [.ref 0, .int x1, .null, .null, .null, .null, .null] [] h r h' ↔ r = some (.int (-1000000004)) ∧ h' = h :=
  (mX_ldc d_X7_drift_28 mo_81 kc_7_67 (by decide)).trans <| mX_iret d_X7_drift_30 rfl
theorem b_X7_drift_31 {x1 : Int32} {h h' : mn_H} {r : Option Value} : mn_E 81 31 [.ref 0, .int x1, .null, .null, .null, .null, .null] [] h r h' ↔ ∃ h1, mn_X 102 [.ref 0] h none h1 ∧ mn_E 81 43 [.ref 0, .int x1, .int (h 3 3), .null, .null, .null, .null] [] h1 r h' :=
  (mX_aload_n d_X7_drift_31 rfl).trans <| (mG_r (b := 3) d_X7_drift_32 fr_81_19 rfl (by decide) rfl).trans <| (mG_i d_X7_drift_35 fi_81_117 rfl (by decide)).trans <| (mX_istore_n (ls' := [.ref 0, .int x1, .int (h 3 3), .null, .null, .null, .null]) d_X7_drift_38 rfl rfl).trans <| (mX_aload_n d_X7_drift_39 rfl).trans <| mV_v (a := 0) (vs := []) (st' := []) d_X7_drift_40 cv_81_195 rfl (Nat.le_of_ble_eq_true rfl) rfl rfl rfl rfl
theorem b_X7_drift_43 {x1 x2 : Int32} {h h' : mn_H} {r : Option Value} : mn_E 81 43 [.ref 0, .int x1, .int x2, .null, .null, .null, .null] [] h r h' ↔ mn_E 81 45 [.ref 0, .int x1, .int x2, .int 0, .null, .null, .null] [] h r h' :=
  (mX_iconst d_X7_drift_43 ci_0).trans <| mX_istore_n (ls' := [.ref 0, .int x1, .int x2, .int 0, .null, .null, .null]) d_X7_drift_44 rfl rfl
theorem b_X7_drift_45 {x1 x2 x3 : Int32} {w4 w6 : Value} {h h' : mn_H} {r : Option Value} : mn_E 81 45 [.ref 0, .int x1, .int x2, .int x3, w4, .null, w6] [] h r h' ↔ if x1 ≤ x3 then mn_E 81 127 [.ref 0, .int x1, .int x2, .int x3, w4, .null, w6] [] h r h' else mn_E 81 50 [.ref 0, .int x1, .int x2, .int x3, w4, .null, w6] [] h r h' :=
  (mX_iload_n d_X7_drift_45 rfl).trans <| (mX_iload_n d_X7_drift_46 rfl).trans <| mX_icmp_ge d_X7_drift_47 rfl
theorem b_X7_drift_50 {x1 x2 x3 : Int32} {w4 w6 : Value} {h h' : mn_H} {r : Option Value} (hy0 : mn_isT (mn_hr h)) : mn_E 81 50 [.ref 0, .int x1, .int x2, .int x3, w4, .null, w6] [] h r h' ↔ ∃ x h1, mn_X 6 [.ref 3] h (some (.int x)) h1 ∧ mn_E 81 65 [.ref 0, .int x1, .int x2, .int x3, w4, .null, w6] [.int x, .ref (mn_hr h), .ref 16] h1 r h' :=
  (mX_aload_n d_X7_drift_50 rfl).trans <| (mG_r (b := 16) d_X7_drift_51 fr_81_37 rfl (by decide) rfl).trans <| (mX_aload_n d_X7_drift_54 rfl).trans <| (mG_r (b := (mn_hr h)) d_X7_drift_55 fr_81_51 rfl (by decide) rfl).trans <| (mX_aload_n d_X7_drift_58 rfl).trans <| (mG_r (b := 3) d_X7_drift_59 fr_81_19 rfl (by decide) rfl).trans <| mV_i (a := 3) (vs := []) (st' := [.ref (mn_hr h), .ref 16]) d_X7_drift_62 cv_81_114 (Or.inl rfl) (Nat.le_of_ble_eq_true rfl) rfl rfl rfl rfl
theorem b_X7_drift_65 {x1 x2 x3 s0 : Int32} {bs1 : Nat} {w4 w6 : Value} {h h' : mn_H} {r : Option Value} (hbs1 : mn_isT bs1) (hy1 : mn_isT (mn_hr h)) : mn_E 81 65 [.ref 0, .int x1, .int x2, .int x3, w4, .null, w6] [.int s0, .ref bs1, .ref 16] h r h' ↔ ∃ x h1, mn_X 52 [.ref (mn_hr h), .int (h 3 2)] h (some (.int x)) h1 ∧ mn_E 81 79 [.ref 0, .int x1, .int x2, .int x3, w4, .null, w6] [.int x, .int s0, .ref bs1, .ref 16] h1 r h' :=
  (mX_aload_n d_X7_drift_65 rfl).trans <| (mG_r (b := (mn_hr h)) d_X7_drift_66 fr_81_51 rfl (by decide) rfl).trans <| (mX_aload_n d_X7_drift_69 rfl).trans <| (mG_r (b := 3) d_X7_drift_70 fr_81_19 rfl (by decide) rfl).trans <| (mG_i d_X7_drift_73 fi_81_111 rfl (by decide)).trans <| mV_i (a := (mn_hr h)) (vs := [.int (h 3 2)]) (st' := [.int s0, .ref bs1, .ref 16]) d_X7_drift_76 cv_81_198 (Or.inl rfl) (Nat.le_of_ble_eq_true rfl) rfl rfl (mn_shT0 hy1) rfl
theorem b_X7_drift_79 {x1 x2 x3 s0 s1 : Int32} {bs2 : Nat} {w4 w6 : Value} {h h' : mn_H} {r : Option Value} (hbs2 : mn_isT bs2) : mn_E 81 79 [.ref 0, .int x1, .int x2, .int x3, w4, .null, w6] [.int s0, .int s1, .ref bs2, .ref 16] h r h' ↔ ∃ x h1, mn_X 62 [.ref 16, .ref bs2, .int s1, .int s0] h (some (.long x)) h1 ∧ mn_E 81 82 [.ref 0, .int x1, .int x2, .int x3, w4, .null, w6] [.long x] h1 r h' :=
  mV_l (a := 16) (vs := [.ref bs2, .int s1, .int s0]) (st' := []) d_X7_drift_79 cv_81_235 rfl (Nat.le_of_ble_eq_true rfl) rfl rfl rfl rfl
theorem b_X7_drift_82 {x1 x2 x3 : Int32} {m0 : Int64} {w4 w6 : Value} {h h' : mn_H} {r : Option Value} : mn_E 81 82 [.ref 0, .int x1, .int x2, .int x3, w4, .null, w6] [.long m0] h r h' ↔ ∃ x h1, mn_X 191 [.long m0] h (some (.int x)) h1 ∧ mn_E 81 95 [.ref 0, .int x1, .int x2, .int x3, .long m0, .null, w6] [.int x, .ref 3, .long m0] h1 r h' :=
  (mX_lstore (ls' := [.ref 0, .int x1, .int x2, .int x3, .long m0, .null, w6]) d_X7_drift_82 rfl rfl).trans <| (mX_lload d_X7_drift_84 rfl).trans <| (mX_aload_n d_X7_drift_86 rfl).trans <| (mG_r (b := 3) d_X7_drift_87 fr_81_19 rfl (by decide) rfl).trans <| (mX_lload d_X7_drift_90 rfl).trans <| mS_i (vs := [.long m0]) (st' := [.ref 3, .long m0]) d_X7_drift_92 cs_81_133 (Or.inl rfl) (Nat.le_of_ble_eq_true rfl) rfl rfl rfl
theorem b_X7_drift_95 {x1 x2 x3 s0 : Int32} {l4 m2 : Int64} {w6 : Value} {h h' : mn_H} {r : Option Value} : mn_E 81 95 [.ref 0, .int x1, .int x2, .int x3, .long l4, .null, w6] [.int s0, .ref 3, .long m2] h r h' ↔ ∃ x h1, mn_X 9 [.ref 3, .int s0] h (some (.int x)) h1 ∧ mn_E 81 98 [.ref 0, .int x1, .int x2, .int x3, .long l4, .null, w6] [.int x, .long m2] h1 r h' :=
  mV_i (a := 3) (vs := [.int s0]) (st' := [.long m2]) d_X7_drift_95 cv_81_239 (Or.inl rfl) (Nat.le_of_ble_eq_true rfl) rfl rfl rfl rfl
theorem b_X7_drift_98 {x1 x2 x3 s0 : Int32} {l4 m1 : Int64} {w6 : Value} {h h' : mn_H} {r : Option Value} : mn_E 81 98 [.ref 0, .int x1, .int x2, .int x3, .long l4, .null, w6] [.int s0, .long m1] h r h' ↔ ∃ x h1, mn_X 111 [.long m1, .int s0] h (some (.int x)) h1 ∧ mn_E 81 101 [.ref 0, .int x1, .int x2, .int x3, .long l4, .null, w6] [.int x] h1 r h' :=
  mS_i (vs := [.long m1, .int s0]) (st' := []) d_X7_drift_98 cs_81_211 (Or.inl rfl) (Nat.le_of_ble_eq_true rfl) rfl rfl rfl
theorem b_X7_drift_101 {x1 x2 x3 s0 : Int32} {l4 : Int64} {w6 : Value} {h h' : mn_H} {r : Option Value} (hy0 : mn_isT (mn_hr h)) : mn_E 81 101 [.ref 0, .int x1, .int x2, .int x3, .long l4, .null, w6] [.int s0] h r h' ↔ ∃ x h1, mn_X 55 [.ref (mn_hr h), .int s0] h (some (.int x)) h1 ∧ mn_E 81 118 [.ref 0, .int x1, .int x2, .int x3, .long l4, .null, .int s0] [.int x, .int s0, .ref 3] h1 r h' :=
  (mX_istore (ls' := [.ref 0, .int x1, .int x2, .int x3, .long l4, .null, .int s0]) d_X7_drift_101 rfl rfl).trans <| (mX_aload_n d_X7_drift_103 rfl).trans <| (mG_r (b := 3) d_X7_drift_104 fr_81_19 rfl (by decide) rfl).trans <| (mX_iload d_X7_drift_107 rfl).trans <| (mX_aload_n d_X7_drift_109 rfl).trans <| (mG_r (b := (mn_hr h)) d_X7_drift_110 fr_81_51 rfl (by decide) rfl).trans <| (mX_iload d_X7_drift_113 rfl).trans <| mV_i (a := (mn_hr h)) (vs := [.int s0]) (st' := [.int s0, .ref 3]) d_X7_drift_115 cv_81_178 (Or.inl rfl) (Nat.le_of_ble_eq_true rfl) rfl rfl (mn_shT0 hy0) rfl
theorem b_X7_drift_118 {x1 x2 x3 x6 s0 s1 : Int32} {l4 : Int64} {h h' : mn_H} {r : Option Value} : mn_E 81 118 [.ref 0, .int x1, .int x2, .int x3, .long l4, .null, .int x6] [.int s0, .int s1, .ref 3] h r h' ↔ ∃ h1, mn_X 7 [.ref 3, .int s1, .int s0] h none h1 ∧ mn_E 81 121 [.ref 0, .int x1, .int x2, .int x3, .long l4, .null, .int x6] [] h1 r h' :=
  mV_v (a := 3) (vs := [.int s1, .int s0]) (st' := []) d_X7_drift_118 cv_81_224 rfl (Nat.le_of_ble_eq_true rfl) rfl rfl rfl rfl
theorem b_X7_drift_121 {x1 x2 x3 x6 : Int32} {l4 : Int64} {h h' : mn_H} {r : Option Value} : mn_E 81 121 [.ref 0, .int x1, .int x2, .int x3, .long l4, .null, .int x6] [] h r h' ↔ mn_E 81 45 [.ref 0, .int x1, .int x2, .int (x3 + 1), .long l4, .null, .int x6] [] h r h' :=
  (mX_iinc (ls' := [.ref 0, .int x1, .int x2, .int (x3 + 1), .long l4, .null, .int x6]) d_X7_drift_121 rfl ci_1 rfl rfl).trans <| mX_goto d_X7_drift_124 rfl
theorem b_X7_drift_127 {x1 x2 x3 : Int32} {w4 w6 : Value} {h h' : mn_H} {r : Option Value} : mn_E 81 127 [.ref 0, .int x1, .int x2, .int x3, w4, .null, w6] [] h r h' ↔ r = some (.int ((h 3 3) - x2)) ∧ h' = h :=
  (mX_aload_n d_X7_drift_127 rfl).trans <| (mG_r (b := 3) d_X7_drift_128 fr_81_19 rfl (by decide) rfl).trans <| (mG_i d_X7_drift_131 fi_81_117 rfl (by decide)).trans <| (mX_iload_n d_X7_drift_134 rfl).trans <| (mX_isub d_X7_drift_135).trans <| mX_iret d_X7_drift_136 rfl
-- X7_rule
theorem mo_82 : mO 82 = 7 := rfl
theorem d_X7_rule_0 : decode (mC 82) 0 = .ok (.iload_n 1, 1) := by decide +kernel
theorem d_X7_rule_1 : decode (mC 82) 1 = .ok (.ifCond .lt 16, 3) := by decide +kernel
theorem d_X7_rule_4 : decode (mC 82) 4 = .ok (.iload_n 1, 1) := by decide +kernel
theorem d_X7_rule_5 : decode (mC 82) 5 = .ok (.bipush 6, 2) := by decide +kernel
theorem d_X7_rule_7 : decode (mC 82) 7 = .ok (.if_icmp .gt 10, 3) := by decide +kernel
theorem d_X7_rule_10 : decode (mC 82) 10 = .ok (.iload_n 2, 1) := by decide +kernel
theorem d_X7_rule_11 : decode (mC 82) 11 = .ok (.invokestatic 215, 3) := by decide +kernel
theorem d_X7_rule_14 : decode (mC 82) 14 = .ok (.ifCond .ne 6, 3) := by decide +kernel
theorem d_X7_rule_17 : decode (mC 82) 17 = .ok (.ldc 58, 2) := by decide +kernel
theorem d_X7_rule_19 : decode (mC 82) 19 = .ok (.ireturn, 1) := by decide +kernel
theorem d_X7_rule_20 : decode (mC 82) 20 = .ok (.iconst 0, 1) := by decide +kernel
theorem d_X7_rule_21 : decode (mC 82) 21 = .ok (.istore_n 3, 1) := by decide +kernel
theorem d_X7_rule_22 : decode (mC 82) 22 = .ok (.aload_n 0, 1) := by decide +kernel
theorem d_X7_rule_23 : decode (mC 82) 23 = .ok (.iconst 0, 1) := by decide +kernel
theorem d_X7_rule_24 : decode (mC 82) 24 = .ok (.invokevirtual 242, 3) := by decide +kernel
theorem d_X7_rule_27 : decode (mC 82) 27 = .ok (.istore 4, 2) := by decide +kernel
theorem d_X7_rule_29 : decode (mC 82) 29 = .ok (.iconst 1, 1) := by decide +kernel
theorem d_X7_rule_30 : decode (mC 82) 30 = .ok (.istore 5, 2) := by decide +kernel
theorem d_X7_rule_32 : decode (mC 82) 32 = .ok (.iload 5, 2) := by decide +kernel
theorem d_X7_rule_34 : decode (mC 82) 34 = .ok (.aload_n 0, 1) := by decide +kernel
theorem d_X7_rule_35 : decode (mC 82) 35 = .ok (.getfield 51, 3) := by decide +kernel
theorem d_X7_rule_38 : decode (mC 82) 38 = .ok (.invokevirtual 72, 3) := by decide +kernel
theorem d_X7_rule_41 : decode (mC 82) 41 = .ok (.if_icmp .gt 63, 3) := by decide +kernel
theorem d_X7_rule_44 : decode (mC 82) 44 = .ok (.iload 5, 2) := by decide +kernel
theorem d_X7_rule_46 : decode (mC 82) 46 = .ok (.invokestatic 245, 3) := by decide +kernel
theorem d_X7_rule_49 : decode (mC 82) 49 = .ok (.istore 6, 2) := by decide +kernel
theorem d_X7_rule_51 : decode (mC 82) 51 = .ok (.iload 6, 2) := by decide +kernel
theorem d_X7_rule_53 : decode (mC 82) 53 = .ok (.iload_n 1, 1) := by decide +kernel
theorem d_X7_rule_54 : decode (mC 82) 54 = .ok (.if_icmp .le 6, 3) := by decide +kernel
theorem d_X7_rule_57 : decode (mC 82) 57 = .ok (.goto 41, 3) := by decide +kernel
theorem d_X7_rule_60 : decode (mC 82) 60 = .ok (.aload_n 0, 1) := by decide +kernel
theorem d_X7_rule_61 : decode (mC 82) 61 = .ok (.iload 5, 2) := by decide +kernel
theorem d_X7_rule_63 : decode (mC 82) 63 = .ok (.invokevirtual 242, 3) := by decide +kernel
theorem d_X7_rule_66 : decode (mC 82) 66 = .ok (.istore 7, 2) := by decide +kernel
theorem d_X7_rule_68 : decode (mC 82) 68 = .ok (.iload 7, 2) := by decide +kernel
theorem d_X7_rule_70 : decode (mC 82) 70 = .ok (.iload 4, 2) := by decide +kernel
theorem d_X7_rule_72 : decode (mC 82) 72 = .ok (.if_icmp .lt 19, 3) := by decide +kernel
theorem d_X7_rule_75 : decode (mC 82) 75 = .ok (.iload 7, 2) := by decide +kernel
theorem d_X7_rule_77 : decode (mC 82) 77 = .ok (.iload 4, 2) := by decide +kernel
theorem d_X7_rule_79 : decode (mC 82) 79 = .ok (.if_icmp .ne 19, 3) := by decide +kernel
theorem d_X7_rule_82 : decode (mC 82) 82 = .ok (.iload 6, 2) := by decide +kernel
theorem d_X7_rule_84 : decode (mC 82) 84 = .ok (.iload_n 3, 1) := by decide +kernel
theorem d_X7_rule_85 : decode (mC 82) 85 = .ok (.invokestatic 245, 3) := by decide +kernel
theorem d_X7_rule_88 : decode (mC 82) 88 = .ok (.if_icmp .ge 10, 3) := by decide +kernel
theorem d_X7_rule_91 : decode (mC 82) 91 = .ok (.iload 7, 2) := by decide +kernel
theorem d_X7_rule_93 : decode (mC 82) 93 = .ok (.istore 4, 2) := by decide +kernel
theorem d_X7_rule_95 : decode (mC 82) 95 = .ok (.iload 5, 2) := by decide +kernel
theorem d_X7_rule_97 : decode (mC 82) 97 = .ok (.istore_n 3, 1) := by decide +kernel
theorem d_X7_rule_98 : decode (mC 82) 98 = .ok (.iinc 5 1, 3) := by decide +kernel
theorem d_X7_rule_101 : decode (mC 82) 101 = .ok (.goto (-69), 3) := by decide +kernel
theorem d_X7_rule_104 : decode (mC 82) 104 = .ok (.iload_n 2, 1) := by decide +kernel
theorem d_X7_rule_105 : decode (mC 82) 105 = .ok (.ifCond .ne 8, 3) := by decide +kernel
theorem d_X7_rule_108 : decode (mC 82) 108 = .ok (.iload 4, 2) := by decide +kernel
theorem d_X7_rule_110 : decode (mC 82) 110 = .ok (.goto 4, 3) := by decide +kernel
theorem d_X7_rule_113 : decode (mC 82) 113 = .ok (.iload_n 3, 1) := by decide +kernel
theorem d_X7_rule_114 : decode (mC 82) 114 = .ok (.ireturn, 1) := by decide +kernel
theorem cs_82_215 : mn_cs 82 7 215 101 = true := by decide +kernel
theorem cv_82_242 : mn_cvt 82 7 242 106 = true := by decide +kernel
theorem fr_82_51 : mn_fr 82 7 51 7 6 = true := by decide +kernel
theorem cv_82_72 : mn_cvt 82 7 72 47 = true := by decide +kernel
theorem cs_82_245 : mn_cs 82 7 245 190 = true := by decide +kernel
theorem b_X7_rule_0 {x1 x2 : Int32} {h h' : mn_H} {r : Option Value} : mn_E 82 0 [.ref 0, .int x1, .int x2, .null, .null, .null, .null, .null] [] h r h' ↔ if x1 < 0 then mn_E 82 17 [.ref 0, .int x1, .int x2, .null, .null, .null, .null, .null] [] h r h' else mn_E 82 4 [.ref 0, .int x1, .int x2, .null, .null, .null, .null, .null] [] h r h' :=
  (mX_iload_n d_X7_rule_0 rfl).trans <| mX_if_lt d_X7_rule_1 rfl
theorem b_X7_rule_4 {x1 x2 : Int32} {h h' : mn_H} {r : Option Value} : mn_E 82 4 [.ref 0, .int x1, .int x2, .null, .null, .null, .null, .null] [] h r h' ↔ if (6 : Int32) < x1 then mn_E 82 17 [.ref 0, .int x1, .int x2, .null, .null, .null, .null, .null] [] h r h' else mn_E 82 10 [.ref 0, .int x1, .int x2, .null, .null, .null, .null, .null] [] h r h' :=
  (mX_iload_n d_X7_rule_4 rfl).trans <| (mX_bipush d_X7_rule_5 cb_6).trans <| mX_icmp_gt d_X7_rule_7 rfl
theorem b_X7_rule_10 {x1 x2 : Int32} {h h' : mn_H} {r : Option Value} : mn_E 82 10 [.ref 0, .int x1, .int x2, .null, .null, .null, .null, .null] [] h r h' ↔ ∃ x h1, mn_X 101 [.int x2] h (some (.int x)) h1 ∧ mn_E 82 14 [.ref 0, .int x1, .int x2, .null, .null, .null, .null, .null] [.int x] h1 r h' :=
  (mX_iload_n d_X7_rule_10 rfl).trans <| mS_i (vs := [.int x2]) (st' := []) d_X7_rule_11 cs_82_215 (Or.inr (Or.inl rfl)) (Nat.le_of_ble_eq_true rfl) rfl rfl rfl
theorem b_X7_rule_14 {x1 x2 s0 : Int32} {h h' : mn_H} {r : Option Value} : mn_E 82 14 [.ref 0, .int x1, .int x2, .null, .null, .null, .null, .null] [.int s0] h r h' ↔ if ¬ s0 = 0 then mn_E 82 20 [.ref 0, .int x1, .int x2, .null, .null, .null, .null, .null] [] h r h' else mn_E 82 17 [.ref 0, .int x1, .int x2, .null, .null, .null, .null, .null] [] h r h' :=
  mX_if_ne d_X7_rule_14 rfl
theorem b_X7_rule_17 {x1 x2 : Int32} {h h' : mn_H} {r : Option Value} : mn_E 82 17 [.ref 0, .int x1, .int x2, .null, .null, .null, .null, .null] [] h r h' ↔ r = some (.int (-1000000002)) ∧ h' = h :=
  (mX_ldc d_X7_rule_17 mo_82 kc_7_58 (by decide)).trans <| mX_iret d_X7_rule_19 rfl
theorem b_X7_rule_20 {x1 x2 : Int32} {h h' : mn_H} {r : Option Value} : mn_E 82 20 [.ref 0, .int x1, .int x2, .null, .null, .null, .null, .null] [] h r h' ↔ ∃ x h1, mn_X 106 [.ref 0, .int 0] h (some (.int x)) h1 ∧ mn_E 82 27 [.ref 0, .int x1, .int x2, .int 0, .null, .null, .null, .null] [.int x] h1 r h' :=
  (mX_iconst d_X7_rule_20 ci_0).trans <| (mX_istore_n (ls' := [.ref 0, .int x1, .int x2, .int 0, .null, .null, .null, .null]) d_X7_rule_21 rfl rfl).trans <| (mX_aload_n d_X7_rule_22 rfl).trans <| (mX_iconst d_X7_rule_23 ci_0).trans <| mV_i (a := 0) (vs := [.int 0]) (st' := []) d_X7_rule_24 cv_82_242 (Or.inl rfl) (Nat.le_of_ble_eq_true rfl) rfl rfl rfl rfl
theorem b_X7_rule_27 {x1 x2 x3 s0 : Int32} {h h' : mn_H} {r : Option Value} : mn_E 82 27 [.ref 0, .int x1, .int x2, .int x3, .null, .null, .null, .null] [.int s0] h r h' ↔ mn_E 82 32 [.ref 0, .int x1, .int x2, .int x3, .int s0, .int 1, .null, .null] [] h r h' :=
  (mX_istore (ls' := [.ref 0, .int x1, .int x2, .int x3, .int s0, .null, .null, .null]) d_X7_rule_27 rfl rfl).trans <| (mX_iconst d_X7_rule_29 ci_1).trans <| mX_istore (ls' := [.ref 0, .int x1, .int x2, .int x3, .int s0, .int 1, .null, .null]) d_X7_rule_30 rfl rfl
theorem b_X7_rule_32 {x1 x2 x3 x4 x5 : Int32} {w6 w7 : Value} {h h' : mn_H} {r : Option Value} (hy0 : mn_isT (mn_hr h)) : mn_E 82 32 [.ref 0, .int x1, .int x2, .int x3, .int x4, .int x5, w6, w7] [] h r h' ↔ ∃ x h1, mn_X 47 [.ref (mn_hr h)] h (some (.int x)) h1 ∧ mn_E 82 41 [.ref 0, .int x1, .int x2, .int x3, .int x4, .int x5, w6, w7] [.int x, .int x5] h1 r h' :=
  (mX_iload d_X7_rule_32 rfl).trans <| (mX_aload_n d_X7_rule_34 rfl).trans <| (mG_r (b := (mn_hr h)) d_X7_rule_35 fr_82_51 rfl (by decide) rfl).trans <| mV_i (a := (mn_hr h)) (vs := []) (st' := [.int x5]) d_X7_rule_38 cv_82_72 (Or.inl rfl) (Nat.le_of_ble_eq_true rfl) rfl rfl (mn_shT0 hy0) rfl
theorem b_X7_rule_41 {x1 x2 x3 x4 x5 s0 s1 : Int32} {w6 w7 : Value} {h h' : mn_H} {r : Option Value} : mn_E 82 41 [.ref 0, .int x1, .int x2, .int x3, .int x4, .int x5, w6, w7] [.int s0, .int s1] h r h' ↔ if s0 < s1 then mn_E 82 104 [.ref 0, .int x1, .int x2, .int x3, .int x4, .int x5, w6, w7] [] h r h' else mn_E 82 44 [.ref 0, .int x1, .int x2, .int x3, .int x4, .int x5, w6, w7] [] h r h' :=
  mX_icmp_gt d_X7_rule_41 rfl
theorem b_X7_rule_44 {x1 x2 x3 x4 x5 : Int32} {w6 w7 : Value} {h h' : mn_H} {r : Option Value} : mn_E 82 44 [.ref 0, .int x1, .int x2, .int x3, .int x4, .int x5, w6, w7] [] h r h' ↔ ∃ x h1, mn_X 190 [.int x5] h (some (.int x)) h1 ∧ mn_E 82 49 [.ref 0, .int x1, .int x2, .int x3, .int x4, .int x5, w6, w7] [.int x] h1 r h' :=
  (mX_iload d_X7_rule_44 rfl).trans <| mS_i (vs := [.int x5]) (st' := []) d_X7_rule_46 cs_82_245 (Or.inl rfl) (Nat.le_of_ble_eq_true rfl) rfl rfl rfl
theorem b_X7_rule_49 {x1 x2 x3 x4 x5 s0 : Int32} {w6 w7 : Value} {h h' : mn_H} {r : Option Value} : mn_E 82 49 [.ref 0, .int x1, .int x2, .int x3, .int x4, .int x5, w6, w7] [.int s0] h r h' ↔ if s0 ≤ x1 then mn_E 82 60 [.ref 0, .int x1, .int x2, .int x3, .int x4, .int x5, .int s0, w7] [] h r h' else mn_E 82 57 [.ref 0, .int x1, .int x2, .int x3, .int x4, .int x5, .int s0, w7] [] h r h' :=
  (mX_istore (ls' := [.ref 0, .int x1, .int x2, .int x3, .int x4, .int x5, .int s0, w7]) d_X7_rule_49 rfl rfl).trans <| (mX_iload d_X7_rule_51 rfl).trans <| (mX_iload_n d_X7_rule_53 rfl).trans <| mX_icmp_le d_X7_rule_54 rfl
theorem b_X7_rule_57 {x1 x2 x3 x4 x5 x6 : Int32} {w7 : Value} {h h' : mn_H} {r : Option Value} : mn_E 82 57 [.ref 0, .int x1, .int x2, .int x3, .int x4, .int x5, .int x6, w7] [] h r h' ↔ mn_E 82 98 [.ref 0, .int x1, .int x2, .int x3, .int x4, .int x5, .int x6, w7] [] h r h' :=
  mX_goto d_X7_rule_57 rfl
theorem b_X7_rule_60 {x1 x2 x3 x4 x5 x6 : Int32} {w7 : Value} {h h' : mn_H} {r : Option Value} : mn_E 82 60 [.ref 0, .int x1, .int x2, .int x3, .int x4, .int x5, .int x6, w7] [] h r h' ↔ ∃ x h1, mn_X 106 [.ref 0, .int x5] h (some (.int x)) h1 ∧ mn_E 82 66 [.ref 0, .int x1, .int x2, .int x3, .int x4, .int x5, .int x6, w7] [.int x] h1 r h' :=
  (mX_aload_n d_X7_rule_60 rfl).trans <| (mX_iload d_X7_rule_61 rfl).trans <| mV_i (a := 0) (vs := [.int x5]) (st' := []) d_X7_rule_63 cv_82_242 (Or.inl rfl) (Nat.le_of_ble_eq_true rfl) rfl rfl rfl rfl
theorem b_X7_rule_66 {x1 x2 x3 x4 x5 x6 s0 : Int32} {w7 : Value} {h h' : mn_H} {r : Option Value} : mn_E 82 66 [.ref 0, .int x1, .int x2, .int x3, .int x4, .int x5, .int x6, w7] [.int s0] h r h' ↔ if s0 < x4 then mn_E 82 91 [.ref 0, .int x1, .int x2, .int x3, .int x4, .int x5, .int x6, .int s0] [] h r h' else mn_E 82 75 [.ref 0, .int x1, .int x2, .int x3, .int x4, .int x5, .int x6, .int s0] [] h r h' :=
  (mX_istore (ls' := [.ref 0, .int x1, .int x2, .int x3, .int x4, .int x5, .int x6, .int s0]) d_X7_rule_66 rfl rfl).trans <| (mX_iload d_X7_rule_68 rfl).trans <| (mX_iload d_X7_rule_70 rfl).trans <| mX_icmp_lt d_X7_rule_72 rfl
theorem b_X7_rule_75 {x1 x2 x3 x4 x5 x6 x7 : Int32} {h h' : mn_H} {r : Option Value} : mn_E 82 75 [.ref 0, .int x1, .int x2, .int x3, .int x4, .int x5, .int x6, .int x7] [] h r h' ↔ if ¬ x7 = x4 then mn_E 82 98 [.ref 0, .int x1, .int x2, .int x3, .int x4, .int x5, .int x6, .int x7] [] h r h' else mn_E 82 82 [.ref 0, .int x1, .int x2, .int x3, .int x4, .int x5, .int x6, .int x7] [] h r h' :=
  (mX_iload d_X7_rule_75 rfl).trans <| (mX_iload d_X7_rule_77 rfl).trans <| mX_icmp_ne d_X7_rule_79 rfl
theorem b_X7_rule_82 {x1 x2 x3 x4 x5 x6 x7 : Int32} {h h' : mn_H} {r : Option Value} : mn_E 82 82 [.ref 0, .int x1, .int x2, .int x3, .int x4, .int x5, .int x6, .int x7] [] h r h' ↔ ∃ x h1, mn_X 190 [.int x3] h (some (.int x)) h1 ∧ mn_E 82 88 [.ref 0, .int x1, .int x2, .int x3, .int x4, .int x5, .int x6, .int x7] [.int x, .int x6] h1 r h' :=
  (mX_iload d_X7_rule_82 rfl).trans <| (mX_iload_n d_X7_rule_84 rfl).trans <| mS_i (vs := [.int x3]) (st' := [.int x6]) d_X7_rule_85 cs_82_245 (Or.inl rfl) (Nat.le_of_ble_eq_true rfl) rfl rfl rfl
theorem b_X7_rule_88 {x1 x2 x3 x4 x5 x6 x7 s0 s1 : Int32} {h h' : mn_H} {r : Option Value} : mn_E 82 88 [.ref 0, .int x1, .int x2, .int x3, .int x4, .int x5, .int x6, .int x7] [.int s0, .int s1] h r h' ↔ if s0 ≤ s1 then mn_E 82 98 [.ref 0, .int x1, .int x2, .int x3, .int x4, .int x5, .int x6, .int x7] [] h r h' else mn_E 82 91 [.ref 0, .int x1, .int x2, .int x3, .int x4, .int x5, .int x6, .int x7] [] h r h' :=
  mX_icmp_ge d_X7_rule_88 rfl
theorem b_X7_rule_91 {x1 x2 x3 x4 x5 x6 x7 : Int32} {h h' : mn_H} {r : Option Value} : mn_E 82 91 [.ref 0, .int x1, .int x2, .int x3, .int x4, .int x5, .int x6, .int x7] [] h r h' ↔ mn_E 82 98 [.ref 0, .int x1, .int x2, .int x5, .int x7, .int x5, .int x6, .int x7] [] h r h' :=
  (mX_iload d_X7_rule_91 rfl).trans <| (mX_istore (ls' := [.ref 0, .int x1, .int x2, .int x3, .int x7, .int x5, .int x6, .int x7]) d_X7_rule_93 rfl rfl).trans <| (mX_iload d_X7_rule_95 rfl).trans <| mX_istore_n (ls' := [.ref 0, .int x1, .int x2, .int x5, .int x7, .int x5, .int x6, .int x7]) d_X7_rule_97 rfl rfl
theorem b_X7_rule_98 {x1 x2 x3 x4 x5 x6 : Int32} {w7 : Value} {h h' : mn_H} {r : Option Value} : mn_E 82 98 [.ref 0, .int x1, .int x2, .int x3, .int x4, .int x5, .int x6, w7] [] h r h' ↔ mn_E 82 32 [.ref 0, .int x1, .int x2, .int x3, .int x4, .int (x5 + 1), .int x6, w7] [] h r h' :=
  (mX_iinc (ls' := [.ref 0, .int x1, .int x2, .int x3, .int x4, .int (x5 + 1), .int x6, w7]) d_X7_rule_98 rfl ci_1 rfl rfl).trans <| mX_goto d_X7_rule_101 rfl
theorem b_X7_rule_104 {x1 x2 x3 x4 x5 : Int32} {w6 w7 : Value} {h h' : mn_H} {r : Option Value} : mn_E 82 104 [.ref 0, .int x1, .int x2, .int x3, .int x4, .int x5, w6, w7] [] h r h' ↔ if ¬ x2 = 0 then mn_E 82 113 [.ref 0, .int x1, .int x2, .int x3, .int x4, .int x5, w6, w7] [] h r h' else mn_E 82 108 [.ref 0, .int x1, .int x2, .int x3, .int x4, .int x5, w6, w7] [] h r h' :=
  (mX_iload_n d_X7_rule_104 rfl).trans <| mX_if_ne d_X7_rule_105 rfl
theorem b_X7_rule_108 {x1 x2 x3 x4 x5 : Int32} {w6 w7 : Value} {h h' : mn_H} {r : Option Value} : mn_E 82 108 [.ref 0, .int x1, .int x2, .int x3, .int x4, .int x5, w6, w7] [] h r h' ↔ mn_E 82 114 [.ref 0, .int x1, .int x2, .int x3, .int x4, .int x5, w6, w7] [.int x4] h r h' :=
  (mX_iload d_X7_rule_108 rfl).trans <| mX_goto d_X7_rule_110 rfl
theorem b_X7_rule_113 {x1 x2 x3 x4 x5 : Int32} {w6 w7 : Value} {h h' : mn_H} {r : Option Value} : mn_E 82 113 [.ref 0, .int x1, .int x2, .int x3, .int x4, .int x5, w6, w7] [] h r h' ↔ mn_E 82 114 [.ref 0, .int x1, .int x2, .int x3, .int x4, .int x5, w6, w7] [.int x3] h r h' :=
  mX_iload_n d_X7_rule_113 rfl
theorem b_X7_rule_114 {x1 x2 x3 x4 x5 s0 : Int32} {w6 w7 : Value} {h h' : mn_H} {r : Option Value} : mn_E 82 114 [.ref 0, .int x1, .int x2, .int x3, .int x4, .int x5, w6, w7] [.int s0] h r h' ↔ r = some (.int s0) ∧ h' = h :=
  mX_iret d_X7_rule_114 rfl
-- X7_hush
theorem mo_83 : mO 83 = 7 := rfl
theorem d_X7_hush_0 : decode (mC 83) 0 = .ok (.iload_n 1, 1) := by decide +kernel
theorem d_X7_hush_1 : decode (mC 83) 1 = .ok (.invokestatic 249, 3) := by decide +kernel
theorem d_X7_hush_4 : decode (mC 83) 4 = .ok (.ifCond .eq 10, 3) := by decide +kernel
theorem d_X7_hush_7 : decode (mC 83) 7 = .ok (.iload_n 2, 1) := by decide +kernel
theorem d_X7_hush_8 : decode (mC 83) 8 = .ok (.invokestatic 215, 3) := by decide +kernel
theorem d_X7_hush_11 : decode (mC 83) 11 = .ok (.ifCond .ne 6, 3) := by decide +kernel
theorem d_X7_hush_14 : decode (mC 83) 14 = .ok (.ldc 58, 2) := by decide +kernel
theorem d_X7_hush_16 : decode (mC 83) 16 = .ok (.ireturn, 1) := by decide +kernel
theorem d_X7_hush_17 : decode (mC 83) 17 = .ok (.iconst (-1), 1) := by decide +kernel
theorem d_X7_hush_18 : decode (mC 83) 18 = .ok (.istore_n 3, 1) := by decide +kernel
theorem d_X7_hush_19 : decode (mC 83) 19 = .ok (.bipush 7, 2) := by decide +kernel
theorem d_X7_hush_21 : decode (mC 83) 21 = .ok (.istore 4, 2) := by decide +kernel
theorem d_X7_hush_23 : decode (mC 83) 23 = .ok (.iconst 0, 1) := by decide +kernel
theorem d_X7_hush_24 : decode (mC 83) 24 = .ok (.istore 5, 2) := by decide +kernel
theorem d_X7_hush_26 : decode (mC 83) 26 = .ok (.iload 5, 2) := by decide +kernel
theorem d_X7_hush_28 : decode (mC 83) 28 = .ok (.aload_n 0, 1) := by decide +kernel
theorem d_X7_hush_29 : decode (mC 83) 29 = .ok (.getfield 51, 3) := by decide +kernel
theorem d_X7_hush_32 : decode (mC 83) 32 = .ok (.invokevirtual 72, 3) := by decide +kernel
theorem d_X7_hush_35 : decode (mC 83) 35 = .ok (.if_icmp .gt 53, 3) := by decide +kernel
theorem d_X7_hush_38 : decode (mC 83) 38 = .ok (.iload 5, 2) := by decide +kernel
theorem d_X7_hush_40 : decode (mC 83) 40 = .ok (.invokestatic 245, 3) := by decide +kernel
theorem d_X7_hush_43 : decode (mC 83) 43 = .ok (.istore 6, 2) := by decide +kernel
theorem d_X7_hush_45 : decode (mC 83) 45 = .ok (.iload 5, 2) := by decide +kernel
theorem d_X7_hush_47 : decode (mC 83) 47 = .ok (.aload_n 0, 1) := by decide +kernel
theorem d_X7_hush_48 : decode (mC 83) 48 = .ok (.getfield 19, 3) := by decide +kernel
theorem d_X7_hush_51 : decode (mC 83) 51 = .ok (.getfield 120, 3) := by decide +kernel
theorem d_X7_hush_54 : decode (mC 83) 54 = .ok (.iand, 1) := by decide +kernel
theorem d_X7_hush_55 : decode (mC 83) 55 = .ok (.ifCond .ne 27, 3) := by decide +kernel
theorem d_X7_hush_58 : decode (mC 83) 58 = .ok (.iload 6, 2) := by decide +kernel
theorem d_X7_hush_60 : decode (mC 83) 60 = .ok (.iload 4, 2) := by decide +kernel
theorem d_X7_hush_62 : decode (mC 83) 62 = .ok (.if_icmp .ge 20, 3) := by decide +kernel
theorem d_X7_hush_65 : decode (mC 83) 65 = .ok (.aload_n 0, 1) := by decide +kernel
theorem d_X7_hush_66 : decode (mC 83) 66 = .ok (.iload_n 1, 1) := by decide +kernel
theorem d_X7_hush_67 : decode (mC 83) 67 = .ok (.iload 5, 2) := by decide +kernel
theorem d_X7_hush_69 : decode (mC 83) 69 = .ok (.invokevirtual 252, 3) := by decide +kernel
theorem d_X7_hush_72 : decode (mC 83) 72 = .ok (.ifCond .eq 10, 3) := by decide +kernel
theorem d_X7_hush_75 : decode (mC 83) 75 = .ok (.iload 6, 2) := by decide +kernel
theorem d_X7_hush_77 : decode (mC 83) 77 = .ok (.istore 4, 2) := by decide +kernel
theorem d_X7_hush_79 : decode (mC 83) 79 = .ok (.iload 5, 2) := by decide +kernel
theorem d_X7_hush_81 : decode (mC 83) 81 = .ok (.istore_n 3, 1) := by decide +kernel
theorem d_X7_hush_82 : decode (mC 83) 82 = .ok (.iinc 5 1, 3) := by decide +kernel
theorem d_X7_hush_85 : decode (mC 83) 85 = .ok (.goto (-59), 3) := by decide +kernel
theorem d_X7_hush_88 : decode (mC 83) 88 = .ok (.iload_n 3, 1) := by decide +kernel
theorem d_X7_hush_89 : decode (mC 83) 89 = .ok (.iconst (-1), 1) := by decide +kernel
theorem d_X7_hush_90 : decode (mC 83) 90 = .ok (.if_icmp .ne 7, 3) := by decide +kernel
theorem d_X7_hush_93 : decode (mC 83) 93 = .ok (.iconst (-1), 1) := by decide +kernel
theorem d_X7_hush_94 : decode (mC 83) 94 = .ok (.goto 13, 3) := by decide +kernel
theorem d_X7_hush_97 : decode (mC 83) 97 = .ok (.iload_n 2, 1) := by decide +kernel
theorem d_X7_hush_98 : decode (mC 83) 98 = .ok (.ifCond .ne 8, 3) := by decide +kernel
theorem d_X7_hush_101 : decode (mC 83) 101 = .ok (.iload 4, 2) := by decide +kernel
theorem d_X7_hush_103 : decode (mC 83) 103 = .ok (.goto 4, 3) := by decide +kernel
theorem d_X7_hush_106 : decode (mC 83) 106 = .ok (.iload_n 3, 1) := by decide +kernel
theorem d_X7_hush_107 : decode (mC 83) 107 = .ok (.ireturn, 1) := by decide +kernel
theorem cs_83_249 : mn_cs 83 7 249 100 = true := by decide +kernel
theorem cs_83_215 : mn_cs 83 7 215 101 = true := by decide +kernel
theorem fr_83_51 : mn_fr 83 7 51 7 6 = true := by decide +kernel
theorem cv_83_72 : mn_cvt 83 7 72 47 = true := by decide +kernel
theorem cs_83_245 : mn_cs 83 7 245 190 = true := by decide +kernel
theorem fr_83_19 : mn_fr 83 7 19 7 1 = true := by decide +kernel
theorem fi_83_120 : mn_fi 83 7 120 1 4 = true := by decide +kernel
theorem cv_83_252 : mn_cvt 83 7 252 107 = true := by decide +kernel
theorem b_X7_hush_0 {x1 x2 : Int32} {h h' : mn_H} {r : Option Value} : mn_E 83 0 [.ref 0, .int x1, .int x2, .null, .null, .null, .null] [] h r h' ↔ ∃ x h1, mn_X 100 [.int x1] h (some (.int x)) h1 ∧ mn_E 83 4 [.ref 0, .int x1, .int x2, .null, .null, .null, .null] [.int x] h1 r h' :=
  (mX_iload_n d_X7_hush_0 rfl).trans <| mS_i (vs := [.int x1]) (st' := []) d_X7_hush_1 cs_83_249 (Or.inr (Or.inl rfl)) (Nat.le_of_ble_eq_true rfl) rfl rfl rfl
theorem b_X7_hush_4 {x1 x2 s0 : Int32} {h h' : mn_H} {r : Option Value} : mn_E 83 4 [.ref 0, .int x1, .int x2, .null, .null, .null, .null] [.int s0] h r h' ↔ if s0 = 0 then mn_E 83 14 [.ref 0, .int x1, .int x2, .null, .null, .null, .null] [] h r h' else mn_E 83 7 [.ref 0, .int x1, .int x2, .null, .null, .null, .null] [] h r h' :=
  mX_if_eq d_X7_hush_4 rfl
theorem b_X7_hush_7 {x1 x2 : Int32} {h h' : mn_H} {r : Option Value} : mn_E 83 7 [.ref 0, .int x1, .int x2, .null, .null, .null, .null] [] h r h' ↔ ∃ x h1, mn_X 101 [.int x2] h (some (.int x)) h1 ∧ mn_E 83 11 [.ref 0, .int x1, .int x2, .null, .null, .null, .null] [.int x] h1 r h' :=
  (mX_iload_n d_X7_hush_7 rfl).trans <| mS_i (vs := [.int x2]) (st' := []) d_X7_hush_8 cs_83_215 (Or.inr (Or.inl rfl)) (Nat.le_of_ble_eq_true rfl) rfl rfl rfl
theorem b_X7_hush_11 {x1 x2 s0 : Int32} {h h' : mn_H} {r : Option Value} : mn_E 83 11 [.ref 0, .int x1, .int x2, .null, .null, .null, .null] [.int s0] h r h' ↔ if ¬ s0 = 0 then mn_E 83 17 [.ref 0, .int x1, .int x2, .null, .null, .null, .null] [] h r h' else mn_E 83 14 [.ref 0, .int x1, .int x2, .null, .null, .null, .null] [] h r h' :=
  mX_if_ne d_X7_hush_11 rfl
theorem b_X7_hush_14 {x1 x2 : Int32} {h h' : mn_H} {r : Option Value} : mn_E 83 14 [.ref 0, .int x1, .int x2, .null, .null, .null, .null] [] h r h' ↔ r = some (.int (-1000000002)) ∧ h' = h :=
  (mX_ldc d_X7_hush_14 mo_83 kc_7_58 (by decide)).trans <| mX_iret d_X7_hush_16 rfl
theorem b_X7_hush_17 {x1 x2 : Int32} {h h' : mn_H} {r : Option Value} : mn_E 83 17 [.ref 0, .int x1, .int x2, .null, .null, .null, .null] [] h r h' ↔ mn_E 83 26 [.ref 0, .int x1, .int x2, .int (-1), .int 7, .int 0, .null] [] h r h' :=
  (mX_iconst d_X7_hush_17 ci_m1).trans <| (mX_istore_n (ls' := [.ref 0, .int x1, .int x2, .int (-1), .null, .null, .null]) d_X7_hush_18 rfl rfl).trans <| (mX_bipush d_X7_hush_19 cb_7).trans <| (mX_istore (ls' := [.ref 0, .int x1, .int x2, .int (-1), .int 7, .null, .null]) d_X7_hush_21 rfl rfl).trans <| (mX_iconst d_X7_hush_23 ci_0).trans <| mX_istore (ls' := [.ref 0, .int x1, .int x2, .int (-1), .int 7, .int 0, .null]) d_X7_hush_24 rfl rfl
theorem b_X7_hush_26 {x1 x2 x3 x4 x5 : Int32} {w6 : Value} {h h' : mn_H} {r : Option Value} (hy0 : mn_isT (mn_hr h)) : mn_E 83 26 [.ref 0, .int x1, .int x2, .int x3, .int x4, .int x5, w6] [] h r h' ↔ ∃ x h1, mn_X 47 [.ref (mn_hr h)] h (some (.int x)) h1 ∧ mn_E 83 35 [.ref 0, .int x1, .int x2, .int x3, .int x4, .int x5, w6] [.int x, .int x5] h1 r h' :=
  (mX_iload d_X7_hush_26 rfl).trans <| (mX_aload_n d_X7_hush_28 rfl).trans <| (mG_r (b := (mn_hr h)) d_X7_hush_29 fr_83_51 rfl (by decide) rfl).trans <| mV_i (a := (mn_hr h)) (vs := []) (st' := [.int x5]) d_X7_hush_32 cv_83_72 (Or.inl rfl) (Nat.le_of_ble_eq_true rfl) rfl rfl (mn_shT0 hy0) rfl
theorem b_X7_hush_35 {x1 x2 x3 x4 x5 s0 s1 : Int32} {w6 : Value} {h h' : mn_H} {r : Option Value} : mn_E 83 35 [.ref 0, .int x1, .int x2, .int x3, .int x4, .int x5, w6] [.int s0, .int s1] h r h' ↔ if s0 < s1 then mn_E 83 88 [.ref 0, .int x1, .int x2, .int x3, .int x4, .int x5, w6] [] h r h' else mn_E 83 38 [.ref 0, .int x1, .int x2, .int x3, .int x4, .int x5, w6] [] h r h' :=
  mX_icmp_gt d_X7_hush_35 rfl
theorem b_X7_hush_38 {x1 x2 x3 x4 x5 : Int32} {w6 : Value} {h h' : mn_H} {r : Option Value} : mn_E 83 38 [.ref 0, .int x1, .int x2, .int x3, .int x4, .int x5, w6] [] h r h' ↔ ∃ x h1, mn_X 190 [.int x5] h (some (.int x)) h1 ∧ mn_E 83 43 [.ref 0, .int x1, .int x2, .int x3, .int x4, .int x5, w6] [.int x] h1 r h' :=
  (mX_iload d_X7_hush_38 rfl).trans <| mS_i (vs := [.int x5]) (st' := []) d_X7_hush_40 cs_83_245 (Or.inl rfl) (Nat.le_of_ble_eq_true rfl) rfl rfl rfl
theorem b_X7_hush_43 {x1 x2 x3 x4 x5 s0 : Int32} {w6 : Value} {h h' : mn_H} {r : Option Value} : mn_E 83 43 [.ref 0, .int x1, .int x2, .int x3, .int x4, .int x5, w6] [.int s0] h r h' ↔ if ¬ (x5 &&& (h 3 4)) = 0 then mn_E 83 82 [.ref 0, .int x1, .int x2, .int x3, .int x4, .int x5, .int s0] [] h r h' else mn_E 83 58 [.ref 0, .int x1, .int x2, .int x3, .int x4, .int x5, .int s0] [] h r h' :=
  (mX_istore (ls' := [.ref 0, .int x1, .int x2, .int x3, .int x4, .int x5, .int s0]) d_X7_hush_43 rfl rfl).trans <| (mX_iload d_X7_hush_45 rfl).trans <| (mX_aload_n d_X7_hush_47 rfl).trans <| (mG_r (b := 3) d_X7_hush_48 fr_83_19 rfl (by decide) rfl).trans <| (mG_i d_X7_hush_51 fi_83_120 rfl (by decide)).trans <| (mX_iand d_X7_hush_54).trans <| mX_if_ne d_X7_hush_55 rfl
theorem b_X7_hush_58 {x1 x2 x3 x4 x5 x6 : Int32} {h h' : mn_H} {r : Option Value} : mn_E 83 58 [.ref 0, .int x1, .int x2, .int x3, .int x4, .int x5, .int x6] [] h r h' ↔ if x4 ≤ x6 then mn_E 83 82 [.ref 0, .int x1, .int x2, .int x3, .int x4, .int x5, .int x6] [] h r h' else mn_E 83 65 [.ref 0, .int x1, .int x2, .int x3, .int x4, .int x5, .int x6] [] h r h' :=
  (mX_iload d_X7_hush_58 rfl).trans <| (mX_iload d_X7_hush_60 rfl).trans <| mX_icmp_ge d_X7_hush_62 rfl
theorem b_X7_hush_65 {x1 x2 x3 x4 x5 x6 : Int32} {h h' : mn_H} {r : Option Value} : mn_E 83 65 [.ref 0, .int x1, .int x2, .int x3, .int x4, .int x5, .int x6] [] h r h' ↔ ∃ x h1, mn_X 107 [.ref 0, .int x1, .int x5] h (some (.int x)) h1 ∧ mn_E 83 72 [.ref 0, .int x1, .int x2, .int x3, .int x4, .int x5, .int x6] [.int x] h1 r h' :=
  (mX_aload_n d_X7_hush_65 rfl).trans <| (mX_iload_n d_X7_hush_66 rfl).trans <| (mX_iload d_X7_hush_67 rfl).trans <| mV_i (a := 0) (vs := [.int x1, .int x5]) (st' := []) d_X7_hush_69 cv_83_252 (Or.inr (Or.inl rfl)) (Nat.le_of_ble_eq_true rfl) rfl rfl rfl rfl
theorem b_X7_hush_72 {x1 x2 x3 x4 x5 x6 s0 : Int32} {h h' : mn_H} {r : Option Value} : mn_E 83 72 [.ref 0, .int x1, .int x2, .int x3, .int x4, .int x5, .int x6] [.int s0] h r h' ↔ if s0 = 0 then mn_E 83 82 [.ref 0, .int x1, .int x2, .int x3, .int x4, .int x5, .int x6] [] h r h' else mn_E 83 75 [.ref 0, .int x1, .int x2, .int x3, .int x4, .int x5, .int x6] [] h r h' :=
  mX_if_eq d_X7_hush_72 rfl
theorem b_X7_hush_75 {x1 x2 x3 x4 x5 x6 : Int32} {h h' : mn_H} {r : Option Value} : mn_E 83 75 [.ref 0, .int x1, .int x2, .int x3, .int x4, .int x5, .int x6] [] h r h' ↔ mn_E 83 82 [.ref 0, .int x1, .int x2, .int x5, .int x6, .int x5, .int x6] [] h r h' :=
  (mX_iload d_X7_hush_75 rfl).trans <| (mX_istore (ls' := [.ref 0, .int x1, .int x2, .int x3, .int x6, .int x5, .int x6]) d_X7_hush_77 rfl rfl).trans <| (mX_iload d_X7_hush_79 rfl).trans <| mX_istore_n (ls' := [.ref 0, .int x1, .int x2, .int x5, .int x6, .int x5, .int x6]) d_X7_hush_81 rfl rfl
theorem b_X7_hush_82 {x1 x2 x3 x4 x5 x6 : Int32} {h h' : mn_H} {r : Option Value} : mn_E 83 82 [.ref 0, .int x1, .int x2, .int x3, .int x4, .int x5, .int x6] [] h r h' ↔ mn_E 83 26 [.ref 0, .int x1, .int x2, .int x3, .int x4, .int (x5 + 1), .int x6] [] h r h' :=
  (mX_iinc (ls' := [.ref 0, .int x1, .int x2, .int x3, .int x4, .int (x5 + 1), .int x6]) d_X7_hush_82 rfl ci_1 rfl rfl).trans <| mX_goto d_X7_hush_85 rfl
theorem b_X7_hush_88 {x1 x2 x3 x4 x5 : Int32} {w6 : Value} {h h' : mn_H} {r : Option Value} : mn_E 83 88 [.ref 0, .int x1, .int x2, .int x3, .int x4, .int x5, w6] [] h r h' ↔ if ¬ x3 = (-1) then mn_E 83 97 [.ref 0, .int x1, .int x2, .int x3, .int x4, .int x5, w6] [] h r h' else mn_E 83 93 [.ref 0, .int x1, .int x2, .int x3, .int x4, .int x5, w6] [] h r h' :=
  (mX_iload_n d_X7_hush_88 rfl).trans <| (mX_iconst d_X7_hush_89 ci_m1).trans <| mX_icmp_ne d_X7_hush_90 rfl
theorem b_X7_hush_93 {x1 x2 x3 x4 x5 : Int32} {w6 : Value} {h h' : mn_H} {r : Option Value} : mn_E 83 93 [.ref 0, .int x1, .int x2, .int x3, .int x4, .int x5, w6] [] h r h' ↔ mn_E 83 107 [.ref 0, .int x1, .int x2, .int x3, .int x4, .int x5, w6] [.int (-1)] h r h' :=
  (mX_iconst d_X7_hush_93 ci_m1).trans <| mX_goto d_X7_hush_94 rfl
theorem b_X7_hush_97 {x1 x2 x3 x4 x5 : Int32} {w6 : Value} {h h' : mn_H} {r : Option Value} : mn_E 83 97 [.ref 0, .int x1, .int x2, .int x3, .int x4, .int x5, w6] [] h r h' ↔ if ¬ x2 = 0 then mn_E 83 106 [.ref 0, .int x1, .int x2, .int x3, .int x4, .int x5, w6] [] h r h' else mn_E 83 101 [.ref 0, .int x1, .int x2, .int x3, .int x4, .int x5, w6] [] h r h' :=
  (mX_iload_n d_X7_hush_97 rfl).trans <| mX_if_ne d_X7_hush_98 rfl
theorem b_X7_hush_101 {x1 x2 x3 x4 x5 : Int32} {w6 : Value} {h h' : mn_H} {r : Option Value} : mn_E 83 101 [.ref 0, .int x1, .int x2, .int x3, .int x4, .int x5, w6] [] h r h' ↔ mn_E 83 107 [.ref 0, .int x1, .int x2, .int x3, .int x4, .int x5, w6] [.int x4] h r h' :=
  (mX_iload d_X7_hush_101 rfl).trans <| mX_goto d_X7_hush_103 rfl
theorem b_X7_hush_106 {x1 x2 x3 x4 x5 : Int32} {w6 : Value} {h h' : mn_H} {r : Option Value} : mn_E 83 106 [.ref 0, .int x1, .int x2, .int x3, .int x4, .int x5, w6] [] h r h' ↔ mn_E 83 107 [.ref 0, .int x1, .int x2, .int x3, .int x4, .int x5, w6] [.int x3] h r h' :=
  mX_iload_n d_X7_hush_106 rfl
theorem b_X7_hush_107 {x1 x2 x3 x4 x5 s0 : Int32} {w6 : Value} {h h' : mn_H} {r : Option Value} : mn_E 83 107 [.ref 0, .int x1, .int x2, .int x3, .int x4, .int x5, w6] [.int s0] h r h' ↔ r = some (.int s0) ∧ h' = h :=
  mX_iret d_X7_hush_107 rfl
-- X7_run
theorem mo_84 : mO 84 = 7 := rfl
theorem d_X7_run_0 : decode (mC 84) 0 = .ok (.aload_n 0, 1) := by decide +kernel
theorem d_X7_run_1 : decode (mC 84) 1 = .ok (.iload_n 1, 1) := by decide +kernel
theorem d_X7_run_2 : decode (mC 84) 2 = .ok (.invokevirtual 160, 3) := by decide +kernel
theorem d_X7_run_5 : decode (mC 84) 5 = .ok (.ifCond .ne 6, 3) := by decide +kernel
theorem d_X7_run_8 : decode (mC 84) 8 = .ok (.ldc 142, 2) := by decide +kernel
theorem d_X7_run_10 : decode (mC 84) 10 = .ok (.ireturn, 1) := by decide +kernel
theorem d_X7_run_11 : decode (mC 84) 11 = .ok (.iload_n 2, 1) := by decide +kernel
theorem d_X7_run_12 : decode (mC 84) 12 = .ok (.invokestatic 249, 3) := by decide +kernel
theorem d_X7_run_15 : decode (mC 84) 15 = .ok (.ifCond .ne 6, 3) := by decide +kernel
theorem d_X7_run_18 : decode (mC 84) 18 = .ok (.ldc 58, 2) := by decide +kernel
theorem d_X7_run_20 : decode (mC 84) 20 = .ok (.ireturn, 1) := by decide +kernel
theorem d_X7_run_21 : decode (mC 84) 21 = .ok (.iconst 0, 1) := by decide +kernel
theorem d_X7_run_22 : decode (mC 84) 22 = .ok (.istore_n 3, 1) := by decide +kernel
theorem d_X7_run_23 : decode (mC 84) 23 = .ok (.iconst 0, 1) := by decide +kernel
theorem d_X7_run_24 : decode (mC 84) 24 = .ok (.istore 4, 2) := by decide +kernel
theorem d_X7_run_26 : decode (mC 84) 26 = .ok (.iload 4, 2) := by decide +kernel
theorem d_X7_run_28 : decode (mC 84) 28 = .ok (.sipush 999, 3) := by decide +kernel
theorem d_X7_run_31 : decode (mC 84) 31 = .ok (.if_icmp .gt 70, 3) := by decide +kernel
theorem d_X7_run_34 : decode (mC 84) 34 = .ok (.iload_n 3, 1) := by decide +kernel
theorem d_X7_run_35 : decode (mC 84) 35 = .ok (.sipush 999, 3) := by decide +kernel
theorem d_X7_run_38 : decode (mC 84) 38 = .ok (.if_icmp .gt 63, 3) := by decide +kernel
theorem d_X7_run_41 : decode (mC 84) 41 = .ok (.aload_n 0, 1) := by decide +kernel
theorem d_X7_run_42 : decode (mC 84) 42 = .ok (.getfield 37, 3) := by decide +kernel
theorem d_X7_run_45 : decode (mC 84) 45 = .ok (.aload_n 0, 1) := by decide +kernel
theorem d_X7_run_46 : decode (mC 84) 46 = .ok (.getfield 51, 3) := by decide +kernel
theorem d_X7_run_49 : decode (mC 84) 49 = .ok (.aload_n 0, 1) := by decide +kernel
theorem d_X7_run_50 : decode (mC 84) 50 = .ok (.getfield 19, 3) := by decide +kernel
theorem d_X7_run_53 : decode (mC 84) 53 = .ok (.getfield 120, 3) := by decide +kernel
theorem d_X7_run_56 : decode (mC 84) 56 = .ok (.aload_n 0, 1) := by decide +kernel
theorem d_X7_run_57 : decode (mC 84) 57 = .ok (.getfield 19, 3) := by decide +kernel
theorem d_X7_run_60 : decode (mC 84) 60 = .ok (.getfield 123, 3) := by decide +kernel
theorem d_X7_run_63 : decode (mC 84) 63 = .ok (.iload_n 1, 1) := by decide +kernel
theorem d_X7_run_64 : decode (mC 84) 64 = .ok (.iload_n 3, 1) := by decide +kernel
theorem d_X7_run_65 : decode (mC 84) 65 = .ok (.invokevirtual 256, 3) := by decide +kernel
theorem d_X7_run_68 : decode (mC 84) 68 = .ok (.aload_n 0, 1) := by decide +kernel
theorem d_X7_run_69 : decode (mC 84) 69 = .ok (.invokevirtual 260, 3) := by decide +kernel
theorem d_X7_run_72 : decode (mC 84) 72 = .ok (.invokestatic 218, 3) := by decide +kernel
theorem d_X7_run_75 : decode (mC 84) 75 = .ok (.iload_n 2, 1) := by decide +kernel
theorem d_X7_run_76 : decode (mC 84) 76 = .ok (.ishr, 1) := by decide +kernel
theorem d_X7_run_77 : decode (mC 84) 77 = .ok (.iconst 1, 1) := by decide +kernel
theorem d_X7_run_78 : decode (mC 84) 78 = .ok (.iand, 1) := by decide +kernel
theorem d_X7_run_79 : decode (mC 84) 79 = .ok (.iconst 1, 1) := by decide +kernel
theorem d_X7_run_80 : decode (mC 84) 80 = .ok (.if_icmp .ne 5, 3) := by decide +kernel
theorem d_X7_run_83 : decode (mC 84) 83 = .ok (.iload_n 3, 1) := by decide +kernel
theorem d_X7_run_84 : decode (mC 84) 84 = .ok (.ireturn, 1) := by decide +kernel
theorem d_X7_run_85 : decode (mC 84) 85 = .ok (.iload_n 3, 1) := by decide +kernel
theorem d_X7_run_86 : decode (mC 84) 86 = .ok (.aload_n 0, 1) := by decide +kernel
theorem d_X7_run_87 : decode (mC 84) 87 = .ok (.getfield 37, 3) := by decide +kernel
theorem d_X7_run_90 : decode (mC 84) 90 = .ok (.invokevirtual 263, 3) := by decide +kernel
theorem d_X7_run_93 : decode (mC 84) 93 = .ok (.iadd, 1) := by decide +kernel
theorem d_X7_run_94 : decode (mC 84) 94 = .ok (.istore_n 3, 1) := by decide +kernel
theorem d_X7_run_95 : decode (mC 84) 95 = .ok (.iinc 4 1, 3) := by decide +kernel
theorem d_X7_run_98 : decode (mC 84) 98 = .ok (.goto (-72), 3) := by decide +kernel
theorem d_X7_run_101 : decode (mC 84) 101 = .ok (.iconst (-1), 1) := by decide +kernel
theorem d_X7_run_102 : decode (mC 84) 102 = .ok (.ireturn, 1) := by decide +kernel
theorem cv_84_160 : mn_cvt 84 7 160 97 = true := by decide +kernel
theorem cs_84_249 : mn_cs 84 7 249 100 = true := by decide +kernel
theorem fr_84_37 : mn_fr 84 7 37 7 4 = true := by decide +kernel
theorem fr_84_51 : mn_fr 84 7 51 7 6 = true := by decide +kernel
theorem fr_84_19 : mn_fr 84 7 19 7 1 = true := by decide +kernel
theorem fi_84_120 : mn_fi 84 7 120 1 4 = true := by decide +kernel
theorem fi_84_123 : mn_fi 84 7 123 1 5 = true := by decide +kernel
theorem cv_84_256 : mn_cvt 84 7 256 57 = true := by decide +kernel
theorem cv_84_260 : mn_cvt 84 7 260 103 = true := by decide +kernel
theorem cs_84_218 : mn_cs 84 7 218 109 = true := by decide +kernel
theorem cv_84_263 : mn_cvt 84 7 263 58 = true := by decide +kernel
theorem b_X7_run_0 {x1 x2 : Int32} {h h' : mn_H} {r : Option Value} : mn_E 84 0 [.ref 0, .int x1, .int x2, .null, .null] [] h r h' ↔ ∃ x h1, mn_X 97 [.ref 0, .int x1] h (some (.int x)) h1 ∧ mn_E 84 5 [.ref 0, .int x1, .int x2, .null, .null] [.int x] h1 r h' :=
  (mX_aload_n d_X7_run_0 rfl).trans <| (mX_iload_n d_X7_run_1 rfl).trans <| mV_i (a := 0) (vs := [.int x1]) (st' := []) d_X7_run_2 cv_84_160 (Or.inr (Or.inl rfl)) (Nat.le_of_ble_eq_true rfl) rfl rfl rfl rfl
theorem b_X7_run_5 {x1 x2 s0 : Int32} {h h' : mn_H} {r : Option Value} : mn_E 84 5 [.ref 0, .int x1, .int x2, .null, .null] [.int s0] h r h' ↔ if ¬ s0 = 0 then mn_E 84 11 [.ref 0, .int x1, .int x2, .null, .null] [] h r h' else mn_E 84 8 [.ref 0, .int x1, .int x2, .null, .null] [] h r h' :=
  mX_if_ne d_X7_run_5 rfl
theorem b_X7_run_8 {x1 x2 : Int32} {h h' : mn_H} {r : Option Value} : mn_E 84 8 [.ref 0, .int x1, .int x2, .null, .null] [] h r h' ↔ r = some (.int (-1000000001)) ∧ h' = h :=
  (mX_ldc d_X7_run_8 mo_84 kc_7_142 (by decide)).trans <| mX_iret d_X7_run_10 rfl
theorem b_X7_run_11 {x1 x2 : Int32} {h h' : mn_H} {r : Option Value} : mn_E 84 11 [.ref 0, .int x1, .int x2, .null, .null] [] h r h' ↔ ∃ x h1, mn_X 100 [.int x2] h (some (.int x)) h1 ∧ mn_E 84 15 [.ref 0, .int x1, .int x2, .null, .null] [.int x] h1 r h' :=
  (mX_iload_n d_X7_run_11 rfl).trans <| mS_i (vs := [.int x2]) (st' := []) d_X7_run_12 cs_84_249 (Or.inr (Or.inl rfl)) (Nat.le_of_ble_eq_true rfl) rfl rfl rfl
theorem b_X7_run_15 {x1 x2 s0 : Int32} {h h' : mn_H} {r : Option Value} : mn_E 84 15 [.ref 0, .int x1, .int x2, .null, .null] [.int s0] h r h' ↔ if ¬ s0 = 0 then mn_E 84 21 [.ref 0, .int x1, .int x2, .null, .null] [] h r h' else mn_E 84 18 [.ref 0, .int x1, .int x2, .null, .null] [] h r h' :=
  mX_if_ne d_X7_run_15 rfl
theorem b_X7_run_18 {x1 x2 : Int32} {h h' : mn_H} {r : Option Value} : mn_E 84 18 [.ref 0, .int x1, .int x2, .null, .null] [] h r h' ↔ r = some (.int (-1000000002)) ∧ h' = h :=
  (mX_ldc d_X7_run_18 mo_84 kc_7_58 (by decide)).trans <| mX_iret d_X7_run_20 rfl
theorem b_X7_run_21 {x1 x2 : Int32} {h h' : mn_H} {r : Option Value} : mn_E 84 21 [.ref 0, .int x1, .int x2, .null, .null] [] h r h' ↔ mn_E 84 26 [.ref 0, .int x1, .int x2, .int 0, .int 0] [] h r h' :=
  (mX_iconst d_X7_run_21 ci_0).trans <| (mX_istore_n (ls' := [.ref 0, .int x1, .int x2, .int 0, .null]) d_X7_run_22 rfl rfl).trans <| (mX_iconst d_X7_run_23 ci_0).trans <| mX_istore (ls' := [.ref 0, .int x1, .int x2, .int 0, .int 0]) d_X7_run_24 rfl rfl
theorem b_X7_run_26 {x1 x2 x3 x4 : Int32} {h h' : mn_H} {r : Option Value} : mn_E 84 26 [.ref 0, .int x1, .int x2, .int x3, .int x4] [] h r h' ↔ if (999 : Int32) < x4 then mn_E 84 101 [.ref 0, .int x1, .int x2, .int x3, .int x4] [] h r h' else mn_E 84 34 [.ref 0, .int x1, .int x2, .int x3, .int x4] [] h r h' :=
  (mX_iload d_X7_run_26 rfl).trans <| (mX_sipush d_X7_run_28 cs_999).trans <| mX_icmp_gt d_X7_run_31 rfl
theorem b_X7_run_34 {x1 x2 x3 x4 : Int32} {h h' : mn_H} {r : Option Value} : mn_E 84 34 [.ref 0, .int x1, .int x2, .int x3, .int x4] [] h r h' ↔ if (999 : Int32) < x3 then mn_E 84 101 [.ref 0, .int x1, .int x2, .int x3, .int x4] [] h r h' else mn_E 84 41 [.ref 0, .int x1, .int x2, .int x3, .int x4] [] h r h' :=
  (mX_iload_n d_X7_run_34 rfl).trans <| (mX_sipush d_X7_run_35 cs_999).trans <| mX_icmp_gt d_X7_run_38 rfl
theorem b_X7_run_41 {x1 x2 x3 x4 : Int32} {h h' : mn_H} {r : Option Value} (hy0 : mn_isT (mn_hr h)) : mn_E 84 41 [.ref 0, .int x1, .int x2, .int x3, .int x4] [] h r h' ↔ ∃ h1, mn_X 57 [.ref 16, .ref (mn_hr h), .int (h 3 4), .int (h 3 5), .int x1, .int x3] h none h1 ∧ mn_E 84 68 [.ref 0, .int x1, .int x2, .int x3, .int x4] [] h1 r h' :=
  (mX_aload_n d_X7_run_41 rfl).trans <| (mG_r (b := 16) d_X7_run_42 fr_84_37 rfl (by decide) rfl).trans <| (mX_aload_n d_X7_run_45 rfl).trans <| (mG_r (b := (mn_hr h)) d_X7_run_46 fr_84_51 rfl (by decide) rfl).trans <| (mX_aload_n d_X7_run_49 rfl).trans <| (mG_r (b := 3) d_X7_run_50 fr_84_19 rfl (by decide) rfl).trans <| (mG_i d_X7_run_53 fi_84_120 rfl (by decide)).trans <| (mX_aload_n d_X7_run_56 rfl).trans <| (mG_r (b := 3) d_X7_run_57 fr_84_19 rfl (by decide) rfl).trans <| (mG_i d_X7_run_60 fi_84_123 rfl (by decide)).trans <| (mX_iload_n d_X7_run_63 rfl).trans <| (mX_iload_n d_X7_run_64 rfl).trans <| mV_v (a := 16) (vs := [.ref (mn_hr h), .int (h 3 4), .int (h 3 5), .int x1, .int x3]) (st' := []) d_X7_run_65 cv_84_256 rfl (Nat.le_of_ble_eq_true rfl) rfl rfl rfl rfl
theorem b_X7_run_68 {x1 x2 x3 x4 : Int32} {h h' : mn_H} {r : Option Value} : mn_E 84 68 [.ref 0, .int x1, .int x2, .int x3, .int x4] [] h r h' ↔ ∃ x h1, mn_X 103 [.ref 0] h (some (.long x)) h1 ∧ mn_E 84 72 [.ref 0, .int x1, .int x2, .int x3, .int x4] [.long x] h1 r h' :=
  (mX_aload_n d_X7_run_68 rfl).trans <| mV_l (a := 0) (vs := []) (st' := []) d_X7_run_69 cv_84_260 rfl (Nat.le_of_ble_eq_true rfl) rfl rfl rfl rfl
theorem b_X7_run_72 {x1 x2 x3 x4 : Int32} {m0 : Int64} {h h' : mn_H} {r : Option Value} : mn_E 84 72 [.ref 0, .int x1, .int x2, .int x3, .int x4] [.long m0] h r h' ↔ ∃ x h1, mn_X 109 [.long m0] h (some (.int x)) h1 ∧ mn_E 84 75 [.ref 0, .int x1, .int x2, .int x3, .int x4] [.int x] h1 r h' :=
  mS_i (vs := [.long m0]) (st' := []) d_X7_run_72 cs_84_218 (Or.inl rfl) (Nat.le_of_ble_eq_true rfl) rfl rfl rfl
theorem b_X7_run_75 {x1 x2 x3 x4 s0 : Int32} {h h' : mn_H} {r : Option Value} : mn_E 84 75 [.ref 0, .int x1, .int x2, .int x3, .int x4] [.int s0] h r h' ↔ if ¬ ((s0 >>> (x2 &&& 31)) &&& 1) = 1 then mn_E 84 85 [.ref 0, .int x1, .int x2, .int x3, .int x4] [] h r h' else mn_E 84 83 [.ref 0, .int x1, .int x2, .int x3, .int x4] [] h r h' :=
  (mX_iload_n d_X7_run_75 rfl).trans <| (mX_ishr d_X7_run_76).trans <| (mX_iconst d_X7_run_77 ci_1).trans <| (mX_iand d_X7_run_78).trans <| (mX_iconst d_X7_run_79 ci_1).trans <| mX_icmp_ne d_X7_run_80 rfl
theorem b_X7_run_83 {x1 x2 x3 x4 : Int32} {h h' : mn_H} {r : Option Value} : mn_E 84 83 [.ref 0, .int x1, .int x2, .int x3, .int x4] [] h r h' ↔ r = some (.int x3) ∧ h' = h :=
  (mX_iload_n d_X7_run_83 rfl).trans <| mX_iret d_X7_run_84 rfl
theorem b_X7_run_85 {x1 x2 x3 x4 : Int32} {h h' : mn_H} {r : Option Value} : mn_E 84 85 [.ref 0, .int x1, .int x2, .int x3, .int x4] [] h r h' ↔ ∃ x h1, mn_X 58 [.ref 16] h (some (.int x)) h1 ∧ mn_E 84 93 [.ref 0, .int x1, .int x2, .int x3, .int x4] [.int x, .int x3] h1 r h' :=
  (mX_iload_n d_X7_run_85 rfl).trans <| (mX_aload_n d_X7_run_86 rfl).trans <| (mG_r (b := 16) d_X7_run_87 fr_84_37 rfl (by decide) rfl).trans <| mV_i (a := 16) (vs := []) (st' := [.int x3]) d_X7_run_90 cv_84_263 (Or.inl rfl) (Nat.le_of_ble_eq_true rfl) rfl rfl rfl rfl
theorem b_X7_run_93 {x1 x2 x3 x4 s0 s1 : Int32} {h h' : mn_H} {r : Option Value} : mn_E 84 93 [.ref 0, .int x1, .int x2, .int x3, .int x4] [.int s0, .int s1] h r h' ↔ mn_E 84 26 [.ref 0, .int x1, .int x2, .int (s1 + s0), .int (x4 + 1)] [] h r h' :=
  (mX_iadd d_X7_run_93).trans <| (mX_istore_n (ls' := [.ref 0, .int x1, .int x2, .int (s1 + s0), .int x4]) d_X7_run_94 rfl rfl).trans <| (mX_iinc (ls' := [.ref 0, .int x1, .int x2, .int (s1 + s0), .int (x4 + 1)]) d_X7_run_95 rfl ci_1 rfl rfl).trans <| mX_goto d_X7_run_98 rfl
theorem b_X7_run_101 {x1 x2 x3 x4 : Int32} {h h' : mn_H} {r : Option Value} : mn_E 84 101 [.ref 0, .int x1, .int x2, .int x3, .int x4] [] h r h' ↔ r = some (.int (-1)) ∧ h' = h :=
  (mX_iconst d_X7_run_101 ci_m1).trans <| mX_iret d_X7_run_102 rfl
-- X7_takes
theorem mo_85 : mO 85 = 7 := rfl
theorem d_X7_takes_0 : decode (mC 85) 0 = .ok (.iload_n 1, 1) := by decide +kernel
theorem d_X7_takes_1 : decode (mC 85) 1 = .ok (.invokestatic 215, 3) := by decide +kernel
theorem d_X7_takes_4 : decode (mC 85) 4 = .ok (.ifCond .ne 6, 3) := by decide +kernel
theorem d_X7_takes_7 : decode (mC 85) 7 = .ok (.ldc 58, 2) := by decide +kernel
theorem d_X7_takes_9 : decode (mC 85) 9 = .ok (.ireturn, 1) := by decide +kernel
theorem d_X7_takes_10 : decode (mC 85) 10 = .ok (.aload_n 0, 1) := by decide +kernel
theorem d_X7_takes_11 : decode (mC 85) 11 = .ok (.invokevirtual 207, 3) := by decide +kernel
theorem d_X7_takes_14 : decode (mC 85) 14 = .ok (.lstore_n 2, 1) := by decide +kernel
theorem d_X7_takes_15 : decode (mC 85) 15 = .ok (.iconst 0, 1) := by decide +kernel
theorem d_X7_takes_16 : decode (mC 85) 16 = .ok (.istore 4, 2) := by decide +kernel
theorem d_X7_takes_18 : decode (mC 85) 18 = .ok (.iconst 0, 1) := by decide +kernel
theorem d_X7_takes_19 : decode (mC 85) 19 = .ok (.istore 5, 2) := by decide +kernel
theorem d_X7_takes_21 : decode (mC 85) 21 = .ok (.iload 5, 2) := by decide +kernel
theorem d_X7_takes_23 : decode (mC 85) 23 = .ok (.bipush 6, 2) := by decide +kernel
theorem d_X7_takes_25 : decode (mC 85) 25 = .ok (.if_icmp .ge 31, 3) := by decide +kernel
theorem d_X7_takes_28 : decode (mC 85) 28 = .ok (.iload 4, 2) := by decide +kernel
theorem d_X7_takes_30 : decode (mC 85) 30 = .ok (.aload_n 0, 1) := by decide +kernel
theorem d_X7_takes_31 : decode (mC 85) 31 = .ok (.getfield 51, 3) := by decide +kernel
theorem d_X7_takes_34 : decode (mC 85) 34 = .ok (.getfield 266, 3) := by decide +kernel
theorem d_X7_takes_37 : decode (mC 85) 37 = .ok (.iload 5, 2) := by decide +kernel
theorem d_X7_takes_39 : decode (mC 85) 39 = .ok (.iaload, 1) := by decide +kernel
theorem d_X7_takes_40 : decode (mC 85) 40 = .ok (.lload_n 2, 1) := by decide +kernel
theorem d_X7_takes_41 : decode (mC 85) 41 = .ok (.iload 5, 2) := by decide +kernel
theorem d_X7_takes_43 : decode (mC 85) 43 = .ok (.invokestatic 269, 3) := by decide +kernel
theorem d_X7_takes_46 : decode (mC 85) 46 = .ok (.imul, 1) := by decide +kernel
theorem d_X7_takes_47 : decode (mC 85) 47 = .ok (.iadd, 1) := by decide +kernel
theorem d_X7_takes_48 : decode (mC 85) 48 = .ok (.istore 4, 2) := by decide +kernel
theorem d_X7_takes_50 : decode (mC 85) 50 = .ok (.iinc 5 1, 3) := by decide +kernel
theorem d_X7_takes_53 : decode (mC 85) 53 = .ok (.goto (-32), 3) := by decide +kernel
theorem d_X7_takes_56 : decode (mC 85) 56 = .ok (.lload_n 2, 1) := by decide +kernel
theorem d_X7_takes_57 : decode (mC 85) 57 = .ok (.invokestatic 133, 3) := by decide +kernel
theorem d_X7_takes_60 : decode (mC 85) 60 = .ok (.istore 5, 2) := by decide +kernel
theorem d_X7_takes_62 : decode (mC 85) 62 = .ok (.iconst 1, 1) := by decide +kernel
theorem d_X7_takes_63 : decode (mC 85) 63 = .ok (.iload 4, 2) := by decide +kernel
theorem d_X7_takes_65 : decode (mC 85) 65 = .ok (.invokestatic 272, 3) := by decide +kernel
theorem d_X7_takes_68 : decode (mC 85) 68 = .ok (.iload 5, 2) := by decide +kernel
theorem d_X7_takes_70 : decode (mC 85) 70 = .ok (.invokestatic 277, 3) := by decide +kernel
theorem d_X7_takes_73 : decode (mC 85) 73 = .ok (.invokestatic 280, 3) := by decide +kernel
theorem d_X7_takes_76 : decode (mC 85) 76 = .ok (.istore 6, 2) := by decide +kernel
theorem d_X7_takes_78 : decode (mC 85) 78 = .ok (.iload_n 1, 1) := by decide +kernel
theorem d_X7_takes_79 : decode (mC 85) 79 = .ok (.ifCond .ne 8, 3) := by decide +kernel
theorem d_X7_takes_82 : decode (mC 85) 82 = .ok (.iload 4, 2) := by decide +kernel
theorem d_X7_takes_84 : decode (mC 85) 84 = .ok (.goto 5, 3) := by decide +kernel
theorem d_X7_takes_87 : decode (mC 85) 87 = .ok (.iload 5, 2) := by decide +kernel
theorem d_X7_takes_89 : decode (mC 85) 89 = .ok (.iload 6, 2) := by decide +kernel
theorem d_X7_takes_91 : decode (mC 85) 91 = .ok (.idiv, 1) := by decide +kernel
theorem d_X7_takes_92 : decode (mC 85) 92 = .ok (.ireturn, 1) := by decide +kernel
theorem cs_85_215 : mn_cs 85 7 215 101 = true := by decide +kernel
theorem cv_85_207 : mn_cvt 85 7 207 104 = true := by decide +kernel
theorem fr_85_51 : mn_fr 85 7 51 7 6 = true := by decide +kernel
theorem fr_85_266 : mn_fr 85 7 266 5 15 = true := by decide +kernel
theorem cs_85_269 : mn_cs 85 7 269 108 = true := by decide +kernel
theorem cs_85_133 : mn_cs 85 7 133 191 = true := by decide +kernel
theorem ma_7_272 : mn_ml 7 272 = none ∧ mn_nl 7 272 = none ∧ mn_ma 7 272 = some 2 := by decide +kernel
theorem cs_85_277 : mn_cs 85 7 277 112 = true := by decide +kernel
theorem ma_7_280 : mn_ml 7 280 = none ∧ mn_nl 7 280 = none ∧ mn_ma 7 280 = some 0 := by decide +kernel
theorem b_X7_takes_0 {x1 : Int32} {h h' : mn_H} {r : Option Value} : mn_E 85 0 [.ref 0, .int x1, .null, .null, .null, .null, .null] [] h r h' ↔ ∃ x h1, mn_X 101 [.int x1] h (some (.int x)) h1 ∧ mn_E 85 4 [.ref 0, .int x1, .null, .null, .null, .null, .null] [.int x] h1 r h' :=
  (mX_iload_n d_X7_takes_0 rfl).trans <| mS_i (vs := [.int x1]) (st' := []) d_X7_takes_1 cs_85_215 (Or.inr (Or.inl rfl)) (Nat.le_of_ble_eq_true rfl) rfl rfl rfl
theorem b_X7_takes_4 {x1 s0 : Int32} {h h' : mn_H} {r : Option Value} : mn_E 85 4 [.ref 0, .int x1, .null, .null, .null, .null, .null] [.int s0] h r h' ↔ if ¬ s0 = 0 then mn_E 85 10 [.ref 0, .int x1, .null, .null, .null, .null, .null] [] h r h' else mn_E 85 7 [.ref 0, .int x1, .null, .null, .null, .null, .null] [] h r h' :=
  mX_if_ne d_X7_takes_4 rfl
theorem b_X7_takes_7 {x1 : Int32} {h h' : mn_H} {r : Option Value} : mn_E 85 7 [.ref 0, .int x1, .null, .null, .null, .null, .null] [] h r h' ↔ r = some (.int (-1000000002)) ∧ h' = h :=
  (mX_ldc d_X7_takes_7 mo_85 kc_7_58 (by decide)).trans <| mX_iret d_X7_takes_9 rfl
theorem b_X7_takes_10 {x1 : Int32} {h h' : mn_H} {r : Option Value} : mn_E 85 10 [.ref 0, .int x1, .null, .null, .null, .null, .null] [] h r h' ↔ ∃ x h1, mn_X 104 [.ref 0] h (some (.long x)) h1 ∧ mn_E 85 14 [.ref 0, .int x1, .null, .null, .null, .null, .null] [.long x] h1 r h' :=
  (mX_aload_n d_X7_takes_10 rfl).trans <| mV_l (a := 0) (vs := []) (st' := []) d_X7_takes_11 cv_85_207 rfl (Nat.le_of_ble_eq_true rfl) rfl rfl rfl rfl
theorem b_X7_takes_14 {x1 : Int32} {m0 : Int64} {h h' : mn_H} {r : Option Value} : mn_E 85 14 [.ref 0, .int x1, .null, .null, .null, .null, .null] [.long m0] h r h' ↔ mn_E 85 21 [.ref 0, .int x1, .long m0, .null, .int 0, .int 0, .null] [] h r h' :=
  (mX_lstore_n (ls' := [.ref 0, .int x1, .long m0, .null, .null, .null, .null]) d_X7_takes_14 rfl rfl).trans <| (mX_iconst d_X7_takes_15 ci_0).trans <| (mX_istore (ls' := [.ref 0, .int x1, .long m0, .null, .int 0, .null, .null]) d_X7_takes_16 rfl rfl).trans <| (mX_iconst d_X7_takes_18 ci_0).trans <| mX_istore (ls' := [.ref 0, .int x1, .long m0, .null, .int 0, .int 0, .null]) d_X7_takes_19 rfl rfl
theorem b_X7_takes_21 {x1 x4 x5 : Int32} {l2 : Int64} {h h' : mn_H} {r : Option Value} : mn_E 85 21 [.ref 0, .int x1, .long l2, .null, .int x4, .int x5, .null] [] h r h' ↔ if (6 : Int32) ≤ x5 then mn_E 85 56 [.ref 0, .int x1, .long l2, .null, .int x4, .int x5, .null] [] h r h' else mn_E 85 28 [.ref 0, .int x1, .long l2, .null, .int x4, .int x5, .null] [] h r h' :=
  (mX_iload d_X7_takes_21 rfl).trans <| (mX_bipush d_X7_takes_23 cb_6).trans <| mX_icmp_ge d_X7_takes_25 rfl
theorem b_X7_takes_28 {x1 x4 x5 : Int32} {l2 : Int64} {h h' : mn_H} {r : Option Value} (hy0 : mn_isT (mn_hr h)) (hy1 : vp_in x5 6) : mn_E 85 28 [.ref 0, .int x1, .long l2, .null, .int x4, .int x5, .null] [] h r h' ↔ ∃ x h1, mn_X 108 [.long l2, .int x5] h (some (.int x)) h1 ∧ mn_E 85 46 [.ref 0, .int x1, .long l2, .null, .int x4, .int x5, .null] [.int x, .int (h ((mn_hr h) + 19) x5.toNatClampNeg), .int x4] h1 r h' :=
  (mX_iload d_X7_takes_28 rfl).trans <| (mX_aload_n d_X7_takes_30 rfl).trans <| (mG_r (b := (mn_hr h)) d_X7_takes_31 fr_85_51 rfl (by decide) rfl).trans <| (mG_r (b := ((mn_hr h) + 19)) d_X7_takes_34 fr_85_266 (mn_shT0 hy0) (mn_ltT0 hy0) (mn_rfT15 hy0 _)).trans <| (mX_iload d_X7_takes_37 rfl).trans <| (mX_iaload d_X7_takes_39 (mn_shT19 hy0) (mn_ltT hy0 (by decide)) hy1).trans <| (mX_lload_n d_X7_takes_40 rfl).trans <| (mX_iload d_X7_takes_41 rfl).trans <| mS_i (vs := [.long l2, .int x5]) (st' := [.int (h ((mn_hr h) + 19) x5.toNatClampNeg), .int x4]) d_X7_takes_43 cs_85_269 (Or.inl rfl) (Nat.le_of_ble_eq_true rfl) rfl rfl rfl
theorem b_X7_takes_46 {x1 x4 x5 s0 s1 s2 : Int32} {l2 : Int64} {h h' : mn_H} {r : Option Value} : mn_E 85 46 [.ref 0, .int x1, .long l2, .null, .int x4, .int x5, .null] [.int s0, .int s1, .int s2] h r h' ↔ mn_E 85 21 [.ref 0, .int x1, .long l2, .null, .int (s2 + (s1 * s0)), .int (x5 + 1), .null] [] h r h' :=
  (mX_imul d_X7_takes_46).trans <| (mX_iadd d_X7_takes_47).trans <| (mX_istore (ls' := [.ref 0, .int x1, .long l2, .null, .int (s2 + (s1 * s0)), .int x5, .null]) d_X7_takes_48 rfl rfl).trans <| (mX_iinc (ls' := [.ref 0, .int x1, .long l2, .null, .int (s2 + (s1 * s0)), .int (x5 + 1), .null]) d_X7_takes_50 rfl ci_1 rfl rfl).trans <| mX_goto d_X7_takes_53 rfl
theorem b_X7_takes_56 {x1 x4 x5 : Int32} {l2 : Int64} {h h' : mn_H} {r : Option Value} : mn_E 85 56 [.ref 0, .int x1, .long l2, .null, .int x4, .int x5, .null] [] h r h' ↔ ∃ x h1, mn_X 191 [.long l2] h (some (.int x)) h1 ∧ mn_E 85 60 [.ref 0, .int x1, .long l2, .null, .int x4, .int x5, .null] [.int x] h1 r h' :=
  (mX_lload_n d_X7_takes_56 rfl).trans <| mS_i (vs := [.long l2]) (st' := []) d_X7_takes_57 cs_85_133 (Or.inl rfl) (Nat.le_of_ble_eq_true rfl) rfl rfl rfl
theorem b_X7_takes_60 {x1 x4 x5 s0 : Int32} {l2 : Int64} {h h' : mn_H} {r : Option Value} : mn_E 85 60 [.ref 0, .int x1, .long l2, .null, .int x4, .int x5, .null] [.int s0] h r h' ↔ ∃ x h1, mn_X 112 [.int (if (0 : Int32) ≤ x4 then x4 else 0 - x4), .int s0] h (some (.int x)) h1 ∧ mn_E 85 73 [.ref 0, .int x1, .long l2, .null, .int x4, .int s0, .null] [.int x, .int 1] h1 r h' :=
  (mX_istore (ls' := [.ref 0, .int x1, .long l2, .null, .int x4, .int s0, .null]) d_X7_takes_60 rfl rfl).trans <| (mX_iconst d_X7_takes_62 ci_1).trans <| (mX_iload d_X7_takes_63 rfl).trans <| (mX_abs d_X7_takes_65 mo_85 ma_7_272 (by decide)).trans <| (mX_iload d_X7_takes_68 rfl).trans <| mS_i (vs := [.int (if (0 : Int32) ≤ x4 then x4 else 0 - x4), .int s0]) (st' := [.int 1]) d_X7_takes_70 cs_85_277 (Or.inl rfl) (Nat.le_of_ble_eq_true rfl) rfl rfl rfl
theorem b_X7_takes_73 {x1 x4 x5 s0 s1 : Int32} {l2 : Int64} {h h' : mn_H} {r : Option Value} : mn_E 85 73 [.ref 0, .int x1, .long l2, .null, .int x4, .int x5, .null] [.int s0, .int s1] h r h' ↔ if ¬ x1 = 0 then mn_E 85 87 [.ref 0, .int x1, .long l2, .null, .int x4, .int x5, .int (if s1 < s0 then s0 else s1)] [] h r h' else mn_E 85 82 [.ref 0, .int x1, .long l2, .null, .int x4, .int x5, .int (if s1 < s0 then s0 else s1)] [] h r h' :=
  (mX_max d_X7_takes_73 mo_85 ma_7_280 (by decide)).trans <| (mX_istore (ls' := [.ref 0, .int x1, .long l2, .null, .int x4, .int x5, .int (if s1 < s0 then s0 else s1)]) d_X7_takes_76 rfl rfl).trans <| (mX_iload_n d_X7_takes_78 rfl).trans <| mX_if_ne d_X7_takes_79 rfl
theorem b_X7_takes_82 {x1 x4 x5 x6 : Int32} {l2 : Int64} {h h' : mn_H} {r : Option Value} : mn_E 85 82 [.ref 0, .int x1, .long l2, .null, .int x4, .int x5, .int x6] [] h r h' ↔ mn_E 85 89 [.ref 0, .int x1, .long l2, .null, .int x4, .int x5, .int x6] [.int x4] h r h' :=
  (mX_iload d_X7_takes_82 rfl).trans <| mX_goto d_X7_takes_84 rfl
theorem b_X7_takes_87 {x1 x4 x5 x6 : Int32} {l2 : Int64} {h h' : mn_H} {r : Option Value} : mn_E 85 87 [.ref 0, .int x1, .long l2, .null, .int x4, .int x5, .int x6] [] h r h' ↔ mn_E 85 89 [.ref 0, .int x1, .long l2, .null, .int x4, .int x5, .int x6] [.int x5] h r h' :=
  mX_iload d_X7_takes_87 rfl
theorem b_X7_takes_89 {x1 x4 x5 x6 s0 : Int32} {l2 : Int64} {h h' : mn_H} {r : Option Value} (hy0 : ¬ x6 = 0) : mn_E 85 89 [.ref 0, .int x1, .long l2, .null, .int x4, .int x5, .int x6] [.int s0] h r h' ↔ r = some (.int (s0 / x6)) ∧ h' = h :=
  (mX_iload d_X7_takes_89 rfl).trans <| (mX_idiv d_X7_takes_91 hy0).trans <| mX_iret d_X7_takes_92 rfl
-- X7_wire
theorem mo_86 : mO 86 = 7 := rfl
theorem d_X7_wire_0 : decode (mC 86) 0 = .ok (.aload_n 0, 1) := by decide +kernel
theorem d_X7_wire_1 : decode (mC 86) 1 = .ok (.iload_n 1, 1) := by decide +kernel
theorem d_X7_wire_2 : decode (mC 86) 2 = .ok (.invokevirtual 139, 3) := by decide +kernel
theorem d_X7_wire_5 : decode (mC 86) 5 = .ok (.ifCond .eq 16, 3) := by decide +kernel
theorem d_X7_wire_8 : decode (mC 86) 8 = .ok (.aload_n 0, 1) := by decide +kernel
theorem d_X7_wire_9 : decode (mC 86) 9 = .ok (.iload_n 2, 1) := by decide +kernel
theorem d_X7_wire_10 : decode (mC 86) 10 = .ok (.invokevirtual 139, 3) := by decide +kernel
theorem d_X7_wire_13 : decode (mC 86) 13 = .ok (.ifCond .eq 8, 3) := by decide +kernel
theorem d_X7_wire_16 : decode (mC 86) 16 = .ok (.iload_n 1, 1) := by decide +kernel
theorem d_X7_wire_17 : decode (mC 86) 17 = .ok (.iload_n 2, 1) := by decide +kernel
theorem d_X7_wire_18 : decode (mC 86) 18 = .ok (.if_icmp .ne 6, 3) := by decide +kernel
theorem d_X7_wire_21 : decode (mC 86) 21 = .ok (.ldc 142, 2) := by decide +kernel
theorem d_X7_wire_23 : decode (mC 86) 23 = .ok (.ireturn, 1) := by decide +kernel
theorem d_X7_wire_24 : decode (mC 86) 24 = .ok (.aload_n 0, 1) := by decide +kernel
theorem d_X7_wire_25 : decode (mC 86) 25 = .ok (.iload_n 1, 1) := by decide +kernel
theorem d_X7_wire_26 : decode (mC 86) 26 = .ok (.iload_n 2, 1) := by decide +kernel
theorem d_X7_wire_27 : decode (mC 86) 27 = .ok (.invokevirtual 129, 3) := by decide +kernel
theorem d_X7_wire_30 : decode (mC 86) 30 = .ok (.invokestatic 133, 3) := by decide +kernel
theorem d_X7_wire_33 : decode (mC 86) 33 = .ok (.ireturn, 1) := by decide +kernel
theorem cv_86_139 : mn_cvt 86 7 139 96 = true := by decide +kernel
theorem cv_86_129 : mn_cvt 86 7 129 105 = true := by decide +kernel
theorem cs_86_133 : mn_cs 86 7 133 191 = true := by decide +kernel
theorem b_X7_wire_0 {x1 x2 : Int32} {h h' : mn_H} {r : Option Value} : mn_E 86 0 [.ref 0, .int x1, .int x2] [] h r h' ↔ ∃ x h1, mn_X 96 [.ref 0, .int x1] h (some (.int x)) h1 ∧ mn_E 86 5 [.ref 0, .int x1, .int x2] [.int x] h1 r h' :=
  (mX_aload_n d_X7_wire_0 rfl).trans <| (mX_iload_n d_X7_wire_1 rfl).trans <| mV_i (a := 0) (vs := [.int x1]) (st' := []) d_X7_wire_2 cv_86_139 (Or.inr (Or.inl rfl)) (Nat.le_of_ble_eq_true rfl) rfl rfl rfl rfl
theorem b_X7_wire_5 {x1 x2 s0 : Int32} {h h' : mn_H} {r : Option Value} : mn_E 86 5 [.ref 0, .int x1, .int x2] [.int s0] h r h' ↔ if s0 = 0 then mn_E 86 21 [.ref 0, .int x1, .int x2] [] h r h' else mn_E 86 8 [.ref 0, .int x1, .int x2] [] h r h' :=
  mX_if_eq d_X7_wire_5 rfl
theorem b_X7_wire_8 {x1 x2 : Int32} {h h' : mn_H} {r : Option Value} : mn_E 86 8 [.ref 0, .int x1, .int x2] [] h r h' ↔ ∃ x h1, mn_X 96 [.ref 0, .int x2] h (some (.int x)) h1 ∧ mn_E 86 13 [.ref 0, .int x1, .int x2] [.int x] h1 r h' :=
  (mX_aload_n d_X7_wire_8 rfl).trans <| (mX_iload_n d_X7_wire_9 rfl).trans <| mV_i (a := 0) (vs := [.int x2]) (st' := []) d_X7_wire_10 cv_86_139 (Or.inr (Or.inl rfl)) (Nat.le_of_ble_eq_true rfl) rfl rfl rfl rfl
theorem b_X7_wire_13 {x1 x2 s0 : Int32} {h h' : mn_H} {r : Option Value} : mn_E 86 13 [.ref 0, .int x1, .int x2] [.int s0] h r h' ↔ if s0 = 0 then mn_E 86 21 [.ref 0, .int x1, .int x2] [] h r h' else mn_E 86 16 [.ref 0, .int x1, .int x2] [] h r h' :=
  mX_if_eq d_X7_wire_13 rfl
theorem b_X7_wire_16 {x1 x2 : Int32} {h h' : mn_H} {r : Option Value} : mn_E 86 16 [.ref 0, .int x1, .int x2] [] h r h' ↔ if ¬ x1 = x2 then mn_E 86 24 [.ref 0, .int x1, .int x2] [] h r h' else mn_E 86 21 [.ref 0, .int x1, .int x2] [] h r h' :=
  (mX_iload_n d_X7_wire_16 rfl).trans <| (mX_iload_n d_X7_wire_17 rfl).trans <| mX_icmp_ne d_X7_wire_18 rfl
theorem b_X7_wire_21 {x1 x2 : Int32} {h h' : mn_H} {r : Option Value} : mn_E 86 21 [.ref 0, .int x1, .int x2] [] h r h' ↔ r = some (.int (-1000000001)) ∧ h' = h :=
  (mX_ldc d_X7_wire_21 mo_86 kc_7_142 (by decide)).trans <| mX_iret d_X7_wire_23 rfl
theorem b_X7_wire_24 {x1 x2 : Int32} {h h' : mn_H} {r : Option Value} : mn_E 86 24 [.ref 0, .int x1, .int x2] [] h r h' ↔ ∃ x h1, mn_X 105 [.ref 0, .int x1, .int x2] h (some (.long x)) h1 ∧ mn_E 86 30 [.ref 0, .int x1, .int x2] [.long x] h1 r h' :=
  (mX_aload_n d_X7_wire_24 rfl).trans <| (mX_iload_n d_X7_wire_25 rfl).trans <| (mX_iload_n d_X7_wire_26 rfl).trans <| mV_l (a := 0) (vs := [.int x1, .int x2]) (st' := []) d_X7_wire_27 cv_86_129 rfl (Nat.le_of_ble_eq_true rfl) rfl rfl rfl rfl
theorem b_X7_wire_30 {x1 x2 : Int32} {m0 : Int64} {h h' : mn_H} {r : Option Value} : mn_E 86 30 [.ref 0, .int x1, .int x2] [.long m0] h r h' ↔ ∃ x h1, mn_X 191 [.long m0] h (some (.int x)) h1 ∧ mn_E 86 33 [.ref 0, .int x1, .int x2] [.int x] h1 r h' :=
  mS_i (vs := [.long m0]) (st' := []) d_X7_wire_30 cs_86_133 (Or.inl rfl) (Nat.le_of_ble_eq_true rfl) rfl rfl rfl
theorem b_X7_wire_33 {x1 x2 s0 : Int32} {h h' : mn_H} {r : Option Value} : mn_E 86 33 [.ref 0, .int x1, .int x2] [.int s0] h r h' ↔ r = some (.int s0) ∧ h' = h :=
  mX_iret d_X7_wire_33 rfl
-- X7_answers
theorem mo_87 : mO 87 = 7 := rfl
theorem d_X7_answers_0 : decode (mC 87) 0 = .ok (.iload_n 1, 1) := by decide +kernel
theorem d_X7_answers_1 : decode (mC 87) 1 = .ok (.invokestatic 215, 3) := by decide +kernel
theorem d_X7_answers_4 : decode (mC 87) 4 = .ok (.ifCond .ne 6, 3) := by decide +kernel
theorem d_X7_answers_7 : decode (mC 87) 7 = .ok (.ldc 58, 2) := by decide +kernel
theorem d_X7_answers_9 : decode (mC 87) 9 = .ok (.ireturn, 1) := by decide +kernel
theorem d_X7_answers_10 : decode (mC 87) 10 = .ok (.aload_n 0, 1) := by decide +kernel
theorem d_X7_answers_11 : decode (mC 87) 11 = .ok (.invokevirtual 195, 3) := by decide +kernel
theorem d_X7_answers_14 : decode (mC 87) 14 = .ok (.aload_n 0, 1) := by decide +kernel
theorem d_X7_answers_15 : decode (mC 87) 15 = .ok (.getfield 44, 3) := by decide +kernel
theorem d_X7_answers_18 : decode (mC 87) 18 = .ok (.aload_n 0, 1) := by decide +kernel
theorem d_X7_answers_19 : decode (mC 87) 19 = .ok (.getfield 51, 3) := by decide +kernel
theorem d_X7_answers_22 : decode (mC 87) 22 = .ok (.invokevirtual 283, 3) := by decide +kernel
theorem d_X7_answers_25 : decode (mC 87) 25 = .ok (.aload_n 0, 1) := by decide +kernel
theorem d_X7_answers_26 : decode (mC 87) 26 = .ok (.getfield 19, 3) := by decide +kernel
theorem d_X7_answers_29 : decode (mC 87) 29 = .ok (.getfield 111, 3) := by decide +kernel
theorem d_X7_answers_32 : decode (mC 87) 32 = .ok (.invokevirtual 286, 3) := by decide +kernel
theorem d_X7_answers_35 : decode (mC 87) 35 = .ok (.aload_n 0, 1) := by decide +kernel
theorem d_X7_answers_36 : decode (mC 87) 36 = .ok (.getfield 44, 3) := by decide +kernel
theorem d_X7_answers_39 : decode (mC 87) 39 = .ok (.aload_n 0, 1) := by decide +kernel
theorem d_X7_answers_40 : decode (mC 87) 40 = .ok (.getfield 51, 3) := by decide +kernel
theorem d_X7_answers_43 : decode (mC 87) 43 = .ok (.aload_n 0, 1) := by decide +kernel
theorem d_X7_answers_44 : decode (mC 87) 44 = .ok (.getfield 37, 3) := by decide +kernel
theorem d_X7_answers_47 : decode (mC 87) 47 = .ok (.aload_n 0, 1) := by decide +kernel
theorem d_X7_answers_48 : decode (mC 87) 48 = .ok (.getfield 19, 3) := by decide +kernel
theorem d_X7_answers_51 : decode (mC 87) 51 = .ok (.invokevirtual 114, 3) := by decide +kernel
theorem d_X7_answers_54 : decode (mC 87) 54 = .ok (.invokevirtual 289, 3) := by decide +kernel
theorem d_X7_answers_57 : decode (mC 87) 57 = .ok (.istore_n 2, 1) := by decide +kernel
theorem d_X7_answers_58 : decode (mC 87) 58 = .ok (.iload_n 1, 1) := by decide +kernel
theorem d_X7_answers_59 : decode (mC 87) 59 = .ok (.iconst 1, 1) := by decide +kernel
theorem d_X7_answers_60 : decode (mC 87) 60 = .ok (.if_icmp .ne 7, 3) := by decide +kernel
theorem d_X7_answers_63 : decode (mC 87) 63 = .ok (.iload_n 2, 1) := by decide +kernel
theorem d_X7_answers_64 : decode (mC 87) 64 = .ok (.goto 26, 3) := by decide +kernel
theorem d_X7_answers_67 : decode (mC 87) 67 = .ok (.aload_n 0, 1) := by decide +kernel
theorem d_X7_answers_68 : decode (mC 87) 68 = .ok (.getfield 44, 3) := by decide +kernel
theorem d_X7_answers_71 : decode (mC 87) 71 = .ok (.aload_n 0, 1) := by decide +kernel
theorem d_X7_answers_72 : decode (mC 87) 72 = .ok (.getfield 51, 3) := by decide +kernel
theorem d_X7_answers_75 : decode (mC 87) 75 = .ok (.aload_n 0, 1) := by decide +kernel
theorem d_X7_answers_76 : decode (mC 87) 76 = .ok (.getfield 37, 3) := by decide +kernel
theorem d_X7_answers_79 : decode (mC 87) 79 = .ok (.aload_n 0, 1) := by decide +kernel
theorem d_X7_answers_80 : decode (mC 87) 80 = .ok (.getfield 19, 3) := by decide +kernel
theorem d_X7_answers_83 : decode (mC 87) 83 = .ok (.invokevirtual 114, 3) := by decide +kernel
theorem d_X7_answers_86 : decode (mC 87) 86 = .ok (.iload_n 2, 1) := by decide +kernel
theorem d_X7_answers_87 : decode (mC 87) 87 = .ok (.invokevirtual 293, 3) := by decide +kernel
theorem d_X7_answers_90 : decode (mC 87) 90 = .ok (.ireturn, 1) := by decide +kernel
theorem cs_87_215 : mn_cs 87 7 215 101 = true := by decide +kernel
theorem cv_87_195 : mn_cvt 87 7 195 102 = true := by decide +kernel
theorem fr_87_44 : mn_fr 87 7 44 7 5 = true := by decide +kernel
theorem fr_87_51 : mn_fr 87 7 51 7 6 = true := by decide +kernel
theorem cv_87_283 : mn_cvt 87 7 283 54 = true := by decide +kernel
theorem fr_87_19 : mn_fr 87 7 19 7 1 = true := by decide +kernel
theorem fi_87_111 : mn_fi 87 7 111 1 2 = true := by decide +kernel
theorem cv_87_286 : mn_cvt 87 7 286 0 = true := by decide +kernel
theorem fr_87_37 : mn_fr 87 7 37 7 4 = true := by decide +kernel
theorem cv_87_114 : mn_cvt 87 7 114 6 = true := by decide +kernel
theorem cv_87_289 : mn_cvt 87 7 289 1 = true := by decide +kernel
theorem cv_87_293 : mn_cvt 87 7 293 2 = true := by decide +kernel
theorem b_X7_answers_0 {x1 : Int32} {h h' : mn_H} {r : Option Value} : mn_E 87 0 [.ref 0, .int x1, .null] [] h r h' ↔ ∃ x h1, mn_X 101 [.int x1] h (some (.int x)) h1 ∧ mn_E 87 4 [.ref 0, .int x1, .null] [.int x] h1 r h' :=
  (mX_iload_n d_X7_answers_0 rfl).trans <| mS_i (vs := [.int x1]) (st' := []) d_X7_answers_1 cs_87_215 (Or.inr (Or.inl rfl)) (Nat.le_of_ble_eq_true rfl) rfl rfl rfl
theorem b_X7_answers_4 {x1 s0 : Int32} {h h' : mn_H} {r : Option Value} : mn_E 87 4 [.ref 0, .int x1, .null] [.int s0] h r h' ↔ if ¬ s0 = 0 then mn_E 87 10 [.ref 0, .int x1, .null] [] h r h' else mn_E 87 7 [.ref 0, .int x1, .null] [] h r h' :=
  mX_if_ne d_X7_answers_4 rfl
theorem b_X7_answers_7 {x1 : Int32} {h h' : mn_H} {r : Option Value} : mn_E 87 7 [.ref 0, .int x1, .null] [] h r h' ↔ r = some (.int (-1000000002)) ∧ h' = h :=
  (mX_ldc d_X7_answers_7 mo_87 kc_7_58 (by decide)).trans <| mX_iret d_X7_answers_9 rfl
theorem b_X7_answers_10 {x1 : Int32} {h h' : mn_H} {r : Option Value} : mn_E 87 10 [.ref 0, .int x1, .null] [] h r h' ↔ ∃ h1, mn_X 102 [.ref 0] h none h1 ∧ mn_E 87 14 [.ref 0, .int x1, .null] [] h1 r h' :=
  (mX_aload_n d_X7_answers_10 rfl).trans <| mV_v (a := 0) (vs := []) (st' := []) d_X7_answers_11 cv_87_195 rfl (Nat.le_of_ble_eq_true rfl) rfl rfl rfl rfl
theorem b_X7_answers_14 {x1 : Int32} {h h' : mn_H} {r : Option Value} (hy0 : mn_isT (mn_hr h)) : mn_E 87 14 [.ref 0, .int x1, .null] [] h r h' ↔ ∃ x h1, mn_X 54 [.ref (mn_hr h)] h (some (.int x)) h1 ∧ mn_E 87 25 [.ref 0, .int x1, .null] [.int x, .ref 20] h1 r h' :=
  (mX_aload_n d_X7_answers_14 rfl).trans <| (mG_r (b := 20) d_X7_answers_15 fr_87_44 rfl (by decide) rfl).trans <| (mX_aload_n d_X7_answers_18 rfl).trans <| (mG_r (b := (mn_hr h)) d_X7_answers_19 fr_87_51 rfl (by decide) rfl).trans <| mV_i (a := (mn_hr h)) (vs := []) (st' := [.ref 20]) d_X7_answers_22 cv_87_283 (Or.inl rfl) (Nat.le_of_ble_eq_true rfl) rfl rfl (mn_shT0 hy0) rfl
theorem b_X7_answers_25 {x1 s0 : Int32} {h h' : mn_H} {r : Option Value} : mn_E 87 25 [.ref 0, .int x1, .null] [.int s0, .ref 20] h r h' ↔ ∃ h1, mn_X 0 [.ref 20, .int s0, .int (h 3 2)] h none h1 ∧ mn_E 87 35 [.ref 0, .int x1, .null] [] h1 r h' :=
  (mX_aload_n d_X7_answers_25 rfl).trans <| (mG_r (b := 3) d_X7_answers_26 fr_87_19 rfl (by decide) rfl).trans <| (mG_i d_X7_answers_29 fi_87_111 rfl (by decide)).trans <| mV_v (a := 20) (vs := [.int s0, .int (h 3 2)]) (st' := []) d_X7_answers_32 cv_87_286 rfl (Nat.le_of_ble_eq_true rfl) rfl rfl rfl rfl
theorem b_X7_answers_35 {x1 : Int32} {h h' : mn_H} {r : Option Value} (hy0 : mn_isT (mn_hr h)) : mn_E 87 35 [.ref 0, .int x1, .null] [] h r h' ↔ ∃ x h1, mn_X 6 [.ref 3] h (some (.int x)) h1 ∧ mn_E 87 54 [.ref 0, .int x1, .null] [.int x, .ref 16, .ref (mn_hr h), .ref 20] h1 r h' :=
  (mX_aload_n d_X7_answers_35 rfl).trans <| (mG_r (b := 20) d_X7_answers_36 fr_87_44 rfl (by decide) rfl).trans <| (mX_aload_n d_X7_answers_39 rfl).trans <| (mG_r (b := (mn_hr h)) d_X7_answers_40 fr_87_51 rfl (by decide) rfl).trans <| (mX_aload_n d_X7_answers_43 rfl).trans <| (mG_r (b := 16) d_X7_answers_44 fr_87_37 rfl (by decide) rfl).trans <| (mX_aload_n d_X7_answers_47 rfl).trans <| (mG_r (b := 3) d_X7_answers_48 fr_87_19 rfl (by decide) rfl).trans <| mV_i (a := 3) (vs := []) (st' := [.ref 16, .ref (mn_hr h), .ref 20]) d_X7_answers_51 cv_87_114 (Or.inl rfl) (Nat.le_of_ble_eq_true rfl) rfl rfl rfl rfl
theorem b_X7_answers_54 {x1 s0 : Int32} {bs2 : Nat} {h h' : mn_H} {r : Option Value} (hbs2 : mn_isT bs2) : mn_E 87 54 [.ref 0, .int x1, .null] [.int s0, .ref 16, .ref bs2, .ref 20] h r h' ↔ ∃ x h1, mn_X 1 [.ref 20, .ref bs2, .ref 16, .int s0] h (some (.int x)) h1 ∧ mn_E 87 57 [.ref 0, .int x1, .null] [.int x] h1 r h' :=
  mV_i (a := 20) (vs := [.ref bs2, .ref 16, .int s0]) (st' := []) d_X7_answers_54 cv_87_289 (Or.inl rfl) (Nat.le_of_ble_eq_true rfl) rfl rfl rfl rfl
theorem b_X7_answers_57 {x1 s0 : Int32} {h h' : mn_H} {r : Option Value} : mn_E 87 57 [.ref 0, .int x1, .null] [.int s0] h r h' ↔ if ¬ x1 = 1 then mn_E 87 67 [.ref 0, .int x1, .int s0] [] h r h' else mn_E 87 63 [.ref 0, .int x1, .int s0] [] h r h' :=
  (mX_istore_n (ls' := [.ref 0, .int x1, .int s0]) d_X7_answers_57 rfl rfl).trans <| (mX_iload_n d_X7_answers_58 rfl).trans <| (mX_iconst d_X7_answers_59 ci_1).trans <| mX_icmp_ne d_X7_answers_60 rfl
theorem b_X7_answers_63 {x1 x2 : Int32} {h h' : mn_H} {r : Option Value} : mn_E 87 63 [.ref 0, .int x1, .int x2] [] h r h' ↔ mn_E 87 90 [.ref 0, .int x1, .int x2] [.int x2] h r h' :=
  (mX_iload_n d_X7_answers_63 rfl).trans <| mX_goto d_X7_answers_64 rfl
theorem b_X7_answers_67 {x1 x2 : Int32} {h h' : mn_H} {r : Option Value} (hy0 : mn_isT (mn_hr h)) : mn_E 87 67 [.ref 0, .int x1, .int x2] [] h r h' ↔ ∃ x h1, mn_X 6 [.ref 3] h (some (.int x)) h1 ∧ mn_E 87 86 [.ref 0, .int x1, .int x2] [.int x, .ref 16, .ref (mn_hr h), .ref 20] h1 r h' :=
  (mX_aload_n d_X7_answers_67 rfl).trans <| (mG_r (b := 20) d_X7_answers_68 fr_87_44 rfl (by decide) rfl).trans <| (mX_aload_n d_X7_answers_71 rfl).trans <| (mG_r (b := (mn_hr h)) d_X7_answers_72 fr_87_51 rfl (by decide) rfl).trans <| (mX_aload_n d_X7_answers_75 rfl).trans <| (mG_r (b := 16) d_X7_answers_76 fr_87_37 rfl (by decide) rfl).trans <| (mX_aload_n d_X7_answers_79 rfl).trans <| (mG_r (b := 3) d_X7_answers_80 fr_87_19 rfl (by decide) rfl).trans <| mV_i (a := 3) (vs := []) (st' := [.ref 16, .ref (mn_hr h), .ref 20]) d_X7_answers_83 cv_87_114 (Or.inl rfl) (Nat.le_of_ble_eq_true rfl) rfl rfl rfl rfl
theorem b_X7_answers_86 {x1 x2 s0 : Int32} {bs2 : Nat} {h h' : mn_H} {r : Option Value} (hbs2 : mn_isT bs2) : mn_E 87 86 [.ref 0, .int x1, .int x2] [.int s0, .ref 16, .ref bs2, .ref 20] h r h' ↔ ∃ x h1, mn_X 2 [.ref 20, .ref bs2, .ref 16, .int s0, .int x2] h (some (.int x)) h1 ∧ mn_E 87 90 [.ref 0, .int x1, .int x2] [.int x] h1 r h' :=
  (mX_iload_n d_X7_answers_86 rfl).trans <| mV_i (a := 20) (vs := [.ref bs2, .ref 16, .int s0, .int x2]) (st' := []) d_X7_answers_87 cv_87_293 (Or.inl rfl) (Nat.le_of_ble_eq_true rfl) rfl rfl rfl rfl
theorem b_X7_answers_90 {x1 x2 s0 : Int32} {h h' : mn_H} {r : Option Value} : mn_E 87 90 [.ref 0, .int x1, .int x2] [.int s0] h r h' ↔ r = some (.int s0) ∧ h' = h :=
  mX_iret d_X7_answers_90 rfl
-- X7_send
theorem mo_88 : mO 88 = 7 := rfl
theorem d_X7_send_0 : decode (mC 88) 0 = .ok (.iload_n 1, 1) := by decide +kernel
theorem d_X7_send_1 : decode (mC 88) 1 = .ok (.ifCond .lt 16, 3) := by decide +kernel
theorem d_X7_send_4 : decode (mC 88) 4 = .ok (.iload_n 1, 1) := by decide +kernel
theorem d_X7_send_5 : decode (mC 88) 5 = .ok (.bipush 99, 2) := by decide +kernel
theorem d_X7_send_7 : decode (mC 88) 7 = .ok (.if_icmp .gt 10, 3) := by decide +kernel
theorem d_X7_send_10 : decode (mC 88) 10 = .ok (.iload_n 2, 1) := by decide +kernel
theorem d_X7_send_11 : decode (mC 88) 11 = .ok (.invokestatic 249, 3) := by decide +kernel
theorem d_X7_send_14 : decode (mC 88) 14 = .ok (.ifCond .ne 6, 3) := by decide +kernel
theorem d_X7_send_17 : decode (mC 88) 17 = .ok (.ldc 58, 2) := by decide +kernel
theorem d_X7_send_19 : decode (mC 88) 19 = .ok (.ireturn, 1) := by decide +kernel
theorem d_X7_send_20 : decode (mC 88) 20 = .ok (.aload_n 0, 1) := by decide +kernel
theorem d_X7_send_21 : decode (mC 88) 21 = .ok (.invokevirtual 207, 3) := by decide +kernel
theorem d_X7_send_24 : decode (mC 88) 24 = .ok (.lstore_n 3, 1) := by decide +kernel
theorem d_X7_send_25 : decode (mC 88) 25 = .ok (.iconst 0, 1) := by decide +kernel
theorem d_X7_send_26 : decode (mC 88) 26 = .ok (.istore 5, 2) := by decide +kernel
theorem d_X7_send_28 : decode (mC 88) 28 = .ok (.iconst 0, 1) := by decide +kernel
theorem d_X7_send_29 : decode (mC 88) 29 = .ok (.istore 6, 2) := by decide +kernel
theorem d_X7_send_31 : decode (mC 88) 31 = .ok (.iload 6, 2) := by decide +kernel
theorem d_X7_send_33 : decode (mC 88) 33 = .ok (.bipush 6, 2) := by decide +kernel
theorem d_X7_send_35 : decode (mC 88) 35 = .ok (.if_icmp .ge 20, 3) := by decide +kernel
theorem d_X7_send_38 : decode (mC 88) 38 = .ok (.iload 5, 2) := by decide +kernel
theorem d_X7_send_40 : decode (mC 88) 40 = .ok (.lload_n 3, 1) := by decide +kernel
theorem d_X7_send_41 : decode (mC 88) 41 = .ok (.iload 6, 2) := by decide +kernel
theorem d_X7_send_43 : decode (mC 88) 43 = .ok (.invokestatic 269, 3) := by decide +kernel
theorem d_X7_send_46 : decode (mC 88) 46 = .ok (.iadd, 1) := by decide +kernel
theorem d_X7_send_47 : decode (mC 88) 47 = .ok (.istore 5, 2) := by decide +kernel
theorem d_X7_send_49 : decode (mC 88) 49 = .ok (.iinc 6 1, 3) := by decide +kernel
theorem d_X7_send_52 : decode (mC 88) 52 = .ok (.goto (-21), 3) := by decide +kernel
theorem d_X7_send_55 : decode (mC 88) 55 = .ok (.iload 5, 2) := by decide +kernel
theorem d_X7_send_57 : decode (mC 88) 57 = .ok (.ifCond .gt 5, 3) := by decide +kernel
theorem d_X7_send_60 : decode (mC 88) 60 = .ok (.iconst 0, 1) := by decide +kernel
theorem d_X7_send_61 : decode (mC 88) 61 = .ok (.ireturn, 1) := by decide +kernel
theorem d_X7_send_62 : decode (mC 88) 62 = .ok (.lload_n 3, 1) := by decide +kernel
theorem d_X7_send_63 : decode (mC 88) 63 = .ok (.iload_n 2, 1) := by decide +kernel
theorem d_X7_send_64 : decode (mC 88) 64 = .ok (.invokestatic 269, 3) := by decide +kernel
theorem d_X7_send_67 : decode (mC 88) 67 = .ok (.iload_n 1, 1) := by decide +kernel
theorem d_X7_send_68 : decode (mC 88) 68 = .ok (.imul, 1) := by decide +kernel
theorem d_X7_send_69 : decode (mC 88) 69 = .ok (.istore 6, 2) := by decide +kernel
theorem d_X7_send_71 : decode (mC 88) 71 = .ok (.iload_n 1, 1) := by decide +kernel
theorem d_X7_send_72 : decode (mC 88) 72 = .ok (.istore 7, 2) := by decide +kernel
theorem d_X7_send_74 : decode (mC 88) 74 = .ok (.iconst 0, 1) := by decide +kernel
theorem d_X7_send_75 : decode (mC 88) 75 = .ok (.istore 8, 2) := by decide +kernel
theorem d_X7_send_77 : decode (mC 88) 77 = .ok (.iconst 0, 1) := by decide +kernel
theorem d_X7_send_78 : decode (mC 88) 78 = .ok (.istore 9, 2) := by decide +kernel
theorem d_X7_send_80 : decode (mC 88) 80 = .ok (.iload 9, 2) := by decide +kernel
theorem d_X7_send_82 : decode (mC 88) 82 = .ok (.bipush 6, 2) := by decide +kernel
theorem d_X7_send_84 : decode (mC 88) 84 = .ok (.if_icmp .ge 64, 3) := by decide +kernel
theorem d_X7_send_87 : decode (mC 88) 87 = .ok (.lload_n 3, 1) := by decide +kernel
theorem d_X7_send_88 : decode (mC 88) 88 = .ok (.iload 9, 2) := by decide +kernel
theorem d_X7_send_90 : decode (mC 88) 90 = .ok (.invokestatic 269, 3) := by decide +kernel
theorem d_X7_send_93 : decode (mC 88) 93 = .ok (.iload_n 1, 1) := by decide +kernel
theorem d_X7_send_94 : decode (mC 88) 94 = .ok (.imul, 1) := by decide +kernel
theorem d_X7_send_95 : decode (mC 88) 95 = .ok (.istore 10, 2) := by decide +kernel
theorem d_X7_send_97 : decode (mC 88) 97 = .ok (.iload 7, 2) := by decide +kernel
theorem d_X7_send_99 : decode (mC 88) 99 = .ok (.iload 10, 2) := by decide +kernel
theorem d_X7_send_101 : decode (mC 88) 101 = .ok (.iload 5, 2) := by decide +kernel
theorem d_X7_send_103 : decode (mC 88) 103 = .ok (.idiv, 1) := by decide +kernel
theorem d_X7_send_104 : decode (mC 88) 104 = .ok (.isub, 1) := by decide +kernel
theorem d_X7_send_105 : decode (mC 88) 105 = .ok (.istore 7, 2) := by decide +kernel
theorem d_X7_send_107 : decode (mC 88) 107 = .ok (.iload 10, 2) := by decide +kernel
theorem d_X7_send_109 : decode (mC 88) 109 = .ok (.iload 5, 2) := by decide +kernel
theorem d_X7_send_111 : decode (mC 88) 111 = .ok (.irem, 1) := by decide +kernel
theorem d_X7_send_112 : decode (mC 88) 112 = .ok (.iload 6, 2) := by decide +kernel
theorem d_X7_send_114 : decode (mC 88) 114 = .ok (.iload 5, 2) := by decide +kernel
theorem d_X7_send_116 : decode (mC 88) 116 = .ok (.irem, 1) := by decide +kernel
theorem d_X7_send_117 : decode (mC 88) 117 = .ok (.if_icmp .gt 22, 3) := by decide +kernel
theorem d_X7_send_120 : decode (mC 88) 120 = .ok (.iload 10, 2) := by decide +kernel
theorem d_X7_send_122 : decode (mC 88) 122 = .ok (.iload 5, 2) := by decide +kernel
theorem d_X7_send_124 : decode (mC 88) 124 = .ok (.irem, 1) := by decide +kernel
theorem d_X7_send_125 : decode (mC 88) 125 = .ok (.iload 6, 2) := by decide +kernel
theorem d_X7_send_127 : decode (mC 88) 127 = .ok (.iload 5, 2) := by decide +kernel
theorem d_X7_send_129 : decode (mC 88) 129 = .ok (.irem, 1) := by decide +kernel
theorem d_X7_send_130 : decode (mC 88) 130 = .ok (.if_icmp .ne 12, 3) := by decide +kernel
theorem d_X7_send_133 : decode (mC 88) 133 = .ok (.iload 9, 2) := by decide +kernel
theorem d_X7_send_135 : decode (mC 88) 135 = .ok (.iload_n 2, 1) := by decide +kernel
theorem d_X7_send_136 : decode (mC 88) 136 = .ok (.if_icmp .ge 6, 3) := by decide +kernel
theorem d_X7_send_139 : decode (mC 88) 139 = .ok (.iinc 8 1, 3) := by decide +kernel
theorem d_X7_send_142 : decode (mC 88) 142 = .ok (.iinc 9 1, 3) := by decide +kernel
theorem d_X7_send_145 : decode (mC 88) 145 = .ok (.goto (-65), 3) := by decide +kernel
theorem d_X7_send_148 : decode (mC 88) 148 = .ok (.iload 6, 2) := by decide +kernel
theorem d_X7_send_150 : decode (mC 88) 150 = .ok (.iload 5, 2) := by decide +kernel
theorem d_X7_send_152 : decode (mC 88) 152 = .ok (.idiv, 1) := by decide +kernel
theorem d_X7_send_153 : decode (mC 88) 153 = .ok (.iload 8, 2) := by decide +kernel
theorem d_X7_send_155 : decode (mC 88) 155 = .ok (.iload 7, 2) := by decide +kernel
theorem d_X7_send_157 : decode (mC 88) 157 = .ok (.if_icmp .ge 7, 3) := by decide +kernel
theorem d_X7_send_160 : decode (mC 88) 160 = .ok (.iconst 1, 1) := by decide +kernel
theorem d_X7_send_161 : decode (mC 88) 161 = .ok (.goto 4, 3) := by decide +kernel
theorem d_X7_send_164 : decode (mC 88) 164 = .ok (.iconst 0, 1) := by decide +kernel
theorem d_X7_send_165 : decode (mC 88) 165 = .ok (.iadd, 1) := by decide +kernel
theorem d_X7_send_166 : decode (mC 88) 166 = .ok (.ireturn, 1) := by decide +kernel
theorem cs_88_249 : mn_cs 88 7 249 100 = true := by decide +kernel
theorem cv_88_207 : mn_cvt 88 7 207 104 = true := by decide +kernel
theorem cs_88_269 : mn_cs 88 7 269 108 = true := by decide +kernel
theorem b_X7_send_0 {x1 x2 : Int32} {h h' : mn_H} {r : Option Value} : mn_E 88 0 [.ref 0, .int x1, .int x2, .null, .null, .null, .null, .null, .null, .null, .null] [] h r h' ↔ if x1 < 0 then mn_E 88 17 [.ref 0, .int x1, .int x2, .null, .null, .null, .null, .null, .null, .null, .null] [] h r h' else mn_E 88 4 [.ref 0, .int x1, .int x2, .null, .null, .null, .null, .null, .null, .null, .null] [] h r h' :=
  (mX_iload_n d_X7_send_0 rfl).trans <| mX_if_lt d_X7_send_1 rfl
theorem b_X7_send_4 {x1 x2 : Int32} {h h' : mn_H} {r : Option Value} : mn_E 88 4 [.ref 0, .int x1, .int x2, .null, .null, .null, .null, .null, .null, .null, .null] [] h r h' ↔ if (99 : Int32) < x1 then mn_E 88 17 [.ref 0, .int x1, .int x2, .null, .null, .null, .null, .null, .null, .null, .null] [] h r h' else mn_E 88 10 [.ref 0, .int x1, .int x2, .null, .null, .null, .null, .null, .null, .null, .null] [] h r h' :=
  (mX_iload_n d_X7_send_4 rfl).trans <| (mX_bipush d_X7_send_5 cb_99).trans <| mX_icmp_gt d_X7_send_7 rfl
theorem b_X7_send_10 {x1 x2 : Int32} {h h' : mn_H} {r : Option Value} : mn_E 88 10 [.ref 0, .int x1, .int x2, .null, .null, .null, .null, .null, .null, .null, .null] [] h r h' ↔ ∃ x h1, mn_X 100 [.int x2] h (some (.int x)) h1 ∧ mn_E 88 14 [.ref 0, .int x1, .int x2, .null, .null, .null, .null, .null, .null, .null, .null] [.int x] h1 r h' :=
  (mX_iload_n d_X7_send_10 rfl).trans <| mS_i (vs := [.int x2]) (st' := []) d_X7_send_11 cs_88_249 (Or.inr (Or.inl rfl)) (Nat.le_of_ble_eq_true rfl) rfl rfl rfl
theorem b_X7_send_14 {x1 x2 s0 : Int32} {h h' : mn_H} {r : Option Value} : mn_E 88 14 [.ref 0, .int x1, .int x2, .null, .null, .null, .null, .null, .null, .null, .null] [.int s0] h r h' ↔ if ¬ s0 = 0 then mn_E 88 20 [.ref 0, .int x1, .int x2, .null, .null, .null, .null, .null, .null, .null, .null] [] h r h' else mn_E 88 17 [.ref 0, .int x1, .int x2, .null, .null, .null, .null, .null, .null, .null, .null] [] h r h' :=
  mX_if_ne d_X7_send_14 rfl
theorem b_X7_send_17 {x1 x2 : Int32} {h h' : mn_H} {r : Option Value} : mn_E 88 17 [.ref 0, .int x1, .int x2, .null, .null, .null, .null, .null, .null, .null, .null] [] h r h' ↔ r = some (.int (-1000000002)) ∧ h' = h :=
  (mX_ldc d_X7_send_17 mo_88 kc_7_58 (by decide)).trans <| mX_iret d_X7_send_19 rfl
theorem b_X7_send_20 {x1 x2 : Int32} {h h' : mn_H} {r : Option Value} : mn_E 88 20 [.ref 0, .int x1, .int x2, .null, .null, .null, .null, .null, .null, .null, .null] [] h r h' ↔ ∃ x h1, mn_X 104 [.ref 0] h (some (.long x)) h1 ∧ mn_E 88 24 [.ref 0, .int x1, .int x2, .null, .null, .null, .null, .null, .null, .null, .null] [.long x] h1 r h' :=
  (mX_aload_n d_X7_send_20 rfl).trans <| mV_l (a := 0) (vs := []) (st' := []) d_X7_send_21 cv_88_207 rfl (Nat.le_of_ble_eq_true rfl) rfl rfl rfl rfl
theorem b_X7_send_24 {x1 x2 : Int32} {m0 : Int64} {h h' : mn_H} {r : Option Value} : mn_E 88 24 [.ref 0, .int x1, .int x2, .null, .null, .null, .null, .null, .null, .null, .null] [.long m0] h r h' ↔ mn_E 88 31 [.ref 0, .int x1, .int x2, .long m0, .null, .int 0, .int 0, .null, .null, .null, .null] [] h r h' :=
  (mX_lstore_n (ls' := [.ref 0, .int x1, .int x2, .long m0, .null, .null, .null, .null, .null, .null, .null]) d_X7_send_24 rfl rfl).trans <| (mX_iconst d_X7_send_25 ci_0).trans <| (mX_istore (ls' := [.ref 0, .int x1, .int x2, .long m0, .null, .int 0, .null, .null, .null, .null, .null]) d_X7_send_26 rfl rfl).trans <| (mX_iconst d_X7_send_28 ci_0).trans <| mX_istore (ls' := [.ref 0, .int x1, .int x2, .long m0, .null, .int 0, .int 0, .null, .null, .null, .null]) d_X7_send_29 rfl rfl
theorem b_X7_send_31 {x1 x2 x5 x6 : Int32} {l3 : Int64} {h h' : mn_H} {r : Option Value} : mn_E 88 31 [.ref 0, .int x1, .int x2, .long l3, .null, .int x5, .int x6, .null, .null, .null, .null] [] h r h' ↔ if (6 : Int32) ≤ x6 then mn_E 88 55 [.ref 0, .int x1, .int x2, .long l3, .null, .int x5, .int x6, .null, .null, .null, .null] [] h r h' else mn_E 88 38 [.ref 0, .int x1, .int x2, .long l3, .null, .int x5, .int x6, .null, .null, .null, .null] [] h r h' :=
  (mX_iload d_X7_send_31 rfl).trans <| (mX_bipush d_X7_send_33 cb_6).trans <| mX_icmp_ge d_X7_send_35 rfl
theorem b_X7_send_38 {x1 x2 x5 x6 : Int32} {l3 : Int64} {h h' : mn_H} {r : Option Value} : mn_E 88 38 [.ref 0, .int x1, .int x2, .long l3, .null, .int x5, .int x6, .null, .null, .null, .null] [] h r h' ↔ ∃ x h1, mn_X 108 [.long l3, .int x6] h (some (.int x)) h1 ∧ mn_E 88 46 [.ref 0, .int x1, .int x2, .long l3, .null, .int x5, .int x6, .null, .null, .null, .null] [.int x, .int x5] h1 r h' :=
  (mX_iload d_X7_send_38 rfl).trans <| (mX_lload_n d_X7_send_40 rfl).trans <| (mX_iload d_X7_send_41 rfl).trans <| mS_i (vs := [.long l3, .int x6]) (st' := [.int x5]) d_X7_send_43 cs_88_269 (Or.inl rfl) (Nat.le_of_ble_eq_true rfl) rfl rfl rfl
theorem b_X7_send_46 {x1 x2 x5 x6 s0 s1 : Int32} {l3 : Int64} {h h' : mn_H} {r : Option Value} : mn_E 88 46 [.ref 0, .int x1, .int x2, .long l3, .null, .int x5, .int x6, .null, .null, .null, .null] [.int s0, .int s1] h r h' ↔ mn_E 88 31 [.ref 0, .int x1, .int x2, .long l3, .null, .int (s1 + s0), .int (x6 + 1), .null, .null, .null, .null] [] h r h' :=
  (mX_iadd d_X7_send_46).trans <| (mX_istore (ls' := [.ref 0, .int x1, .int x2, .long l3, .null, .int (s1 + s0), .int x6, .null, .null, .null, .null]) d_X7_send_47 rfl rfl).trans <| (mX_iinc (ls' := [.ref 0, .int x1, .int x2, .long l3, .null, .int (s1 + s0), .int (x6 + 1), .null, .null, .null, .null]) d_X7_send_49 rfl ci_1 rfl rfl).trans <| mX_goto d_X7_send_52 rfl
theorem b_X7_send_55 {x1 x2 x5 x6 : Int32} {l3 : Int64} {h h' : mn_H} {r : Option Value} : mn_E 88 55 [.ref 0, .int x1, .int x2, .long l3, .null, .int x5, .int x6, .null, .null, .null, .null] [] h r h' ↔ if (0 : Int32) < x5 then mn_E 88 62 [.ref 0, .int x1, .int x2, .long l3, .null, .int x5, .int x6, .null, .null, .null, .null] [] h r h' else mn_E 88 60 [.ref 0, .int x1, .int x2, .long l3, .null, .int x5, .int x6, .null, .null, .null, .null] [] h r h' :=
  (mX_iload d_X7_send_55 rfl).trans <| mX_if_gt d_X7_send_57 rfl
theorem b_X7_send_60 {x1 x2 x5 x6 : Int32} {l3 : Int64} {h h' : mn_H} {r : Option Value} : mn_E 88 60 [.ref 0, .int x1, .int x2, .long l3, .null, .int x5, .int x6, .null, .null, .null, .null] [] h r h' ↔ r = some (.int 0) ∧ h' = h :=
  (mX_iconst d_X7_send_60 ci_0).trans <| mX_iret d_X7_send_61 rfl
theorem b_X7_send_62 {x1 x2 x5 x6 : Int32} {l3 : Int64} {h h' : mn_H} {r : Option Value} : mn_E 88 62 [.ref 0, .int x1, .int x2, .long l3, .null, .int x5, .int x6, .null, .null, .null, .null] [] h r h' ↔ ∃ x h1, mn_X 108 [.long l3, .int x2] h (some (.int x)) h1 ∧ mn_E 88 67 [.ref 0, .int x1, .int x2, .long l3, .null, .int x5, .int x6, .null, .null, .null, .null] [.int x] h1 r h' :=
  (mX_lload_n d_X7_send_62 rfl).trans <| (mX_iload_n d_X7_send_63 rfl).trans <| mS_i (vs := [.long l3, .int x2]) (st' := []) d_X7_send_64 cs_88_269 (Or.inl rfl) (Nat.le_of_ble_eq_true rfl) rfl rfl rfl
theorem b_X7_send_67 {x1 x2 x5 x6 s0 : Int32} {l3 : Int64} {h h' : mn_H} {r : Option Value} : mn_E 88 67 [.ref 0, .int x1, .int x2, .long l3, .null, .int x5, .int x6, .null, .null, .null, .null] [.int s0] h r h' ↔ mn_E 88 80 [.ref 0, .int x1, .int x2, .long l3, .null, .int x5, .int (s0 * x1), .int x1, .int 0, .int 0, .null] [] h r h' :=
  (mX_iload_n d_X7_send_67 rfl).trans <| (mX_imul d_X7_send_68).trans <| (mX_istore (ls' := [.ref 0, .int x1, .int x2, .long l3, .null, .int x5, .int (s0 * x1), .null, .null, .null, .null]) d_X7_send_69 rfl rfl).trans <| (mX_iload_n d_X7_send_71 rfl).trans <| (mX_istore (ls' := [.ref 0, .int x1, .int x2, .long l3, .null, .int x5, .int (s0 * x1), .int x1, .null, .null, .null]) d_X7_send_72 rfl rfl).trans <| (mX_iconst d_X7_send_74 ci_0).trans <| (mX_istore (ls' := [.ref 0, .int x1, .int x2, .long l3, .null, .int x5, .int (s0 * x1), .int x1, .int 0, .null, .null]) d_X7_send_75 rfl rfl).trans <| (mX_iconst d_X7_send_77 ci_0).trans <| mX_istore (ls' := [.ref 0, .int x1, .int x2, .long l3, .null, .int x5, .int (s0 * x1), .int x1, .int 0, .int 0, .null]) d_X7_send_78 rfl rfl
theorem b_X7_send_80 {x1 x2 x5 x6 x7 x8 x9 : Int32} {l3 : Int64} {w10 : Value} {h h' : mn_H} {r : Option Value} : mn_E 88 80 [.ref 0, .int x1, .int x2, .long l3, .null, .int x5, .int x6, .int x7, .int x8, .int x9, w10] [] h r h' ↔ if (6 : Int32) ≤ x9 then mn_E 88 148 [.ref 0, .int x1, .int x2, .long l3, .null, .int x5, .int x6, .int x7, .int x8, .int x9, w10] [] h r h' else mn_E 88 87 [.ref 0, .int x1, .int x2, .long l3, .null, .int x5, .int x6, .int x7, .int x8, .int x9, w10] [] h r h' :=
  (mX_iload d_X7_send_80 rfl).trans <| (mX_bipush d_X7_send_82 cb_6).trans <| mX_icmp_ge d_X7_send_84 rfl
theorem b_X7_send_87 {x1 x2 x5 x6 x7 x8 x9 : Int32} {l3 : Int64} {w10 : Value} {h h' : mn_H} {r : Option Value} : mn_E 88 87 [.ref 0, .int x1, .int x2, .long l3, .null, .int x5, .int x6, .int x7, .int x8, .int x9, w10] [] h r h' ↔ ∃ x h1, mn_X 108 [.long l3, .int x9] h (some (.int x)) h1 ∧ mn_E 88 93 [.ref 0, .int x1, .int x2, .long l3, .null, .int x5, .int x6, .int x7, .int x8, .int x9, w10] [.int x] h1 r h' :=
  (mX_lload_n d_X7_send_87 rfl).trans <| (mX_iload d_X7_send_88 rfl).trans <| mS_i (vs := [.long l3, .int x9]) (st' := []) d_X7_send_90 cs_88_269 (Or.inl rfl) (Nat.le_of_ble_eq_true rfl) rfl rfl rfl
theorem b_X7_send_93 {x1 x2 x5 x6 x7 x8 x9 s0 : Int32} {l3 : Int64} {w10 : Value} {h h' : mn_H} {r : Option Value} (hy0 : ¬ x5 = 0) : mn_E 88 93 [.ref 0, .int x1, .int x2, .long l3, .null, .int x5, .int x6, .int x7, .int x8, .int x9, w10] [.int s0] h r h' ↔ if (x6 - x6 / x5 * x5) < ((s0 * x1) - (s0 * x1) / x5 * x5) then mn_E 88 139 [.ref 0, .int x1, .int x2, .long l3, .null, .int x5, .int x6, .int (x7 - ((s0 * x1) / x5)), .int x8, .int x9, .int (s0 * x1)] [] h r h' else mn_E 88 120 [.ref 0, .int x1, .int x2, .long l3, .null, .int x5, .int x6, .int (x7 - ((s0 * x1) / x5)), .int x8, .int x9, .int (s0 * x1)] [] h r h' :=
  (mX_iload_n d_X7_send_93 rfl).trans <| (mX_imul d_X7_send_94).trans <| (mX_istore (ls' := [.ref 0, .int x1, .int x2, .long l3, .null, .int x5, .int x6, .int x7, .int x8, .int x9, .int (s0 * x1)]) d_X7_send_95 rfl rfl).trans <| (mX_iload d_X7_send_97 rfl).trans <| (mX_iload d_X7_send_99 rfl).trans <| (mX_iload d_X7_send_101 rfl).trans <| (mX_idiv d_X7_send_103 hy0).trans <| (mX_isub d_X7_send_104).trans <| (mX_istore (ls' := [.ref 0, .int x1, .int x2, .long l3, .null, .int x5, .int x6, .int (x7 - ((s0 * x1) / x5)), .int x8, .int x9, .int (s0 * x1)]) d_X7_send_105 rfl rfl).trans <| (mX_iload d_X7_send_107 rfl).trans <| (mX_iload d_X7_send_109 rfl).trans <| (mX_irem d_X7_send_111 hy0).trans <| (mX_iload d_X7_send_112 rfl).trans <| (mX_iload d_X7_send_114 rfl).trans <| (mX_irem d_X7_send_116 hy0).trans <| mX_icmp_gt d_X7_send_117 rfl
theorem b_X7_send_120 {x1 x2 x5 x6 x7 x8 x9 x10 : Int32} {l3 : Int64} {h h' : mn_H} {r : Option Value} (hy0 : ¬ x5 = 0) : mn_E 88 120 [.ref 0, .int x1, .int x2, .long l3, .null, .int x5, .int x6, .int x7, .int x8, .int x9, .int x10] [] h r h' ↔ if ¬ (x10 - x10 / x5 * x5) = (x6 - x6 / x5 * x5) then mn_E 88 142 [.ref 0, .int x1, .int x2, .long l3, .null, .int x5, .int x6, .int x7, .int x8, .int x9, .int x10] [] h r h' else mn_E 88 133 [.ref 0, .int x1, .int x2, .long l3, .null, .int x5, .int x6, .int x7, .int x8, .int x9, .int x10] [] h r h' :=
  (mX_iload d_X7_send_120 rfl).trans <| (mX_iload d_X7_send_122 rfl).trans <| (mX_irem d_X7_send_124 hy0).trans <| (mX_iload d_X7_send_125 rfl).trans <| (mX_iload d_X7_send_127 rfl).trans <| (mX_irem d_X7_send_129 hy0).trans <| mX_icmp_ne d_X7_send_130 rfl
theorem b_X7_send_133 {x1 x2 x5 x6 x7 x8 x9 x10 : Int32} {l3 : Int64} {h h' : mn_H} {r : Option Value} : mn_E 88 133 [.ref 0, .int x1, .int x2, .long l3, .null, .int x5, .int x6, .int x7, .int x8, .int x9, .int x10] [] h r h' ↔ if x2 ≤ x9 then mn_E 88 142 [.ref 0, .int x1, .int x2, .long l3, .null, .int x5, .int x6, .int x7, .int x8, .int x9, .int x10] [] h r h' else mn_E 88 139 [.ref 0, .int x1, .int x2, .long l3, .null, .int x5, .int x6, .int x7, .int x8, .int x9, .int x10] [] h r h' :=
  (mX_iload d_X7_send_133 rfl).trans <| (mX_iload_n d_X7_send_135 rfl).trans <| mX_icmp_ge d_X7_send_136 rfl
theorem b_X7_send_139 {x1 x2 x5 x6 x7 x8 x9 x10 : Int32} {l3 : Int64} {h h' : mn_H} {r : Option Value} : mn_E 88 139 [.ref 0, .int x1, .int x2, .long l3, .null, .int x5, .int x6, .int x7, .int x8, .int x9, .int x10] [] h r h' ↔ mn_E 88 142 [.ref 0, .int x1, .int x2, .long l3, .null, .int x5, .int x6, .int x7, .int (x8 + 1), .int x9, .int x10] [] h r h' :=
  mX_iinc (ls' := [.ref 0, .int x1, .int x2, .long l3, .null, .int x5, .int x6, .int x7, .int (x8 + 1), .int x9, .int x10]) d_X7_send_139 rfl ci_1 rfl rfl
theorem b_X7_send_142 {x1 x2 x5 x6 x7 x8 x9 x10 : Int32} {l3 : Int64} {h h' : mn_H} {r : Option Value} : mn_E 88 142 [.ref 0, .int x1, .int x2, .long l3, .null, .int x5, .int x6, .int x7, .int x8, .int x9, .int x10] [] h r h' ↔ mn_E 88 80 [.ref 0, .int x1, .int x2, .long l3, .null, .int x5, .int x6, .int x7, .int x8, .int (x9 + 1), .int x10] [] h r h' :=
  (mX_iinc (ls' := [.ref 0, .int x1, .int x2, .long l3, .null, .int x5, .int x6, .int x7, .int x8, .int (x9 + 1), .int x10]) d_X7_send_142 rfl ci_1 rfl rfl).trans <| mX_goto d_X7_send_145 rfl
theorem b_X7_send_148 {x1 x2 x5 x6 x7 x8 x9 : Int32} {l3 : Int64} {w10 : Value} {h h' : mn_H} {r : Option Value} (hy0 : ¬ x5 = 0) : mn_E 88 148 [.ref 0, .int x1, .int x2, .long l3, .null, .int x5, .int x6, .int x7, .int x8, .int x9, w10] [] h r h' ↔ if x7 ≤ x8 then mn_E 88 164 [.ref 0, .int x1, .int x2, .long l3, .null, .int x5, .int x6, .int x7, .int x8, .int x9, w10] [.int (x6 / x5)] h r h' else mn_E 88 160 [.ref 0, .int x1, .int x2, .long l3, .null, .int x5, .int x6, .int x7, .int x8, .int x9, w10] [.int (x6 / x5)] h r h' :=
  (mX_iload d_X7_send_148 rfl).trans <| (mX_iload d_X7_send_150 rfl).trans <| (mX_idiv d_X7_send_152 hy0).trans <| (mX_iload d_X7_send_153 rfl).trans <| (mX_iload d_X7_send_155 rfl).trans <| mX_icmp_ge d_X7_send_157 rfl
theorem b_X7_send_160 {x1 x2 x5 x6 x7 x8 x9 s0 : Int32} {l3 : Int64} {w10 : Value} {h h' : mn_H} {r : Option Value} : mn_E 88 160 [.ref 0, .int x1, .int x2, .long l3, .null, .int x5, .int x6, .int x7, .int x8, .int x9, w10] [.int s0] h r h' ↔ mn_E 88 165 [.ref 0, .int x1, .int x2, .long l3, .null, .int x5, .int x6, .int x7, .int x8, .int x9, w10] [.int 1, .int s0] h r h' :=
  (mX_iconst d_X7_send_160 ci_1).trans <| mX_goto d_X7_send_161 rfl
theorem b_X7_send_164 {x1 x2 x5 x6 x7 x8 x9 s0 : Int32} {l3 : Int64} {w10 : Value} {h h' : mn_H} {r : Option Value} : mn_E 88 164 [.ref 0, .int x1, .int x2, .long l3, .null, .int x5, .int x6, .int x7, .int x8, .int x9, w10] [.int s0] h r h' ↔ mn_E 88 165 [.ref 0, .int x1, .int x2, .long l3, .null, .int x5, .int x6, .int x7, .int x8, .int x9, w10] [.int 0, .int s0] h r h' :=
  mX_iconst d_X7_send_164 ci_0
theorem b_X7_send_165 {x1 x2 x5 x6 x7 x8 x9 s0 s1 : Int32} {l3 : Int64} {w10 : Value} {h h' : mn_H} {r : Option Value} : mn_E 88 165 [.ref 0, .int x1, .int x2, .long l3, .null, .int x5, .int x6, .int x7, .int x8, .int x9, w10] [.int s0, .int s1] h r h' ↔ r = some (.int (s1 + s0)) ∧ h' = h :=
  (mX_iadd d_X7_send_165).trans <| mX_iret d_X7_send_166 rfl
-- X7_see
theorem mo_89 : mO 89 = 7 := rfl
theorem d_X7_see_0 : decode (mC 89) 0 = .ok (.aload_n 0, 1) := by decide +kernel
theorem d_X7_see_1 : decode (mC 89) 1 = .ok (.iload_n 1, 1) := by decide +kernel
theorem d_X7_see_2 : decode (mC 89) 2 = .ok (.invokevirtual 139, 3) := by decide +kernel
theorem d_X7_see_5 : decode (mC 89) 5 = .ok (.ifCond .ne 6, 3) := by decide +kernel
theorem d_X7_see_8 : decode (mC 89) 8 = .ok (.ldc 142, 2) := by decide +kernel
theorem d_X7_see_10 : decode (mC 89) 10 = .ok (.ireturn, 1) := by decide +kernel
theorem d_X7_see_11 : decode (mC 89) 11 = .ok (.iload_n 3, 1) := by decide +kernel
theorem d_X7_see_12 : decode (mC 89) 12 = .ok (.invokestatic 175, 3) := by decide +kernel
theorem d_X7_see_15 : decode (mC 89) 15 = .ok (.ifCond .eq 11, 3) := by decide +kernel
theorem d_X7_see_18 : decode (mC 89) 18 = .ok (.iload 4, 2) := by decide +kernel
theorem d_X7_see_20 : decode (mC 89) 20 = .ok (.invokestatic 175, 3) := by decide +kernel
theorem d_X7_see_23 : decode (mC 89) 23 = .ok (.ifCond .ne 6, 3) := by decide +kernel
theorem d_X7_see_26 : decode (mC 89) 26 = .ok (.ldc 58, 2) := by decide +kernel
theorem d_X7_see_28 : decode (mC 89) 28 = .ok (.ireturn, 1) := by decide +kernel
theorem d_X7_see_29 : decode (mC 89) 29 = .ok (.aload_n 0, 1) := by decide +kernel
theorem d_X7_see_30 : decode (mC 89) 30 = .ok (.getfield 30, 3) := by decide +kernel
theorem d_X7_see_33 : decode (mC 89) 33 = .ok (.iload_n 1, 1) := by decide +kernel
theorem d_X7_see_34 : decode (mC 89) 34 = .ok (.iload_n 2, 1) := by decide +kernel
theorem d_X7_see_35 : decode (mC 89) 35 = .ok (.iload_n 3, 1) := by decide +kernel
theorem d_X7_see_36 : decode (mC 89) 36 = .ok (.iload 4, 2) := by decide +kernel
theorem d_X7_see_38 : decode (mC 89) 38 = .ok (.invokevirtual 297, 3) := by decide +kernel
theorem d_X7_see_41 : decode (mC 89) 41 = .ok (.ifCond .eq 14, 3) := by decide +kernel
theorem d_X7_see_44 : decode (mC 89) 44 = .ok (.aload_n 0, 1) := by decide +kernel
theorem d_X7_see_45 : decode (mC 89) 45 = .ok (.getfield 30, 3) := by decide +kernel
theorem d_X7_see_48 : decode (mC 89) 48 = .ok (.iload_n 1, 1) := by decide +kernel
theorem d_X7_see_49 : decode (mC 89) 49 = .ok (.invokevirtual 157, 3) := by decide +kernel
theorem d_X7_see_52 : decode (mC 89) 52 = .ok (.goto 5, 3) := by decide +kernel
theorem d_X7_see_55 : decode (mC 89) 55 = .ok (.ldc 67, 2) := by decide +kernel
theorem d_X7_see_57 : decode (mC 89) 57 = .ok (.ireturn, 1) := by decide +kernel
theorem cv_89_139 : mn_cvt 89 7 139 96 = true := by decide +kernel
theorem cs_89_175 : mn_cs 89 7 175 99 = true := by decide +kernel
theorem fr_89_30 : mn_fr 89 7 30 7 3 = true := by decide +kernel
theorem cv_89_297 : mn_cvt 89 7 297 28 = true := by decide +kernel
theorem cv_89_157 : mn_cvt 89 7 157 25 = true := by decide +kernel
theorem b_X7_see_0 {x1 x2 x3 x4 : Int32} {h h' : mn_H} {r : Option Value} : mn_E 89 0 [.ref 0, .int x1, .int x2, .int x3, .int x4] [] h r h' ↔ ∃ x h1, mn_X 96 [.ref 0, .int x1] h (some (.int x)) h1 ∧ mn_E 89 5 [.ref 0, .int x1, .int x2, .int x3, .int x4] [.int x] h1 r h' :=
  (mX_aload_n d_X7_see_0 rfl).trans <| (mX_iload_n d_X7_see_1 rfl).trans <| mV_i (a := 0) (vs := [.int x1]) (st' := []) d_X7_see_2 cv_89_139 (Or.inr (Or.inl rfl)) (Nat.le_of_ble_eq_true rfl) rfl rfl rfl rfl
theorem b_X7_see_5 {x1 x2 x3 x4 s0 : Int32} {h h' : mn_H} {r : Option Value} : mn_E 89 5 [.ref 0, .int x1, .int x2, .int x3, .int x4] [.int s0] h r h' ↔ if ¬ s0 = 0 then mn_E 89 11 [.ref 0, .int x1, .int x2, .int x3, .int x4] [] h r h' else mn_E 89 8 [.ref 0, .int x1, .int x2, .int x3, .int x4] [] h r h' :=
  mX_if_ne d_X7_see_5 rfl
theorem b_X7_see_8 {x1 x2 x3 x4 : Int32} {h h' : mn_H} {r : Option Value} : mn_E 89 8 [.ref 0, .int x1, .int x2, .int x3, .int x4] [] h r h' ↔ r = some (.int (-1000000001)) ∧ h' = h :=
  (mX_ldc d_X7_see_8 mo_89 kc_7_142 (by decide)).trans <| mX_iret d_X7_see_10 rfl
theorem b_X7_see_11 {x1 x2 x3 x4 : Int32} {h h' : mn_H} {r : Option Value} : mn_E 89 11 [.ref 0, .int x1, .int x2, .int x3, .int x4] [] h r h' ↔ ∃ x h1, mn_X 99 [.int x3] h (some (.int x)) h1 ∧ mn_E 89 15 [.ref 0, .int x1, .int x2, .int x3, .int x4] [.int x] h1 r h' :=
  (mX_iload_n d_X7_see_11 rfl).trans <| mS_i (vs := [.int x3]) (st' := []) d_X7_see_12 cs_89_175 (Or.inr (Or.inl rfl)) (Nat.le_of_ble_eq_true rfl) rfl rfl rfl
theorem b_X7_see_15 {x1 x2 x3 x4 s0 : Int32} {h h' : mn_H} {r : Option Value} : mn_E 89 15 [.ref 0, .int x1, .int x2, .int x3, .int x4] [.int s0] h r h' ↔ if s0 = 0 then mn_E 89 26 [.ref 0, .int x1, .int x2, .int x3, .int x4] [] h r h' else mn_E 89 18 [.ref 0, .int x1, .int x2, .int x3, .int x4] [] h r h' :=
  mX_if_eq d_X7_see_15 rfl
theorem b_X7_see_18 {x1 x2 x3 x4 : Int32} {h h' : mn_H} {r : Option Value} : mn_E 89 18 [.ref 0, .int x1, .int x2, .int x3, .int x4] [] h r h' ↔ ∃ x h1, mn_X 99 [.int x4] h (some (.int x)) h1 ∧ mn_E 89 23 [.ref 0, .int x1, .int x2, .int x3, .int x4] [.int x] h1 r h' :=
  (mX_iload d_X7_see_18 rfl).trans <| mS_i (vs := [.int x4]) (st' := []) d_X7_see_20 cs_89_175 (Or.inr (Or.inl rfl)) (Nat.le_of_ble_eq_true rfl) rfl rfl rfl
theorem b_X7_see_23 {x1 x2 x3 x4 s0 : Int32} {h h' : mn_H} {r : Option Value} : mn_E 89 23 [.ref 0, .int x1, .int x2, .int x3, .int x4] [.int s0] h r h' ↔ if ¬ s0 = 0 then mn_E 89 29 [.ref 0, .int x1, .int x2, .int x3, .int x4] [] h r h' else mn_E 89 26 [.ref 0, .int x1, .int x2, .int x3, .int x4] [] h r h' :=
  mX_if_ne d_X7_see_23 rfl
theorem b_X7_see_26 {x1 x2 x3 x4 : Int32} {h h' : mn_H} {r : Option Value} : mn_E 89 26 [.ref 0, .int x1, .int x2, .int x3, .int x4] [] h r h' ↔ r = some (.int (-1000000002)) ∧ h' = h :=
  (mX_ldc d_X7_see_26 mo_89 kc_7_58 (by decide)).trans <| mX_iret d_X7_see_28 rfl
theorem b_X7_see_29 {x1 x2 x3 x4 : Int32} {h h' : mn_H} {r : Option Value} : mn_E 89 29 [.ref 0, .int x1, .int x2, .int x3, .int x4] [] h r h' ↔ ∃ x h1, mn_X 28 [.ref 10, .int x1, .int x2, .int x3, .int x4] h (some (.int x)) h1 ∧ mn_E 89 41 [.ref 0, .int x1, .int x2, .int x3, .int x4] [.int x] h1 r h' :=
  (mX_aload_n d_X7_see_29 rfl).trans <| (mG_r (b := 10) d_X7_see_30 fr_89_30 rfl (by decide) rfl).trans <| (mX_iload_n d_X7_see_33 rfl).trans <| (mX_iload_n d_X7_see_34 rfl).trans <| (mX_iload_n d_X7_see_35 rfl).trans <| (mX_iload d_X7_see_36 rfl).trans <| mV_i (a := 10) (vs := [.int x1, .int x2, .int x3, .int x4]) (st' := []) d_X7_see_38 cv_89_297 (Or.inr (Or.inl rfl)) (Nat.le_of_ble_eq_true rfl) rfl rfl rfl rfl
theorem b_X7_see_41 {x1 x2 x3 x4 s0 : Int32} {h h' : mn_H} {r : Option Value} : mn_E 89 41 [.ref 0, .int x1, .int x2, .int x3, .int x4] [.int s0] h r h' ↔ if s0 = 0 then mn_E 89 55 [.ref 0, .int x1, .int x2, .int x3, .int x4] [] h r h' else mn_E 89 44 [.ref 0, .int x1, .int x2, .int x3, .int x4] [] h r h' :=
  mX_if_eq d_X7_see_41 rfl
theorem b_X7_see_44 {x1 x2 x3 x4 : Int32} {h h' : mn_H} {r : Option Value} : mn_E 89 44 [.ref 0, .int x1, .int x2, .int x3, .int x4] [] h r h' ↔ ∃ x h1, mn_X 25 [.ref 10, .int x1] h (some (.int x)) h1 ∧ mn_E 89 52 [.ref 0, .int x1, .int x2, .int x3, .int x4] [.int x] h1 r h' :=
  (mX_aload_n d_X7_see_44 rfl).trans <| (mG_r (b := 10) d_X7_see_45 fr_89_30 rfl (by decide) rfl).trans <| (mX_iload_n d_X7_see_48 rfl).trans <| mV_i (a := 10) (vs := [.int x1]) (st' := []) d_X7_see_49 cv_89_157 (Or.inl rfl) (Nat.le_of_ble_eq_true rfl) rfl rfl rfl rfl
theorem b_X7_see_52 {x1 x2 x3 x4 s0 : Int32} {h h' : mn_H} {r : Option Value} : mn_E 89 52 [.ref 0, .int x1, .int x2, .int x3, .int x4] [.int s0] h r h' ↔ mn_E 89 57 [.ref 0, .int x1, .int x2, .int x3, .int x4] [.int s0] h r h' :=
  mX_goto d_X7_see_52 rfl
theorem b_X7_see_55 {x1 x2 x3 x4 : Int32} {h h' : mn_H} {r : Option Value} : mn_E 89 55 [.ref 0, .int x1, .int x2, .int x3, .int x4] [] h r h' ↔ mn_E 89 57 [.ref 0, .int x1, .int x2, .int x3, .int x4] [.int (-1000000004)] h r h' :=
  mX_ldc d_X7_see_55 mo_89 kc_7_67 (by decide)
theorem b_X7_see_57 {x1 x2 x3 x4 s0 : Int32} {h h' : mn_H} {r : Option Value} : mn_E 89 57 [.ref 0, .int x1, .int x2, .int x3, .int x4] [.int s0] h r h' ↔ r = some (.int s0) ∧ h' = h :=
  mX_iret d_X7_see_57 rfl
-- X7_means
theorem mo_90 : mO 90 = 7 := rfl
theorem d_X7_means_0 : decode (mC 90) 0 = .ok (.aload_n 0, 1) := by decide +kernel
theorem d_X7_means_1 : decode (mC 90) 1 = .ok (.iload_n 1, 1) := by decide +kernel
theorem d_X7_means_2 : decode (mC 90) 2 = .ok (.invokevirtual 139, 3) := by decide +kernel
theorem d_X7_means_5 : decode (mC 90) 5 = .ok (.ifCond .ne 6, 3) := by decide +kernel
theorem d_X7_means_8 : decode (mC 90) 8 = .ok (.ldc 142, 2) := by decide +kernel
theorem d_X7_means_10 : decode (mC 90) 10 = .ok (.ireturn, 1) := by decide +kernel
theorem d_X7_means_11 : decode (mC 90) 11 = .ok (.aload_n 0, 1) := by decide +kernel
theorem d_X7_means_12 : decode (mC 90) 12 = .ok (.getfield 30, 3) := by decide +kernel
theorem d_X7_means_15 : decode (mC 90) 15 = .ok (.iload_n 1, 1) := by decide +kernel
theorem d_X7_means_16 : decode (mC 90) 16 = .ok (.invokevirtual 301, 3) := by decide +kernel
theorem d_X7_means_19 : decode (mC 90) 19 = .ok (.iload_n 2, 1) := by decide +kernel
theorem d_X7_means_20 : decode (mC 90) 20 = .ok (.iconst (-1), 1) := by decide +kernel
theorem d_X7_means_21 : decode (mC 90) 21 = .ok (.if_icmp .ne 13, 3) := by decide +kernel
theorem d_X7_means_24 : decode (mC 90) 24 = .ok (.aload_n 0, 1) := by decide +kernel
theorem d_X7_means_25 : decode (mC 90) 25 = .ok (.getfield 30, 3) := by decide +kernel
theorem d_X7_means_28 : decode (mC 90) 28 = .ok (.invokevirtual 304, 3) := by decide +kernel
theorem d_X7_means_31 : decode (mC 90) 31 = .ok (.goto 11, 3) := by decide +kernel
theorem d_X7_means_34 : decode (mC 90) 34 = .ok (.aload_n 0, 1) := by decide +kernel
theorem d_X7_means_35 : decode (mC 90) 35 = .ok (.getfield 30, 3) := by decide +kernel
theorem d_X7_means_38 : decode (mC 90) 38 = .ok (.iload_n 2, 1) := by decide +kernel
theorem d_X7_means_39 : decode (mC 90) 39 = .ok (.invokevirtual 307, 3) := by decide +kernel
theorem d_X7_means_42 : decode (mC 90) 42 = .ok (.ireturn, 1) := by decide +kernel
theorem cv_90_139 : mn_cvt 90 7 139 96 = true := by decide +kernel
theorem fr_90_30 : mn_fr 90 7 30 7 3 = true := by decide +kernel
theorem cv_90_301 : mn_cvt 90 7 301 29 = true := by decide +kernel
theorem cv_90_304 : mn_cvt 90 7 304 31 = true := by decide +kernel
theorem cv_90_307 : mn_cvt 90 7 307 32 = true := by decide +kernel
theorem b_X7_means_0 {x1 x2 : Int32} {h h' : mn_H} {r : Option Value} : mn_E 90 0 [.ref 0, .int x1, .int x2] [] h r h' ↔ ∃ x h1, mn_X 96 [.ref 0, .int x1] h (some (.int x)) h1 ∧ mn_E 90 5 [.ref 0, .int x1, .int x2] [.int x] h1 r h' :=
  (mX_aload_n d_X7_means_0 rfl).trans <| (mX_iload_n d_X7_means_1 rfl).trans <| mV_i (a := 0) (vs := [.int x1]) (st' := []) d_X7_means_2 cv_90_139 (Or.inr (Or.inl rfl)) (Nat.le_of_ble_eq_true rfl) rfl rfl rfl rfl
theorem b_X7_means_5 {x1 x2 s0 : Int32} {h h' : mn_H} {r : Option Value} : mn_E 90 5 [.ref 0, .int x1, .int x2] [.int s0] h r h' ↔ if ¬ s0 = 0 then mn_E 90 11 [.ref 0, .int x1, .int x2] [] h r h' else mn_E 90 8 [.ref 0, .int x1, .int x2] [] h r h' :=
  mX_if_ne d_X7_means_5 rfl
theorem b_X7_means_8 {x1 x2 : Int32} {h h' : mn_H} {r : Option Value} : mn_E 90 8 [.ref 0, .int x1, .int x2] [] h r h' ↔ r = some (.int (-1000000001)) ∧ h' = h :=
  (mX_ldc d_X7_means_8 mo_90 kc_7_142 (by decide)).trans <| mX_iret d_X7_means_10 rfl
theorem b_X7_means_11 {x1 x2 : Int32} {h h' : mn_H} {r : Option Value} : mn_E 90 11 [.ref 0, .int x1, .int x2] [] h r h' ↔ ∃ h1, mn_X 29 [.ref 10, .int x1] h none h1 ∧ mn_E 90 19 [.ref 0, .int x1, .int x2] [] h1 r h' :=
  (mX_aload_n d_X7_means_11 rfl).trans <| (mG_r (b := 10) d_X7_means_12 fr_90_30 rfl (by decide) rfl).trans <| (mX_iload_n d_X7_means_15 rfl).trans <| mV_v (a := 10) (vs := [.int x1]) (st' := []) d_X7_means_16 cv_90_301 rfl (Nat.le_of_ble_eq_true rfl) rfl rfl rfl rfl
theorem b_X7_means_19 {x1 x2 : Int32} {h h' : mn_H} {r : Option Value} : mn_E 90 19 [.ref 0, .int x1, .int x2] [] h r h' ↔ if ¬ x2 = (-1) then mn_E 90 34 [.ref 0, .int x1, .int x2] [] h r h' else mn_E 90 24 [.ref 0, .int x1, .int x2] [] h r h' :=
  (mX_iload_n d_X7_means_19 rfl).trans <| (mX_iconst d_X7_means_20 ci_m1).trans <| mX_icmp_ne d_X7_means_21 rfl
theorem b_X7_means_24 {x1 x2 : Int32} {h h' : mn_H} {r : Option Value} : mn_E 90 24 [.ref 0, .int x1, .int x2] [] h r h' ↔ ∃ x h1, mn_X 31 [.ref 10] h (some (.int x)) h1 ∧ mn_E 90 31 [.ref 0, .int x1, .int x2] [.int x] h1 r h' :=
  (mX_aload_n d_X7_means_24 rfl).trans <| (mG_r (b := 10) d_X7_means_25 fr_90_30 rfl (by decide) rfl).trans <| mV_i (a := 10) (vs := []) (st' := []) d_X7_means_28 cv_90_304 (Or.inl rfl) (Nat.le_of_ble_eq_true rfl) rfl rfl rfl rfl
theorem b_X7_means_31 {x1 x2 s0 : Int32} {h h' : mn_H} {r : Option Value} : mn_E 90 31 [.ref 0, .int x1, .int x2] [.int s0] h r h' ↔ mn_E 90 42 [.ref 0, .int x1, .int x2] [.int s0] h r h' :=
  mX_goto d_X7_means_31 rfl
theorem b_X7_means_34 {x1 x2 : Int32} {h h' : mn_H} {r : Option Value} : mn_E 90 34 [.ref 0, .int x1, .int x2] [] h r h' ↔ ∃ x h1, mn_X 32 [.ref 10, .int x2] h (some (.int x)) h1 ∧ mn_E 90 42 [.ref 0, .int x1, .int x2] [.int x] h1 r h' :=
  (mX_aload_n d_X7_means_34 rfl).trans <| (mG_r (b := 10) d_X7_means_35 fr_90_30 rfl (by decide) rfl).trans <| (mX_iload_n d_X7_means_38 rfl).trans <| mV_i (a := 10) (vs := [.int x2]) (st' := []) d_X7_means_39 cv_90_307 (Or.inl rfl) (Nat.le_of_ble_eq_true rfl) rfl rfl rfl rfl
theorem b_X7_means_42 {x1 x2 s0 : Int32} {h h' : mn_H} {r : Option Value} : mn_E 90 42 [.ref 0, .int x1, .int x2] [.int s0] h r h' ↔ r = some (.int s0) ∧ h' = h :=
  mX_iret d_X7_means_42 rfl
-- X7_watch
theorem mo_91 : mO 91 = 7 := rfl
theorem d_X7_watch_0 : decode (mC 91) 0 = .ok (.aload_n 0, 1) := by decide +kernel
theorem d_X7_watch_1 : decode (mC 91) 1 = .ok (.iload_n 1, 1) := by decide +kernel
theorem d_X7_watch_2 : decode (mC 91) 2 = .ok (.invokevirtual 139, 3) := by decide +kernel
theorem d_X7_watch_5 : decode (mC 91) 5 = .ok (.ifCond .ne 6, 3) := by decide +kernel
theorem d_X7_watch_8 : decode (mC 91) 8 = .ok (.ldc 142, 2) := by decide +kernel
theorem d_X7_watch_10 : decode (mC 91) 10 = .ok (.ireturn, 1) := by decide +kernel
theorem d_X7_watch_11 : decode (mC 91) 11 = .ok (.aload_n 0, 1) := by decide +kernel
theorem d_X7_watch_12 : decode (mC 91) 12 = .ok (.getfield 30, 3) := by decide +kernel
theorem d_X7_watch_15 : decode (mC 91) 15 = .ok (.iload_n 1, 1) := by decide +kernel
theorem d_X7_watch_16 : decode (mC 91) 16 = .ok (.invokevirtual 301, 3) := by decide +kernel
theorem d_X7_watch_19 : decode (mC 91) 19 = .ok (.aload_n 0, 1) := by decide +kernel
theorem d_X7_watch_20 : decode (mC 91) 20 = .ok (.getfield 30, 3) := by decide +kernel
theorem d_X7_watch_23 : decode (mC 91) 23 = .ok (.invokevirtual 310, 3) := by decide +kernel
theorem d_X7_watch_26 : decode (mC 91) 26 = .ok (.ireturn, 1) := by decide +kernel
theorem cv_91_139 : mn_cvt 91 7 139 96 = true := by decide +kernel
theorem fr_91_30 : mn_fr 91 7 30 7 3 = true := by decide +kernel
theorem cv_91_301 : mn_cvt 91 7 301 29 = true := by decide +kernel
theorem cv_91_310 : mn_cvt 91 7 310 33 = true := by decide +kernel
theorem b_X7_watch_0 {x1 : Int32} {h h' : mn_H} {r : Option Value} : mn_E 91 0 [.ref 0, .int x1] [] h r h' ↔ ∃ x h1, mn_X 96 [.ref 0, .int x1] h (some (.int x)) h1 ∧ mn_E 91 5 [.ref 0, .int x1] [.int x] h1 r h' :=
  (mX_aload_n d_X7_watch_0 rfl).trans <| (mX_iload_n d_X7_watch_1 rfl).trans <| mV_i (a := 0) (vs := [.int x1]) (st' := []) d_X7_watch_2 cv_91_139 (Or.inr (Or.inl rfl)) (Nat.le_of_ble_eq_true rfl) rfl rfl rfl rfl
theorem b_X7_watch_5 {x1 s0 : Int32} {h h' : mn_H} {r : Option Value} : mn_E 91 5 [.ref 0, .int x1] [.int s0] h r h' ↔ if ¬ s0 = 0 then mn_E 91 11 [.ref 0, .int x1] [] h r h' else mn_E 91 8 [.ref 0, .int x1] [] h r h' :=
  mX_if_ne d_X7_watch_5 rfl
theorem b_X7_watch_8 {x1 : Int32} {h h' : mn_H} {r : Option Value} : mn_E 91 8 [.ref 0, .int x1] [] h r h' ↔ r = some (.int (-1000000001)) ∧ h' = h :=
  (mX_ldc d_X7_watch_8 mo_91 kc_7_142 (by decide)).trans <| mX_iret d_X7_watch_10 rfl
theorem b_X7_watch_11 {x1 : Int32} {h h' : mn_H} {r : Option Value} : mn_E 91 11 [.ref 0, .int x1] [] h r h' ↔ ∃ h1, mn_X 29 [.ref 10, .int x1] h none h1 ∧ mn_E 91 19 [.ref 0, .int x1] [] h1 r h' :=
  (mX_aload_n d_X7_watch_11 rfl).trans <| (mG_r (b := 10) d_X7_watch_12 fr_91_30 rfl (by decide) rfl).trans <| (mX_iload_n d_X7_watch_15 rfl).trans <| mV_v (a := 10) (vs := [.int x1]) (st' := []) d_X7_watch_16 cv_91_301 rfl (Nat.le_of_ble_eq_true rfl) rfl rfl rfl rfl
theorem b_X7_watch_19 {x1 : Int32} {h h' : mn_H} {r : Option Value} : mn_E 91 19 [.ref 0, .int x1] [] h r h' ↔ ∃ x h1, mn_X 33 [.ref 10] h (some (.int x)) h1 ∧ mn_E 91 26 [.ref 0, .int x1] [.int x] h1 r h' :=
  (mX_aload_n d_X7_watch_19 rfl).trans <| (mG_r (b := 10) d_X7_watch_20 fr_91_30 rfl (by decide) rfl).trans <| mV_i (a := 10) (vs := []) (st' := []) d_X7_watch_23 cv_91_310 (Or.inl rfl) (Nat.le_of_ble_eq_true rfl) rfl rfl rfl rfl
theorem b_X7_watch_26 {x1 s0 : Int32} {h h' : mn_H} {r : Option Value} : mn_E 91 26 [.ref 0, .int x1] [.int s0] h r h' ↔ r = some (.int s0) ∧ h' = h :=
  mX_iret d_X7_watch_26 rfl
-- X7_tear
theorem mo_92 : mO 92 = 7 := rfl
theorem d_X7_tear_0 : decode (mC 92) 0 = .ok (.aload_n 0, 1) := by decide +kernel
theorem d_X7_tear_1 : decode (mC 92) 1 = .ok (.getfield 30, 3) := by decide +kernel
theorem d_X7_tear_4 : decode (mC 92) 4 = .ok (.invokevirtual 126, 3) := by decide +kernel
theorem d_X7_tear_7 : decode (mC 92) 7 = .ok (.istore_n 1, 1) := by decide +kernel
theorem d_X7_tear_8 : decode (mC 92) 8 = .ok (.aload_n 0, 1) := by decide +kernel
theorem d_X7_tear_9 : decode (mC 92) 9 = .ok (.getfield 30, 3) := by decide +kernel
theorem d_X7_tear_12 : decode (mC 92) 12 = .ok (.invokevirtual 79, 3) := by decide +kernel
theorem d_X7_tear_15 : decode (mC 92) 15 = .ok (.iload_n 1, 1) := by decide +kernel
theorem d_X7_tear_16 : decode (mC 92) 16 = .ok (.ireturn, 1) := by decide +kernel
theorem fr_92_30 : mn_fr 92 7 30 7 3 = true := by decide +kernel
theorem cv_92_126 : mn_cvt 92 7 126 26 = true := by decide +kernel
theorem cv_92_79 : mn_cvt 92 7 79 27 = true := by decide +kernel
theorem b_X7_tear_0 {h h' : mn_H} {r : Option Value} : mn_E 92 0 [.ref 0, .null] [] h r h' ↔ ∃ x h1, mn_X 26 [.ref 10] h (some (.int x)) h1 ∧ mn_E 92 7 [.ref 0, .null] [.int x] h1 r h' :=
  (mX_aload_n d_X7_tear_0 rfl).trans <| (mG_r (b := 10) d_X7_tear_1 fr_92_30 rfl (by decide) rfl).trans <| mV_i (a := 10) (vs := []) (st' := []) d_X7_tear_4 cv_92_126 (Or.inl rfl) (Nat.le_of_ble_eq_true rfl) rfl rfl rfl rfl
theorem b_X7_tear_7 {s0 : Int32} {h h' : mn_H} {r : Option Value} : mn_E 92 7 [.ref 0, .null] [.int s0] h r h' ↔ ∃ h1, mn_X 27 [.ref 10] h none h1 ∧ mn_E 92 15 [.ref 0, .int s0] [] h1 r h' :=
  (mX_istore_n (ls' := [.ref 0, .int s0]) d_X7_tear_7 rfl rfl).trans <| (mX_aload_n d_X7_tear_8 rfl).trans <| (mG_r (b := 10) d_X7_tear_9 fr_92_30 rfl (by decide) rfl).trans <| mV_v (a := 10) (vs := []) (st' := []) d_X7_tear_12 cv_92_79 rfl (Nat.le_of_ble_eq_true rfl) rfl rfl rfl rfl
theorem b_X7_tear_15 {x1 : Int32} {h h' : mn_H} {r : Option Value} : mn_E 92 15 [.ref 0, .int x1] [] h r h' ↔ r = some (.int x1) ∧ h' = h :=
  (mX_iload_n d_X7_tear_15 rfl).trans <| mX_iret d_X7_tear_16 rfl
-- X7_seed
theorem mo_93 : mO 93 = 7 := rfl
theorem d_X7_seed_0 : decode (mC 93) 0 = .ok (.iload_n 1, 1) := by decide +kernel
theorem d_X7_seed_1 : decode (mC 93) 1 = .ok (.ifCond .ge 6, 3) := by decide +kernel
theorem d_X7_seed_4 : decode (mC 93) 4 = .ok (.ldc 58, 2) := by decide +kernel
theorem d_X7_seed_6 : decode (mC 93) 6 = .ok (.ireturn, 1) := by decide +kernel
theorem d_X7_seed_7 : decode (mC 93) 7 = .ok (.aload_n 0, 1) := by decide +kernel
theorem d_X7_seed_8 : decode (mC 93) 8 = .ok (.getfield 19, 3) := by decide +kernel
theorem d_X7_seed_11 : decode (mC 93) 11 = .ok (.getfield 313, 3) := by decide +kernel
theorem d_X7_seed_14 : decode (mC 93) 14 = .ok (.istore_n 2, 1) := by decide +kernel
theorem d_X7_seed_15 : decode (mC 93) 15 = .ok (.aload_n 0, 1) := by decide +kernel
theorem d_X7_seed_16 : decode (mC 93) 16 = .ok (.getfield 19, 3) := by decide +kernel
theorem d_X7_seed_19 : decode (mC 93) 19 = .ok (.iload_n 1, 1) := by decide +kernel
theorem d_X7_seed_20 : decode (mC 93) 20 = .ok (.putfield 313, 3) := by decide +kernel
theorem d_X7_seed_23 : decode (mC 93) 23 = .ok (.iload_n 2, 1) := by decide +kernel
theorem d_X7_seed_24 : decode (mC 93) 24 = .ok (.ireturn, 1) := by decide +kernel
theorem fr_93_19 : mn_fr 93 7 19 7 1 = true := by decide +kernel
theorem fi_93_313 : mn_fi 93 7 313 1 6 = true := by decide +kernel
theorem b_X7_seed_0 {x1 : Int32} {h h' : mn_H} {r : Option Value} : mn_E 93 0 [.ref 0, .int x1, .null] [] h r h' ↔ if (0 : Int32) ≤ x1 then mn_E 93 7 [.ref 0, .int x1, .null] [] h r h' else mn_E 93 4 [.ref 0, .int x1, .null] [] h r h' :=
  (mX_iload_n d_X7_seed_0 rfl).trans <| mX_if_ge d_X7_seed_1 rfl
theorem b_X7_seed_4 {x1 : Int32} {h h' : mn_H} {r : Option Value} : mn_E 93 4 [.ref 0, .int x1, .null] [] h r h' ↔ r = some (.int (-1000000002)) ∧ h' = h :=
  (mX_ldc d_X7_seed_4 mo_93 kc_7_58 (by decide)).trans <| mX_iret d_X7_seed_6 rfl
theorem b_X7_seed_7 {x1 : Int32} {h h' : mn_H} {r : Option Value} : mn_E 93 7 [.ref 0, .int x1, .null] [] h r h' ↔ r = some (.int (h 3 6)) ∧ h' = mn_up h 3 6 x1 :=
  (mX_aload_n d_X7_seed_7 rfl).trans <| (mG_r (b := 3) d_X7_seed_8 fr_93_19 rfl (by decide) rfl).trans <| (mG_i d_X7_seed_11 fi_93_313 rfl (by decide)).trans <| (mX_istore_n (ls' := [.ref 0, .int x1, .int (h 3 6)]) d_X7_seed_14 rfl rfl).trans <| (mX_aload_n d_X7_seed_15 rfl).trans <| (mG_r (b := 3) d_X7_seed_16 fr_93_19 rfl (by decide) rfl).trans <| (mX_iload_n d_X7_seed_19 rfl).trans <| (mP_i d_X7_seed_20 fi_93_313 rfl (by decide) rfl (Or.inl (by decide))).trans <| (mX_iload_n d_X7_seed_23 rfl).trans <| mX_iret d_X7_seed_24 rfl
-- X7_keep
theorem mo_94 : mO 94 = 7 := rfl
theorem d_X7_keep_0 : decode (mC 94) 0 = .ok (.iload_n 1, 1) := by decide +kernel
theorem d_X7_keep_1 : decode (mC 94) 1 = .ok (.ifCond .lt 8, 3) := by decide +kernel
theorem d_X7_keep_4 : decode (mC 94) 4 = .ok (.iload_n 1, 1) := by decide +kernel
theorem d_X7_keep_5 : decode (mC 94) 5 = .ok (.iconst 2, 1) := by decide +kernel
theorem d_X7_keep_6 : decode (mC 94) 6 = .ok (.if_icmp .lt 6, 3) := by decide +kernel
theorem d_X7_keep_9 : decode (mC 94) 9 = .ok (.ldc 142, 2) := by decide +kernel
theorem d_X7_keep_11 : decode (mC 94) 11 = .ok (.ireturn, 1) := by decide +kernel
theorem d_X7_keep_12 : decode (mC 94) 12 = .ok (.aload_n 0, 1) := by decide +kernel
theorem d_X7_keep_13 : decode (mC 94) 13 = .ok (.getfield 23, 3) := by decide +kernel
theorem d_X7_keep_16 : decode (mC 94) 16 = .ok (.iload_n 1, 1) := by decide +kernel
theorem d_X7_keep_17 : decode (mC 94) 17 = .ok (.aaload, 1) := by decide +kernel
theorem d_X7_keep_18 : decode (mC 94) 18 = .ok (.aload_n 0, 1) := by decide +kernel
theorem d_X7_keep_19 : decode (mC 94) 19 = .ok (.getfield 19, 3) := by decide +kernel
theorem d_X7_keep_22 : decode (mC 94) 22 = .ok (.invokevirtual 316, 3) := by decide +kernel
theorem d_X7_keep_25 : decode (mC 94) 25 = .ok (.aload_n 0, 1) := by decide +kernel
theorem d_X7_keep_26 : decode (mC 94) 26 = .ok (.getfield 23, 3) := by decide +kernel
theorem d_X7_keep_29 : decode (mC 94) 29 = .ok (.iload_n 1, 1) := by decide +kernel
theorem d_X7_keep_30 : decode (mC 94) 30 = .ok (.aaload, 1) := by decide +kernel
theorem d_X7_keep_31 : decode (mC 94) 31 = .ok (.iconst 1, 1) := by decide +kernel
theorem d_X7_keep_32 : decode (mC 94) 32 = .ok (.putfield 82, 3) := by decide +kernel
theorem d_X7_keep_35 : decode (mC 94) 35 = .ok (.iconst 1, 1) := by decide +kernel
theorem d_X7_keep_36 : decode (mC 94) 36 = .ok (.ireturn, 1) := by decide +kernel
theorem fr_94_23 : mn_fr 94 7 23 7 2 = true := by decide +kernel
theorem fr_94_19 : mn_fr 94 7 19 7 1 = true := by decide +kernel
theorem cv_94_316 : mn_cvt 94 7 316 5 = true := by decide +kernel
theorem fi_94_82 : mn_fi 94 7 82 1 7 = true := by decide +kernel
theorem b_X7_keep_0 {x1 : Int32} {h h' : mn_H} {r : Option Value} : mn_E 94 0 [.ref 0, .int x1] [] h r h' ↔ if x1 < 0 then mn_E 94 9 [.ref 0, .int x1] [] h r h' else mn_E 94 4 [.ref 0, .int x1] [] h r h' :=
  (mX_iload_n d_X7_keep_0 rfl).trans <| mX_if_lt d_X7_keep_1 rfl
theorem b_X7_keep_4 {x1 : Int32} {h h' : mn_H} {r : Option Value} : mn_E 94 4 [.ref 0, .int x1] [] h r h' ↔ if x1 < 2 then mn_E 94 12 [.ref 0, .int x1] [] h r h' else mn_E 94 9 [.ref 0, .int x1] [] h r h' :=
  (mX_iload_n d_X7_keep_4 rfl).trans <| (mX_iconst d_X7_keep_5 ci_2).trans <| mX_icmp_lt d_X7_keep_6 rfl
theorem b_X7_keep_9 {x1 : Int32} {h h' : mn_H} {r : Option Value} : mn_E 94 9 [.ref 0, .int x1] [] h r h' ↔ r = some (.int (-1000000001)) ∧ h' = h :=
  (mX_ldc d_X7_keep_9 mo_94 kc_7_142 (by decide)).trans <| mX_iret d_X7_keep_11 rfl
theorem b_X7_keep_12 {x1 : Int32} {h h' : mn_H} {r : Option Value} (hy0 : vp_in x1 2) : mn_E 94 12 [.ref 0, .int x1] [] h r h' ↔ ∃ h1, mn_X 5 [.ref (5 + 2 * x1.toNatClampNeg), .ref 3] h none h1 ∧ mn_E 94 25 [.ref 0, .int x1] [] h1 r h' :=
  (mX_aload_n d_X7_keep_12 rfl).trans <| (mG_r (b := 9) d_X7_keep_13 fr_94_23 rfl (by decide) rfl).trans <| (mX_iload_n d_X7_keep_16 rfl).trans <| (mX_aaload d_X7_keep_17 hy0).trans <| (mX_aload_n d_X7_keep_18 rfl).trans <| (mG_r (b := 3) d_X7_keep_19 fr_94_19 rfl (by decide) rfl).trans <| mV_v (a := (5 + 2 * x1.toNatClampNeg)) (vs := [.ref 3]) (st' := []) d_X7_keep_22 cv_94_316 rfl (Nat.le_of_ble_eq_true rfl) rfl rfl (mn_shC0 (mn_im hy0)) rfl
theorem b_X7_keep_25 {x1 : Int32} {h h' : mn_H} {r : Option Value} (hy0 : vp_in x1 2) : mn_E 94 25 [.ref 0, .int x1] [] h r h' ↔ r = some (.int 1) ∧ h' = mn_up h (5 + 2 * x1.toNatClampNeg) 7 1 :=
  (mX_aload_n d_X7_keep_25 rfl).trans <| (mG_r (b := 9) d_X7_keep_26 fr_94_23 rfl (by decide) rfl).trans <| (mX_iload_n d_X7_keep_29 rfl).trans <| (mX_aaload d_X7_keep_30 hy0).trans <| (mX_iconst d_X7_keep_31 ci_1).trans <| (mP_i d_X7_keep_32 fi_94_82 (mn_shC0 (mn_im hy0)) (mn_ltC0 (mn_im hy0)) rfl (Or.inr (by decide))).trans <| (mX_iconst d_X7_keep_35 ci_1).trans <| mX_iret d_X7_keep_36 rfl
-- X7_goBack
theorem mo_95 : mO 95 = 7 := rfl
theorem d_X7_goBack_0 : decode (mC 95) 0 = .ok (.iload_n 1, 1) := by decide +kernel
theorem d_X7_goBack_1 : decode (mC 95) 1 = .ok (.ifCond .lt 8, 3) := by decide +kernel
theorem d_X7_goBack_4 : decode (mC 95) 4 = .ok (.iload_n 1, 1) := by decide +kernel
theorem d_X7_goBack_5 : decode (mC 95) 5 = .ok (.iconst 2, 1) := by decide +kernel
theorem d_X7_goBack_6 : decode (mC 95) 6 = .ok (.if_icmp .lt 6, 3) := by decide +kernel
theorem d_X7_goBack_9 : decode (mC 95) 9 = .ok (.ldc 142, 2) := by decide +kernel
theorem d_X7_goBack_11 : decode (mC 95) 11 = .ok (.ireturn, 1) := by decide +kernel
theorem d_X7_goBack_12 : decode (mC 95) 12 = .ok (.aload_n 0, 1) := by decide +kernel
theorem d_X7_goBack_13 : decode (mC 95) 13 = .ok (.getfield 23, 3) := by decide +kernel
theorem d_X7_goBack_16 : decode (mC 95) 16 = .ok (.iload_n 1, 1) := by decide +kernel
theorem d_X7_goBack_17 : decode (mC 95) 17 = .ok (.aaload, 1) := by decide +kernel
theorem d_X7_goBack_18 : decode (mC 95) 18 = .ok (.getfield 82, 3) := by decide +kernel
theorem d_X7_goBack_21 : decode (mC 95) 21 = .ok (.ifCond .ne 6, 3) := by decide +kernel
theorem d_X7_goBack_24 : decode (mC 95) 24 = .ok (.ldc 231, 2) := by decide +kernel
theorem d_X7_goBack_26 : decode (mC 95) 26 = .ok (.ireturn, 1) := by decide +kernel
theorem d_X7_goBack_27 : decode (mC 95) 27 = .ok (.aload_n 0, 1) := by decide +kernel
theorem d_X7_goBack_28 : decode (mC 95) 28 = .ok (.getfield 19, 3) := by decide +kernel
theorem d_X7_goBack_31 : decode (mC 95) 31 = .ok (.aload_n 0, 1) := by decide +kernel
theorem d_X7_goBack_32 : decode (mC 95) 32 = .ok (.getfield 23, 3) := by decide +kernel
theorem d_X7_goBack_35 : decode (mC 95) 35 = .ok (.iload_n 1, 1) := by decide +kernel
theorem d_X7_goBack_36 : decode (mC 95) 36 = .ok (.aaload, 1) := by decide +kernel
theorem d_X7_goBack_37 : decode (mC 95) 37 = .ok (.invokevirtual 316, 3) := by decide +kernel
theorem d_X7_goBack_40 : decode (mC 95) 40 = .ok (.iconst 1, 1) := by decide +kernel
theorem d_X7_goBack_41 : decode (mC 95) 41 = .ok (.ireturn, 1) := by decide +kernel
theorem fr_95_23 : mn_fr 95 7 23 7 2 = true := by decide +kernel
theorem fi_95_82 : mn_fi 95 7 82 1 7 = true := by decide +kernel
theorem fr_95_19 : mn_fr 95 7 19 7 1 = true := by decide +kernel
theorem cv_95_316 : mn_cvt 95 7 316 5 = true := by decide +kernel
theorem b_X7_goBack_0 {x1 : Int32} {h h' : mn_H} {r : Option Value} : mn_E 95 0 [.ref 0, .int x1] [] h r h' ↔ if x1 < 0 then mn_E 95 9 [.ref 0, .int x1] [] h r h' else mn_E 95 4 [.ref 0, .int x1] [] h r h' :=
  (mX_iload_n d_X7_goBack_0 rfl).trans <| mX_if_lt d_X7_goBack_1 rfl
theorem b_X7_goBack_4 {x1 : Int32} {h h' : mn_H} {r : Option Value} : mn_E 95 4 [.ref 0, .int x1] [] h r h' ↔ if x1 < 2 then mn_E 95 12 [.ref 0, .int x1] [] h r h' else mn_E 95 9 [.ref 0, .int x1] [] h r h' :=
  (mX_iload_n d_X7_goBack_4 rfl).trans <| (mX_iconst d_X7_goBack_5 ci_2).trans <| mX_icmp_lt d_X7_goBack_6 rfl
theorem b_X7_goBack_9 {x1 : Int32} {h h' : mn_H} {r : Option Value} : mn_E 95 9 [.ref 0, .int x1] [] h r h' ↔ r = some (.int (-1000000001)) ∧ h' = h :=
  (mX_ldc d_X7_goBack_9 mo_95 kc_7_142 (by decide)).trans <| mX_iret d_X7_goBack_11 rfl
theorem b_X7_goBack_12 {x1 : Int32} {h h' : mn_H} {r : Option Value} (hy0 : vp_in x1 2) : mn_E 95 12 [.ref 0, .int x1] [] h r h' ↔ if ¬ (h (5 + 2 * x1.toNatClampNeg) 7) = 0 then mn_E 95 27 [.ref 0, .int x1] [] h r h' else mn_E 95 24 [.ref 0, .int x1] [] h r h' :=
  (mX_aload_n d_X7_goBack_12 rfl).trans <| (mG_r (b := 9) d_X7_goBack_13 fr_95_23 rfl (by decide) rfl).trans <| (mX_iload_n d_X7_goBack_16 rfl).trans <| (mX_aaload d_X7_goBack_17 hy0).trans <| (mG_i d_X7_goBack_18 fi_95_82 (mn_shC0 (mn_im hy0)) (mn_ltC0 (mn_im hy0))).trans <| mX_if_ne d_X7_goBack_21 rfl
theorem b_X7_goBack_24 {x1 : Int32} {h h' : mn_H} {r : Option Value} : mn_E 95 24 [.ref 0, .int x1] [] h r h' ↔ r = some (.int (-1000000003)) ∧ h' = h :=
  (mX_ldc d_X7_goBack_24 mo_95 kc_7_231 (by decide)).trans <| mX_iret d_X7_goBack_26 rfl
theorem b_X7_goBack_27 {x1 : Int32} {h h' : mn_H} {r : Option Value} (hy0 : vp_in x1 2) : mn_E 95 27 [.ref 0, .int x1] [] h r h' ↔ ∃ h1, mn_X 5 [.ref 3, .ref (5 + 2 * x1.toNatClampNeg)] h none h1 ∧ mn_E 95 40 [.ref 0, .int x1] [] h1 r h' :=
  (mX_aload_n d_X7_goBack_27 rfl).trans <| (mG_r (b := 3) d_X7_goBack_28 fr_95_19 rfl (by decide) rfl).trans <| (mX_aload_n d_X7_goBack_31 rfl).trans <| (mG_r (b := 9) d_X7_goBack_32 fr_95_23 rfl (by decide) rfl).trans <| (mX_iload_n d_X7_goBack_35 rfl).trans <| (mX_aaload d_X7_goBack_36 hy0).trans <| mV_v (a := 3) (vs := [.ref (5 + 2 * x1.toNatClampNeg)]) (st' := []) d_X7_goBack_37 cv_95_316 rfl (Nat.le_of_ble_eq_true rfl) rfl rfl rfl rfl
theorem b_X7_goBack_40 {x1 : Int32} {h h' : mn_H} {r : Option Value} : mn_E 95 40 [.ref 0, .int x1] [] h r h' ↔ r = some (.int 1) ∧ h' = h :=
  (mX_iconst d_X7_goBack_40 ci_1).trans <| mX_iret d_X7_goBack_41 rfl
-- X7_isBell
theorem mo_96 : mO 96 = 7 := rfl
theorem d_X7_isBell_0 : decode (mC 96) 0 = .ok (.iload_n 1, 1) := by decide +kernel
theorem d_X7_isBell_1 : decode (mC 96) 1 = .ok (.ifCond .lt 18, 3) := by decide +kernel
theorem d_X7_isBell_4 : decode (mC 96) 4 = .ok (.iload_n 1, 1) := by decide +kernel
theorem d_X7_isBell_5 : decode (mC 96) 5 = .ok (.aload_n 0, 1) := by decide +kernel
theorem d_X7_isBell_6 : decode (mC 96) 6 = .ok (.getfield 51, 3) := by decide +kernel
theorem d_X7_isBell_9 : decode (mC 96) 9 = .ok (.getfield 86, 3) := by decide +kernel
theorem d_X7_isBell_12 : decode (mC 96) 12 = .ok (.if_icmp .ge 7, 3) := by decide +kernel
theorem d_X7_isBell_15 : decode (mC 96) 15 = .ok (.iconst 1, 1) := by decide +kernel
theorem d_X7_isBell_16 : decode (mC 96) 16 = .ok (.goto 4, 3) := by decide +kernel
theorem d_X7_isBell_19 : decode (mC 96) 19 = .ok (.iconst 0, 1) := by decide +kernel
theorem d_X7_isBell_20 : decode (mC 96) 20 = .ok (.ireturn, 1) := by decide +kernel
theorem fr_96_51 : mn_fr 96 7 51 7 6 = true := by decide +kernel
theorem fi_96_86 : mn_fi 96 7 86 5 0 = true := by decide +kernel
theorem b_X7_isBell_0 {x1 : Int32} {h h' : mn_H} {r : Option Value} : mn_E 96 0 [.ref 0, .int x1] [] h r h' ↔ if x1 < 0 then mn_E 96 19 [.ref 0, .int x1] [] h r h' else mn_E 96 4 [.ref 0, .int x1] [] h r h' :=
  (mX_iload_n d_X7_isBell_0 rfl).trans <| mX_if_lt d_X7_isBell_1 rfl
theorem b_X7_isBell_4 {x1 : Int32} {h h' : mn_H} {r : Option Value} (hy0 : mn_isT (mn_hr h)) : mn_E 96 4 [.ref 0, .int x1] [] h r h' ↔ if (h (mn_hr h) 0) ≤ x1 then mn_E 96 19 [.ref 0, .int x1] [] h r h' else mn_E 96 15 [.ref 0, .int x1] [] h r h' :=
  (mX_iload_n d_X7_isBell_4 rfl).trans <| (mX_aload_n d_X7_isBell_5 rfl).trans <| (mG_r (b := (mn_hr h)) d_X7_isBell_6 fr_96_51 rfl (by decide) rfl).trans <| (mG_i d_X7_isBell_9 fi_96_86 (mn_shT0 hy0) (mn_ltT0 hy0)).trans <| mX_icmp_ge d_X7_isBell_12 rfl
theorem b_X7_isBell_15 {x1 : Int32} {h h' : mn_H} {r : Option Value} : mn_E 96 15 [.ref 0, .int x1] [] h r h' ↔ mn_E 96 20 [.ref 0, .int x1] [.int 1] h r h' :=
  (mX_iconst d_X7_isBell_15 ci_1).trans <| mX_goto d_X7_isBell_16 rfl
theorem b_X7_isBell_19 {x1 : Int32} {h h' : mn_H} {r : Option Value} : mn_E 96 19 [.ref 0, .int x1] [] h r h' ↔ mn_E 96 20 [.ref 0, .int x1] [.int 0] h r h' :=
  mX_iconst d_X7_isBell_19 ci_0
theorem b_X7_isBell_20 {x1 s0 : Int32} {h h' : mn_H} {r : Option Value} (hy0 : s0 = 0 ∨ s0 = 1) : mn_E 96 20 [.ref 0, .int x1] [.int s0] h r h' ↔ r = some (.int s0) ∧ h' = h :=
  mX_zret d_X7_isBell_20 rfl hy0
-- X7_isGroup
theorem mo_97 : mO 97 = 7 := rfl
theorem d_X7_isGroup_0 : decode (mC 97) 0 = .ok (.iload_n 1, 1) := by decide +kernel
theorem d_X7_isGroup_1 : decode (mC 97) 1 = .ok (.ifCond .lt 18, 3) := by decide +kernel
theorem d_X7_isGroup_4 : decode (mC 97) 4 = .ok (.iload_n 1, 1) := by decide +kernel
theorem d_X7_isGroup_5 : decode (mC 97) 5 = .ok (.aload_n 0, 1) := by decide +kernel
theorem d_X7_isGroup_6 : decode (mC 97) 6 = .ok (.getfield 51, 3) := by decide +kernel
theorem d_X7_isGroup_9 : decode (mC 97) 9 = .ok (.getfield 93, 3) := by decide +kernel
theorem d_X7_isGroup_12 : decode (mC 97) 12 = .ok (.if_icmp .ge 7, 3) := by decide +kernel
theorem d_X7_isGroup_15 : decode (mC 97) 15 = .ok (.iconst 1, 1) := by decide +kernel
theorem d_X7_isGroup_16 : decode (mC 97) 16 = .ok (.goto 4, 3) := by decide +kernel
theorem d_X7_isGroup_19 : decode (mC 97) 19 = .ok (.iconst 0, 1) := by decide +kernel
theorem d_X7_isGroup_20 : decode (mC 97) 20 = .ok (.ireturn, 1) := by decide +kernel
theorem fr_97_51 : mn_fr 97 7 51 7 6 = true := by decide +kernel
theorem fi_97_93 : mn_fi 97 7 93 5 4 = true := by decide +kernel
theorem b_X7_isGroup_0 {x1 : Int32} {h h' : mn_H} {r : Option Value} : mn_E 97 0 [.ref 0, .int x1] [] h r h' ↔ if x1 < 0 then mn_E 97 19 [.ref 0, .int x1] [] h r h' else mn_E 97 4 [.ref 0, .int x1] [] h r h' :=
  (mX_iload_n d_X7_isGroup_0 rfl).trans <| mX_if_lt d_X7_isGroup_1 rfl
theorem b_X7_isGroup_4 {x1 : Int32} {h h' : mn_H} {r : Option Value} (hy0 : mn_isT (mn_hr h)) : mn_E 97 4 [.ref 0, .int x1] [] h r h' ↔ if (h (mn_hr h) 4) ≤ x1 then mn_E 97 19 [.ref 0, .int x1] [] h r h' else mn_E 97 15 [.ref 0, .int x1] [] h r h' :=
  (mX_iload_n d_X7_isGroup_4 rfl).trans <| (mX_aload_n d_X7_isGroup_5 rfl).trans <| (mG_r (b := (mn_hr h)) d_X7_isGroup_6 fr_97_51 rfl (by decide) rfl).trans <| (mG_i d_X7_isGroup_9 fi_97_93 (mn_shT0 hy0) (mn_ltT0 hy0)).trans <| mX_icmp_ge d_X7_isGroup_12 rfl
theorem b_X7_isGroup_15 {x1 : Int32} {h h' : mn_H} {r : Option Value} : mn_E 97 15 [.ref 0, .int x1] [] h r h' ↔ mn_E 97 20 [.ref 0, .int x1] [.int 1] h r h' :=
  (mX_iconst d_X7_isGroup_15 ci_1).trans <| mX_goto d_X7_isGroup_16 rfl
theorem b_X7_isGroup_19 {x1 : Int32} {h h' : mn_H} {r : Option Value} : mn_E 97 19 [.ref 0, .int x1] [] h r h' ↔ mn_E 97 20 [.ref 0, .int x1] [.int 0] h r h' :=
  mX_iconst d_X7_isGroup_19 ci_0
theorem b_X7_isGroup_20 {x1 s0 : Int32} {h h' : mn_H} {r : Option Value} (hy0 : s0 = 0 ∨ s0 = 1) : mn_E 97 20 [.ref 0, .int x1] [.int s0] h r h' ↔ r = some (.int s0) ∧ h' = h :=
  mX_zret d_X7_isGroup_20 rfl hy0
-- X7_isRing
theorem mo_98 : mO 98 = 7 := rfl
theorem d_X7_isRing_0 : decode (mC 98) 0 = .ok (.iload_n 1, 1) := by decide +kernel
theorem d_X7_isRing_1 : decode (mC 98) 1 = .ok (.ifCond .lt 18, 3) := by decide +kernel
theorem d_X7_isRing_4 : decode (mC 98) 4 = .ok (.iload_n 1, 1) := by decide +kernel
theorem d_X7_isRing_5 : decode (mC 98) 5 = .ok (.aload_n 0, 1) := by decide +kernel
theorem d_X7_isRing_6 : decode (mC 98) 6 = .ok (.getfield 51, 3) := by decide +kernel
theorem d_X7_isRing_9 : decode (mC 98) 9 = .ok (.invokevirtual 320, 3) := by decide +kernel
theorem d_X7_isRing_12 : decode (mC 98) 12 = .ok (.if_icmp .ge 7, 3) := by decide +kernel
theorem d_X7_isRing_15 : decode (mC 98) 15 = .ok (.iconst 1, 1) := by decide +kernel
theorem d_X7_isRing_16 : decode (mC 98) 16 = .ok (.goto 4, 3) := by decide +kernel
theorem d_X7_isRing_19 : decode (mC 98) 19 = .ok (.iconst 0, 1) := by decide +kernel
theorem d_X7_isRing_20 : decode (mC 98) 20 = .ok (.ireturn, 1) := by decide +kernel
theorem fr_98_51 : mn_fr 98 7 51 7 6 = true := by decide +kernel
theorem cv_98_320 : mn_cvt 98 7 320 48 = true := by decide +kernel
theorem b_X7_isRing_0 {x1 : Int32} {h h' : mn_H} {r : Option Value} : mn_E 98 0 [.ref 0, .int x1] [] h r h' ↔ if x1 < 0 then mn_E 98 19 [.ref 0, .int x1] [] h r h' else mn_E 98 4 [.ref 0, .int x1] [] h r h' :=
  (mX_iload_n d_X7_isRing_0 rfl).trans <| mX_if_lt d_X7_isRing_1 rfl
theorem b_X7_isRing_4 {x1 : Int32} {h h' : mn_H} {r : Option Value} (hy0 : mn_isT (mn_hr h)) : mn_E 98 4 [.ref 0, .int x1] [] h r h' ↔ ∃ x h1, mn_X 48 [.ref (mn_hr h)] h (some (.int x)) h1 ∧ mn_E 98 12 [.ref 0, .int x1] [.int x, .int x1] h1 r h' :=
  (mX_iload_n d_X7_isRing_4 rfl).trans <| (mX_aload_n d_X7_isRing_5 rfl).trans <| (mG_r (b := (mn_hr h)) d_X7_isRing_6 fr_98_51 rfl (by decide) rfl).trans <| mV_i (a := (mn_hr h)) (vs := []) (st' := [.int x1]) d_X7_isRing_9 cv_98_320 (Or.inl rfl) (Nat.le_of_ble_eq_true rfl) rfl rfl (mn_shT0 hy0) rfl
theorem b_X7_isRing_12 {x1 s0 s1 : Int32} {h h' : mn_H} {r : Option Value} : mn_E 98 12 [.ref 0, .int x1] [.int s0, .int s1] h r h' ↔ if s0 ≤ s1 then mn_E 98 19 [.ref 0, .int x1] [] h r h' else mn_E 98 15 [.ref 0, .int x1] [] h r h' :=
  mX_icmp_ge d_X7_isRing_12 rfl
theorem b_X7_isRing_15 {x1 : Int32} {h h' : mn_H} {r : Option Value} : mn_E 98 15 [.ref 0, .int x1] [] h r h' ↔ mn_E 98 20 [.ref 0, .int x1] [.int 1] h r h' :=
  (mX_iconst d_X7_isRing_15 ci_1).trans <| mX_goto d_X7_isRing_16 rfl
theorem b_X7_isRing_19 {x1 : Int32} {h h' : mn_H} {r : Option Value} : mn_E 98 19 [.ref 0, .int x1] [] h r h' ↔ mn_E 98 20 [.ref 0, .int x1] [.int 0] h r h' :=
  mX_iconst d_X7_isRing_19 ci_0
theorem b_X7_isRing_20 {x1 s0 : Int32} {h h' : mn_H} {r : Option Value} (hy0 : s0 = 0 ∨ s0 = 1) : mn_E 98 20 [.ref 0, .int x1] [.int s0] h r h' ↔ r = some (.int s0) ∧ h' = h :=
  mX_zret d_X7_isRing_20 rfl hy0
-- X7_isDay
theorem mo_99 : mO 99 = 7 := rfl
theorem d_X7_isDay_0 : decode (mC 99) 0 = .ok (.iload_n 0, 1) := by decide +kernel
theorem d_X7_isDay_1 : decode (mC 99) 1 = .ok (.ifCond .lt 13, 3) := by decide +kernel
theorem d_X7_isDay_4 : decode (mC 99) 4 = .ok (.iload_n 0, 1) := by decide +kernel
theorem d_X7_isDay_5 : decode (mC 99) 5 = .ok (.bipush 64, 2) := by decide +kernel
theorem d_X7_isDay_7 : decode (mC 99) 7 = .ok (.if_icmp .ge 7, 3) := by decide +kernel
theorem d_X7_isDay_10 : decode (mC 99) 10 = .ok (.iconst 1, 1) := by decide +kernel
theorem d_X7_isDay_11 : decode (mC 99) 11 = .ok (.goto 4, 3) := by decide +kernel
theorem d_X7_isDay_14 : decode (mC 99) 14 = .ok (.iconst 0, 1) := by decide +kernel
theorem d_X7_isDay_15 : decode (mC 99) 15 = .ok (.ireturn, 1) := by decide +kernel
theorem b_X7_isDay_0 {x0 : Int32} {h h' : mn_H} {r : Option Value} : mn_E 99 0 [.int x0] [] h r h' ↔ if x0 < 0 then mn_E 99 14 [.int x0] [] h r h' else mn_E 99 4 [.int x0] [] h r h' :=
  (mX_iload_n d_X7_isDay_0 rfl).trans <| mX_if_lt d_X7_isDay_1 rfl
theorem b_X7_isDay_4 {x0 : Int32} {h h' : mn_H} {r : Option Value} : mn_E 99 4 [.int x0] [] h r h' ↔ if (64 : Int32) ≤ x0 then mn_E 99 14 [.int x0] [] h r h' else mn_E 99 10 [.int x0] [] h r h' :=
  (mX_iload_n d_X7_isDay_4 rfl).trans <| (mX_bipush d_X7_isDay_5 cb_64).trans <| mX_icmp_ge d_X7_isDay_7 rfl
theorem b_X7_isDay_10 {x0 : Int32} {h h' : mn_H} {r : Option Value} : mn_E 99 10 [.int x0] [] h r h' ↔ mn_E 99 15 [.int x0] [.int 1] h r h' :=
  (mX_iconst d_X7_isDay_10 ci_1).trans <| mX_goto d_X7_isDay_11 rfl
theorem b_X7_isDay_14 {x0 : Int32} {h h' : mn_H} {r : Option Value} : mn_E 99 14 [.int x0] [] h r h' ↔ mn_E 99 15 [.int x0] [.int 0] h r h' :=
  mX_iconst d_X7_isDay_14 ci_0
theorem b_X7_isDay_15 {x0 s0 : Int32} {h h' : mn_H} {r : Option Value} (hy0 : s0 = 0 ∨ s0 = 1) : mn_E 99 15 [.int x0] [.int s0] h r h' ↔ r = some (.int s0) ∧ h' = h :=
  mX_zret d_X7_isDay_15 rfl hy0
-- X7_isHappening
theorem mo_100 : mO 100 = 7 := rfl
theorem d_X7_isHappening_0 : decode (mC 100) 0 = .ok (.iload_n 0, 1) := by decide +kernel
theorem d_X7_isHappening_1 : decode (mC 100) 1 = .ok (.ifCond .lt 13, 3) := by decide +kernel
theorem d_X7_isHappening_4 : decode (mC 100) 4 = .ok (.iload_n 0, 1) := by decide +kernel
theorem d_X7_isHappening_5 : decode (mC 100) 5 = .ok (.bipush 6, 2) := by decide +kernel
theorem d_X7_isHappening_7 : decode (mC 100) 7 = .ok (.if_icmp .ge 7, 3) := by decide +kernel
theorem d_X7_isHappening_10 : decode (mC 100) 10 = .ok (.iconst 1, 1) := by decide +kernel
theorem d_X7_isHappening_11 : decode (mC 100) 11 = .ok (.goto 4, 3) := by decide +kernel
theorem d_X7_isHappening_14 : decode (mC 100) 14 = .ok (.iconst 0, 1) := by decide +kernel
theorem d_X7_isHappening_15 : decode (mC 100) 15 = .ok (.ireturn, 1) := by decide +kernel
theorem b_X7_isHappening_0 {x0 : Int32} {h h' : mn_H} {r : Option Value} : mn_E 100 0 [.int x0] [] h r h' ↔ if x0 < 0 then mn_E 100 14 [.int x0] [] h r h' else mn_E 100 4 [.int x0] [] h r h' :=
  (mX_iload_n d_X7_isHappening_0 rfl).trans <| mX_if_lt d_X7_isHappening_1 rfl
theorem b_X7_isHappening_4 {x0 : Int32} {h h' : mn_H} {r : Option Value} : mn_E 100 4 [.int x0] [] h r h' ↔ if (6 : Int32) ≤ x0 then mn_E 100 14 [.int x0] [] h r h' else mn_E 100 10 [.int x0] [] h r h' :=
  (mX_iload_n d_X7_isHappening_4 rfl).trans <| (mX_bipush d_X7_isHappening_5 cb_6).trans <| mX_icmp_ge d_X7_isHappening_7 rfl
theorem b_X7_isHappening_10 {x0 : Int32} {h h' : mn_H} {r : Option Value} : mn_E 100 10 [.int x0] [] h r h' ↔ mn_E 100 15 [.int x0] [.int 1] h r h' :=
  (mX_iconst d_X7_isHappening_10 ci_1).trans <| mX_goto d_X7_isHappening_11 rfl
theorem b_X7_isHappening_14 {x0 : Int32} {h h' : mn_H} {r : Option Value} : mn_E 100 14 [.int x0] [] h r h' ↔ mn_E 100 15 [.int x0] [.int 0] h r h' :=
  mX_iconst d_X7_isHappening_14 ci_0
theorem b_X7_isHappening_15 {x0 s0 : Int32} {h h' : mn_H} {r : Option Value} (hy0 : s0 = 0 ∨ s0 = 1) : mn_E 100 15 [.int x0] [.int s0] h r h' ↔ r = some (.int s0) ∧ h' = h :=
  mX_zret d_X7_isHappening_15 rfl hy0
-- X7_isChoice
theorem mo_101 : mO 101 = 7 := rfl
theorem d_X7_isChoice_0 : decode (mC 101) 0 = .ok (.iload_n 0, 1) := by decide +kernel
theorem d_X7_isChoice_1 : decode (mC 101) 1 = .ok (.ifCond .eq 8, 3) := by decide +kernel
theorem d_X7_isChoice_4 : decode (mC 101) 4 = .ok (.iload_n 0, 1) := by decide +kernel
theorem d_X7_isChoice_5 : decode (mC 101) 5 = .ok (.iconst 1, 1) := by decide +kernel
theorem d_X7_isChoice_6 : decode (mC 101) 6 = .ok (.if_icmp .ne 7, 3) := by decide +kernel
theorem d_X7_isChoice_9 : decode (mC 101) 9 = .ok (.iconst 1, 1) := by decide +kernel
theorem d_X7_isChoice_10 : decode (mC 101) 10 = .ok (.goto 4, 3) := by decide +kernel
theorem d_X7_isChoice_13 : decode (mC 101) 13 = .ok (.iconst 0, 1) := by decide +kernel
theorem d_X7_isChoice_14 : decode (mC 101) 14 = .ok (.ireturn, 1) := by decide +kernel
theorem b_X7_isChoice_0 {x0 : Int32} {h h' : mn_H} {r : Option Value} : mn_E 101 0 [.int x0] [] h r h' ↔ if x0 = 0 then mn_E 101 9 [.int x0] [] h r h' else mn_E 101 4 [.int x0] [] h r h' :=
  (mX_iload_n d_X7_isChoice_0 rfl).trans <| mX_if_eq d_X7_isChoice_1 rfl
theorem b_X7_isChoice_4 {x0 : Int32} {h h' : mn_H} {r : Option Value} : mn_E 101 4 [.int x0] [] h r h' ↔ if ¬ x0 = 1 then mn_E 101 13 [.int x0] [] h r h' else mn_E 101 9 [.int x0] [] h r h' :=
  (mX_iload_n d_X7_isChoice_4 rfl).trans <| (mX_iconst d_X7_isChoice_5 ci_1).trans <| mX_icmp_ne d_X7_isChoice_6 rfl
theorem b_X7_isChoice_9 {x0 : Int32} {h h' : mn_H} {r : Option Value} : mn_E 101 9 [.int x0] [] h r h' ↔ mn_E 101 14 [.int x0] [.int 1] h r h' :=
  (mX_iconst d_X7_isChoice_9 ci_1).trans <| mX_goto d_X7_isChoice_10 rfl
theorem b_X7_isChoice_13 {x0 : Int32} {h h' : mn_H} {r : Option Value} : mn_E 101 13 [.int x0] [] h r h' ↔ mn_E 101 14 [.int x0] [.int 0] h r h' :=
  mX_iconst d_X7_isChoice_13 ci_0
theorem b_X7_isChoice_14 {x0 s0 : Int32} {h h' : mn_H} {r : Option Value} (hy0 : s0 = 0 ∨ s0 = 1) : mn_E 101 14 [.int x0] [.int s0] h r h' ↔ r = some (.int s0) ∧ h' = h :=
  mX_zret d_X7_isChoice_14 rfl hy0
-- X7_supposeNow
theorem mo_102 : mO 102 = 7 := rfl
theorem d_X7_supposeNow_0 : decode (mC 102) 0 = .ok (.aload_n 0, 1) := by decide +kernel
theorem d_X7_supposeNow_1 : decode (mC 102) 1 = .ok (.getfield 37, 3) := by decide +kernel
theorem d_X7_supposeNow_4 : decode (mC 102) 4 = .ok (.aload_n 0, 1) := by decide +kernel
theorem d_X7_supposeNow_5 : decode (mC 102) 5 = .ok (.getfield 51, 3) := by decide +kernel
theorem d_X7_supposeNow_8 : decode (mC 102) 8 = .ok (.aload_n 0, 1) := by decide +kernel
theorem d_X7_supposeNow_9 : decode (mC 102) 9 = .ok (.getfield 19, 3) := by decide +kernel
theorem d_X7_supposeNow_12 : decode (mC 102) 12 = .ok (.getfield 120, 3) := by decide +kernel
theorem d_X7_supposeNow_15 : decode (mC 102) 15 = .ok (.aload_n 0, 1) := by decide +kernel
theorem d_X7_supposeNow_16 : decode (mC 102) 16 = .ok (.getfield 19, 3) := by decide +kernel
theorem d_X7_supposeNow_19 : decode (mC 102) 19 = .ok (.getfield 123, 3) := by decide +kernel
theorem d_X7_supposeNow_22 : decode (mC 102) 22 = .ok (.iconst (-1), 1) := by decide +kernel
theorem d_X7_supposeNow_23 : decode (mC 102) 23 = .ok (.iconst 0, 1) := by decide +kernel
theorem d_X7_supposeNow_24 : decode (mC 102) 24 = .ok (.invokevirtual 256, 3) := by decide +kernel
theorem d_X7_supposeNow_27 : decode (mC 102) 27 = .ok (.return_, 1) := by decide +kernel
theorem fr_102_37 : mn_fr 102 7 37 7 4 = true := by decide +kernel
theorem fr_102_51 : mn_fr 102 7 51 7 6 = true := by decide +kernel
theorem fr_102_19 : mn_fr 102 7 19 7 1 = true := by decide +kernel
theorem fi_102_120 : mn_fi 102 7 120 1 4 = true := by decide +kernel
theorem fi_102_123 : mn_fi 102 7 123 1 5 = true := by decide +kernel
theorem cv_102_256 : mn_cvt 102 7 256 57 = true := by decide +kernel
theorem b_X7_supposeNow_0 {h h' : mn_H} {r : Option Value} (hy0 : mn_isT (mn_hr h)) : mn_E 102 0 [.ref 0] [] h r h' ↔ ∃ h1, mn_X 57 [.ref 16, .ref (mn_hr h), .int (h 3 4), .int (h 3 5), .int (-1), .int 0] h none h1 ∧ mn_E 102 27 [.ref 0] [] h1 r h' :=
  (mX_aload_n d_X7_supposeNow_0 rfl).trans <| (mG_r (b := 16) d_X7_supposeNow_1 fr_102_37 rfl (by decide) rfl).trans <| (mX_aload_n d_X7_supposeNow_4 rfl).trans <| (mG_r (b := (mn_hr h)) d_X7_supposeNow_5 fr_102_51 rfl (by decide) rfl).trans <| (mX_aload_n d_X7_supposeNow_8 rfl).trans <| (mG_r (b := 3) d_X7_supposeNow_9 fr_102_19 rfl (by decide) rfl).trans <| (mG_i d_X7_supposeNow_12 fi_102_120 rfl (by decide)).trans <| (mX_aload_n d_X7_supposeNow_15 rfl).trans <| (mG_r (b := 3) d_X7_supposeNow_16 fr_102_19 rfl (by decide) rfl).trans <| (mG_i d_X7_supposeNow_19 fi_102_123 rfl (by decide)).trans <| (mX_iconst d_X7_supposeNow_22 ci_m1).trans <| (mX_iconst d_X7_supposeNow_23 ci_0).trans <| mV_v (a := 16) (vs := [.ref (mn_hr h), .int (h 3 4), .int (h 3 5), .int (-1), .int 0]) (st' := []) d_X7_supposeNow_24 cv_102_256 rfl (Nat.le_of_ble_eq_true rfl) rfl rfl rfl rfl
theorem b_X7_supposeNow_27 {h h' : mn_H} {r : Option Value} : mn_E 102 27 [.ref 0] [] h r h' ↔ r = none ∧ h' = h :=
  mX_vret d_X7_supposeNow_27 rfl
-- X7_possibleAsSupposed
theorem mo_103 : mO 103 = 7 := rfl
theorem d_X7_possibleAsSupposed_0 : decode (mC 103) 0 = .ok (.aload_n 0, 1) := by decide +kernel
theorem d_X7_possibleAsSupposed_1 : decode (mC 103) 1 = .ok (.getfield 37, 3) := by decide +kernel
theorem d_X7_possibleAsSupposed_4 : decode (mC 103) 4 = .ok (.aload_n 0, 1) := by decide +kernel
theorem d_X7_possibleAsSupposed_5 : decode (mC 103) 5 = .ok (.getfield 51, 3) := by decide +kernel
theorem d_X7_possibleAsSupposed_8 : decode (mC 103) 8 = .ok (.aload_n 0, 1) := by decide +kernel
theorem d_X7_possibleAsSupposed_9 : decode (mC 103) 9 = .ok (.getfield 19, 3) := by decide +kernel
theorem d_X7_possibleAsSupposed_12 : decode (mC 103) 12 = .ok (.invokevirtual 114, 3) := by decide +kernel
theorem d_X7_possibleAsSupposed_15 : decode (mC 103) 15 = .ok (.aload_n 0, 1) := by decide +kernel
theorem d_X7_possibleAsSupposed_16 : decode (mC 103) 16 = .ok (.getfield 51, 3) := by decide +kernel
theorem d_X7_possibleAsSupposed_19 : decode (mC 103) 19 = .ok (.aload_n 0, 1) := by decide +kernel
theorem d_X7_possibleAsSupposed_20 : decode (mC 103) 20 = .ok (.getfield 19, 3) := by decide +kernel
theorem d_X7_possibleAsSupposed_23 : decode (mC 103) 23 = .ok (.getfield 111, 3) := by decide +kernel
theorem d_X7_possibleAsSupposed_26 : decode (mC 103) 26 = .ok (.invokevirtual 198, 3) := by decide +kernel
theorem d_X7_possibleAsSupposed_29 : decode (mC 103) 29 = .ok (.invokevirtual 235, 3) := by decide +kernel
theorem d_X7_possibleAsSupposed_32 : decode (mC 103) 32 = .ok (.lreturn, 1) := by decide +kernel
theorem fr_103_37 : mn_fr 103 7 37 7 4 = true := by decide +kernel
theorem fr_103_51 : mn_fr 103 7 51 7 6 = true := by decide +kernel
theorem fr_103_19 : mn_fr 103 7 19 7 1 = true := by decide +kernel
theorem cv_103_114 : mn_cvt 103 7 114 6 = true := by decide +kernel
theorem fi_103_111 : mn_fi 103 7 111 1 2 = true := by decide +kernel
theorem cv_103_198 : mn_cvt 103 7 198 52 = true := by decide +kernel
theorem cv_103_235 : mn_cvt 103 7 235 62 = true := by decide +kernel
theorem b_X7_possibleAsSupposed_0 {h h' : mn_H} {r : Option Value} (hy0 : mn_isT (mn_hr h)) : mn_E 103 0 [.ref 0] [] h r h' ↔ ∃ x h1, mn_X 6 [.ref 3] h (some (.int x)) h1 ∧ mn_E 103 15 [.ref 0] [.int x, .ref (mn_hr h), .ref 16] h1 r h' :=
  (mX_aload_n d_X7_possibleAsSupposed_0 rfl).trans <| (mG_r (b := 16) d_X7_possibleAsSupposed_1 fr_103_37 rfl (by decide) rfl).trans <| (mX_aload_n d_X7_possibleAsSupposed_4 rfl).trans <| (mG_r (b := (mn_hr h)) d_X7_possibleAsSupposed_5 fr_103_51 rfl (by decide) rfl).trans <| (mX_aload_n d_X7_possibleAsSupposed_8 rfl).trans <| (mG_r (b := 3) d_X7_possibleAsSupposed_9 fr_103_19 rfl (by decide) rfl).trans <| mV_i (a := 3) (vs := []) (st' := [.ref (mn_hr h), .ref 16]) d_X7_possibleAsSupposed_12 cv_103_114 (Or.inl rfl) (Nat.le_of_ble_eq_true rfl) rfl rfl rfl rfl
theorem b_X7_possibleAsSupposed_15 {s0 : Int32} {bs1 : Nat} {h h' : mn_H} {r : Option Value} (hbs1 : mn_isT bs1) (hy1 : mn_isT (mn_hr h)) : mn_E 103 15 [.ref 0] [.int s0, .ref bs1, .ref 16] h r h' ↔ ∃ x h1, mn_X 52 [.ref (mn_hr h), .int (h 3 2)] h (some (.int x)) h1 ∧ mn_E 103 29 [.ref 0] [.int x, .int s0, .ref bs1, .ref 16] h1 r h' :=
  (mX_aload_n d_X7_possibleAsSupposed_15 rfl).trans <| (mG_r (b := (mn_hr h)) d_X7_possibleAsSupposed_16 fr_103_51 rfl (by decide) rfl).trans <| (mX_aload_n d_X7_possibleAsSupposed_19 rfl).trans <| (mG_r (b := 3) d_X7_possibleAsSupposed_20 fr_103_19 rfl (by decide) rfl).trans <| (mG_i d_X7_possibleAsSupposed_23 fi_103_111 rfl (by decide)).trans <| mV_i (a := (mn_hr h)) (vs := [.int (h 3 2)]) (st' := [.int s0, .ref bs1, .ref 16]) d_X7_possibleAsSupposed_26 cv_103_198 (Or.inl rfl) (Nat.le_of_ble_eq_true rfl) rfl rfl (mn_shT0 hy1) rfl
theorem b_X7_possibleAsSupposed_29 {s0 s1 : Int32} {bs2 : Nat} {h h' : mn_H} {r : Option Value} (hbs2 : mn_isT bs2) : mn_E 103 29 [.ref 0] [.int s0, .int s1, .ref bs2, .ref 16] h r h' ↔ ∃ x h1, mn_X 62 [.ref 16, .ref bs2, .int s1, .int s0] h (some (.long x)) h1 ∧ mn_E 103 32 [.ref 0] [.long x] h1 r h' :=
  mV_l (a := 16) (vs := [.ref bs2, .int s1, .int s0]) (st' := []) d_X7_possibleAsSupposed_29 cv_103_235 rfl (Nat.le_of_ble_eq_true rfl) rfl rfl rfl rfl
theorem b_X7_possibleAsSupposed_32 {m0 : Int64} {h h' : mn_H} {r : Option Value} : mn_E 103 32 [.ref 0] [.long m0] h r h' ↔ r = some (.long m0) ∧ h' = h :=
  mX_lret d_X7_possibleAsSupposed_32 rfl
-- X7_possibleDays
theorem mo_104 : mO 104 = 7 := rfl
theorem d_X7_possibleDays_0 : decode (mC 104) 0 = .ok (.aload_n 0, 1) := by decide +kernel
theorem d_X7_possibleDays_1 : decode (mC 104) 1 = .ok (.invokevirtual 195, 3) := by decide +kernel
theorem d_X7_possibleDays_4 : decode (mC 104) 4 = .ok (.aload_n 0, 1) := by decide +kernel
theorem d_X7_possibleDays_5 : decode (mC 104) 5 = .ok (.invokevirtual 260, 3) := by decide +kernel
theorem d_X7_possibleDays_8 : decode (mC 104) 8 = .ok (.lreturn, 1) := by decide +kernel
theorem cv_104_195 : mn_cvt 104 7 195 102 = true := by decide +kernel
theorem cv_104_260 : mn_cvt 104 7 260 103 = true := by decide +kernel
theorem b_X7_possibleDays_0 {h h' : mn_H} {r : Option Value} : mn_E 104 0 [.ref 0] [] h r h' ↔ ∃ h1, mn_X 102 [.ref 0] h none h1 ∧ mn_E 104 4 [.ref 0] [] h1 r h' :=
  (mX_aload_n d_X7_possibleDays_0 rfl).trans <| mV_v (a := 0) (vs := []) (st' := []) d_X7_possibleDays_1 cv_104_195 rfl (Nat.le_of_ble_eq_true rfl) rfl rfl rfl rfl
theorem b_X7_possibleDays_4 {h h' : mn_H} {r : Option Value} : mn_E 104 4 [.ref 0] [] h r h' ↔ ∃ x h1, mn_X 103 [.ref 0] h (some (.long x)) h1 ∧ mn_E 104 8 [.ref 0] [.long x] h1 r h' :=
  (mX_aload_n d_X7_possibleDays_4 rfl).trans <| mV_l (a := 0) (vs := []) (st' := []) d_X7_possibleDays_5 cv_104_260 rfl (Nat.le_of_ble_eq_true rfl) rfl rfl rfl rfl
theorem b_X7_possibleDays_8 {m0 : Int64} {h h' : mn_H} {r : Option Value} : mn_E 104 8 [.ref 0] [.long m0] h r h' ↔ r = some (.long m0) ∧ h' = h :=
  mX_lret d_X7_possibleDays_8 rfl
-- X7_fittingDays
theorem mo_105 : mO 105 = 7 := rfl
theorem d_X7_fittingDays_0 : decode (mC 105) 0 = .ok (.aload_n 0, 1) := by decide +kernel
theorem d_X7_fittingDays_1 : decode (mC 105) 1 = .ok (.invokevirtual 195, 3) := by decide +kernel
theorem d_X7_fittingDays_4 : decode (mC 105) 4 = .ok (.aload_n 0, 1) := by decide +kernel
theorem d_X7_fittingDays_5 : decode (mC 105) 5 = .ok (.getfield 37, 3) := by decide +kernel
theorem d_X7_fittingDays_8 : decode (mC 105) 8 = .ok (.aload_n 0, 1) := by decide +kernel
theorem d_X7_fittingDays_9 : decode (mC 105) 9 = .ok (.getfield 51, 3) := by decide +kernel
theorem d_X7_fittingDays_12 : decode (mC 105) 12 = .ok (.aload_n 0, 1) := by decide +kernel
theorem d_X7_fittingDays_13 : decode (mC 105) 13 = .ok (.getfield 19, 3) := by decide +kernel
theorem d_X7_fittingDays_16 : decode (mC 105) 16 = .ok (.invokevirtual 114, 3) := by decide +kernel
theorem d_X7_fittingDays_19 : decode (mC 105) 19 = .ok (.aload_n 0, 1) := by decide +kernel
theorem d_X7_fittingDays_20 : decode (mC 105) 20 = .ok (.getfield 51, 3) := by decide +kernel
theorem d_X7_fittingDays_23 : decode (mC 105) 23 = .ok (.aload_n 0, 1) := by decide +kernel
theorem d_X7_fittingDays_24 : decode (mC 105) 24 = .ok (.getfield 19, 3) := by decide +kernel
theorem d_X7_fittingDays_27 : decode (mC 105) 27 = .ok (.getfield 111, 3) := by decide +kernel
theorem d_X7_fittingDays_30 : decode (mC 105) 30 = .ok (.invokevirtual 198, 3) := by decide +kernel
theorem d_X7_fittingDays_33 : decode (mC 105) 33 = .ok (.iload_n 1, 1) := by decide +kernel
theorem d_X7_fittingDays_34 : decode (mC 105) 34 = .ok (.iload_n 2, 1) := by decide +kernel
theorem d_X7_fittingDays_35 : decode (mC 105) 35 = .ok (.invokevirtual 323, 3) := by decide +kernel
theorem d_X7_fittingDays_38 : decode (mC 105) 38 = .ok (.lreturn, 1) := by decide +kernel
theorem cv_105_195 : mn_cvt 105 7 195 102 = true := by decide +kernel
theorem fr_105_37 : mn_fr 105 7 37 7 4 = true := by decide +kernel
theorem fr_105_51 : mn_fr 105 7 51 7 6 = true := by decide +kernel
theorem fr_105_19 : mn_fr 105 7 19 7 1 = true := by decide +kernel
theorem cv_105_114 : mn_cvt 105 7 114 6 = true := by decide +kernel
theorem fi_105_111 : mn_fi 105 7 111 1 2 = true := by decide +kernel
theorem cv_105_198 : mn_cvt 105 7 198 52 = true := by decide +kernel
theorem cv_105_323 : mn_cvt 105 7 323 61 = true := by decide +kernel
theorem b_X7_fittingDays_0 {x1 x2 : Int32} {h h' : mn_H} {r : Option Value} : mn_E 105 0 [.ref 0, .int x1, .int x2] [] h r h' ↔ ∃ h1, mn_X 102 [.ref 0] h none h1 ∧ mn_E 105 4 [.ref 0, .int x1, .int x2] [] h1 r h' :=
  (mX_aload_n d_X7_fittingDays_0 rfl).trans <| mV_v (a := 0) (vs := []) (st' := []) d_X7_fittingDays_1 cv_105_195 rfl (Nat.le_of_ble_eq_true rfl) rfl rfl rfl rfl
theorem b_X7_fittingDays_4 {x1 x2 : Int32} {h h' : mn_H} {r : Option Value} (hy0 : mn_isT (mn_hr h)) : mn_E 105 4 [.ref 0, .int x1, .int x2] [] h r h' ↔ ∃ x h1, mn_X 6 [.ref 3] h (some (.int x)) h1 ∧ mn_E 105 19 [.ref 0, .int x1, .int x2] [.int x, .ref (mn_hr h), .ref 16] h1 r h' :=
  (mX_aload_n d_X7_fittingDays_4 rfl).trans <| (mG_r (b := 16) d_X7_fittingDays_5 fr_105_37 rfl (by decide) rfl).trans <| (mX_aload_n d_X7_fittingDays_8 rfl).trans <| (mG_r (b := (mn_hr h)) d_X7_fittingDays_9 fr_105_51 rfl (by decide) rfl).trans <| (mX_aload_n d_X7_fittingDays_12 rfl).trans <| (mG_r (b := 3) d_X7_fittingDays_13 fr_105_19 rfl (by decide) rfl).trans <| mV_i (a := 3) (vs := []) (st' := [.ref (mn_hr h), .ref 16]) d_X7_fittingDays_16 cv_105_114 (Or.inl rfl) (Nat.le_of_ble_eq_true rfl) rfl rfl rfl rfl
theorem b_X7_fittingDays_19 {x1 x2 s0 : Int32} {bs1 : Nat} {h h' : mn_H} {r : Option Value} (hbs1 : mn_isT bs1) (hy1 : mn_isT (mn_hr h)) : mn_E 105 19 [.ref 0, .int x1, .int x2] [.int s0, .ref bs1, .ref 16] h r h' ↔ ∃ x h1, mn_X 52 [.ref (mn_hr h), .int (h 3 2)] h (some (.int x)) h1 ∧ mn_E 105 33 [.ref 0, .int x1, .int x2] [.int x, .int s0, .ref bs1, .ref 16] h1 r h' :=
  (mX_aload_n d_X7_fittingDays_19 rfl).trans <| (mG_r (b := (mn_hr h)) d_X7_fittingDays_20 fr_105_51 rfl (by decide) rfl).trans <| (mX_aload_n d_X7_fittingDays_23 rfl).trans <| (mG_r (b := 3) d_X7_fittingDays_24 fr_105_19 rfl (by decide) rfl).trans <| (mG_i d_X7_fittingDays_27 fi_105_111 rfl (by decide)).trans <| mV_i (a := (mn_hr h)) (vs := [.int (h 3 2)]) (st' := [.int s0, .ref bs1, .ref 16]) d_X7_fittingDays_30 cv_105_198 (Or.inl rfl) (Nat.le_of_ble_eq_true rfl) rfl rfl (mn_shT0 hy1) rfl
theorem b_X7_fittingDays_33 {x1 x2 s0 s1 : Int32} {bs2 : Nat} {h h' : mn_H} {r : Option Value} (hbs2 : mn_isT bs2) : mn_E 105 33 [.ref 0, .int x1, .int x2] [.int s0, .int s1, .ref bs2, .ref 16] h r h' ↔ ∃ x h1, mn_X 61 [.ref 16, .ref bs2, .int s1, .int s0, .int x1, .int x2] h (some (.long x)) h1 ∧ mn_E 105 38 [.ref 0, .int x1, .int x2] [.long x] h1 r h' :=
  (mX_iload_n d_X7_fittingDays_33 rfl).trans <| (mX_iload_n d_X7_fittingDays_34 rfl).trans <| mV_l (a := 16) (vs := [.ref bs2, .int s1, .int s0, .int x1, .int x2]) (st' := []) d_X7_fittingDays_35 cv_105_323 rfl (Nat.le_of_ble_eq_true rfl) rfl rfl rfl rfl
theorem b_X7_fittingDays_38 {x1 x2 : Int32} {m0 : Int64} {h h' : mn_H} {r : Option Value} : mn_E 105 38 [.ref 0, .int x1, .int x2] [.long m0] h r h' ↔ r = some (.long m0) ∧ h' = h :=
  mX_lret d_X7_fittingDays_38 rfl
-- X7_greatestHarmIfMay
theorem mo_106 : mO 106 = 7 := rfl
theorem d_X7_greatestHarmIfMay_0 : decode (mC 106) 0 = .ok (.aload_n 0, 1) := by decide +kernel
theorem d_X7_greatestHarmIfMay_1 : decode (mC 106) 1 = .ok (.getfield 37, 3) := by decide +kernel
theorem d_X7_greatestHarmIfMay_4 : decode (mC 106) 4 = .ok (.aload_n 0, 1) := by decide +kernel
theorem d_X7_greatestHarmIfMay_5 : decode (mC 106) 5 = .ok (.getfield 51, 3) := by decide +kernel
theorem d_X7_greatestHarmIfMay_8 : decode (mC 106) 8 = .ok (.aload_n 0, 1) := by decide +kernel
theorem d_X7_greatestHarmIfMay_9 : decode (mC 106) 9 = .ok (.getfield 19, 3) := by decide +kernel
theorem d_X7_greatestHarmIfMay_12 : decode (mC 106) 12 = .ok (.getfield 120, 3) := by decide +kernel
theorem d_X7_greatestHarmIfMay_15 : decode (mC 106) 15 = .ok (.iload_n 1, 1) := by decide +kernel
theorem d_X7_greatestHarmIfMay_16 : decode (mC 106) 16 = .ok (.iconst (-1), 1) := by decide +kernel
theorem d_X7_greatestHarmIfMay_17 : decode (mC 106) 17 = .ok (.iconst 0, 1) := by decide +kernel
theorem d_X7_greatestHarmIfMay_18 : decode (mC 106) 18 = .ok (.invokevirtual 256, 3) := by decide +kernel
theorem d_X7_greatestHarmIfMay_21 : decode (mC 106) 21 = .ok (.aload_n 0, 1) := by decide +kernel
theorem d_X7_greatestHarmIfMay_22 : decode (mC 106) 22 = .ok (.getfield 51, 3) := by decide +kernel
theorem d_X7_greatestHarmIfMay_25 : decode (mC 106) 25 = .ok (.aload_n 0, 1) := by decide +kernel
theorem d_X7_greatestHarmIfMay_26 : decode (mC 106) 26 = .ok (.invokevirtual 260, 3) := by decide +kernel
theorem d_X7_greatestHarmIfMay_29 : decode (mC 106) 29 = .ok (.invokevirtual 327, 3) := by decide +kernel
theorem d_X7_greatestHarmIfMay_32 : decode (mC 106) 32 = .ok (.ireturn, 1) := by decide +kernel
theorem fr_106_37 : mn_fr 106 7 37 7 4 = true := by decide +kernel
theorem fr_106_51 : mn_fr 106 7 51 7 6 = true := by decide +kernel
theorem fr_106_19 : mn_fr 106 7 19 7 1 = true := by decide +kernel
theorem fi_106_120 : mn_fi 106 7 120 1 4 = true := by decide +kernel
theorem cv_106_256 : mn_cvt 106 7 256 57 = true := by decide +kernel
theorem cv_106_260 : mn_cvt 106 7 260 103 = true := by decide +kernel
theorem cv_106_327 : mn_cvt 106 7 327 56 = true := by decide +kernel
theorem b_X7_greatestHarmIfMay_0 {x1 : Int32} {h h' : mn_H} {r : Option Value} (hy0 : mn_isT (mn_hr h)) : mn_E 106 0 [.ref 0, .int x1] [] h r h' ↔ ∃ h1, mn_X 57 [.ref 16, .ref (mn_hr h), .int (h 3 4), .int x1, .int (-1), .int 0] h none h1 ∧ mn_E 106 21 [.ref 0, .int x1] [] h1 r h' :=
  (mX_aload_n d_X7_greatestHarmIfMay_0 rfl).trans <| (mG_r (b := 16) d_X7_greatestHarmIfMay_1 fr_106_37 rfl (by decide) rfl).trans <| (mX_aload_n d_X7_greatestHarmIfMay_4 rfl).trans <| (mG_r (b := (mn_hr h)) d_X7_greatestHarmIfMay_5 fr_106_51 rfl (by decide) rfl).trans <| (mX_aload_n d_X7_greatestHarmIfMay_8 rfl).trans <| (mG_r (b := 3) d_X7_greatestHarmIfMay_9 fr_106_19 rfl (by decide) rfl).trans <| (mG_i d_X7_greatestHarmIfMay_12 fi_106_120 rfl (by decide)).trans <| (mX_iload_n d_X7_greatestHarmIfMay_15 rfl).trans <| (mX_iconst d_X7_greatestHarmIfMay_16 ci_m1).trans <| (mX_iconst d_X7_greatestHarmIfMay_17 ci_0).trans <| mV_v (a := 16) (vs := [.ref (mn_hr h), .int (h 3 4), .int x1, .int (-1), .int 0]) (st' := []) d_X7_greatestHarmIfMay_18 cv_106_256 rfl (Nat.le_of_ble_eq_true rfl) rfl rfl rfl rfl
theorem b_X7_greatestHarmIfMay_21 {x1 : Int32} {h h' : mn_H} {r : Option Value} (hy0 : mn_isT (mn_hr h)) : mn_E 106 21 [.ref 0, .int x1] [] h r h' ↔ ∃ x h1, mn_X 103 [.ref 0] h (some (.long x)) h1 ∧ mn_E 106 29 [.ref 0, .int x1] [.long x, .ref (mn_hr h)] h1 r h' :=
  (mX_aload_n d_X7_greatestHarmIfMay_21 rfl).trans <| (mG_r (b := (mn_hr h)) d_X7_greatestHarmIfMay_22 fr_106_51 rfl (by decide) rfl).trans <| (mX_aload_n d_X7_greatestHarmIfMay_25 rfl).trans <| mV_l (a := 0) (vs := []) (st' := [.ref (mn_hr h)]) d_X7_greatestHarmIfMay_26 cv_106_260 rfl (Nat.le_of_ble_eq_true rfl) rfl rfl rfl rfl
theorem b_X7_greatestHarmIfMay_29 {x1 : Int32} {m0 : Int64} {bs1 : Nat} {h h' : mn_H} {r : Option Value} (hbs1 : mn_isT bs1) : mn_E 106 29 [.ref 0, .int x1] [.long m0, .ref bs1] h r h' ↔ ∃ x h1, mn_X 56 [.ref bs1, .long m0] h (some (.int x)) h1 ∧ mn_E 106 32 [.ref 0, .int x1] [.int x] h1 r h' :=
  mV_i (a := bs1) (vs := [.long m0]) (st' := []) d_X7_greatestHarmIfMay_29 cv_106_327 (Or.inl rfl) (Nat.le_of_ble_eq_true rfl) rfl rfl (mn_shT0 hbs1) rfl
theorem b_X7_greatestHarmIfMay_32 {x1 s0 : Int32} {h h' : mn_H} {r : Option Value} : mn_E 106 32 [.ref 0, .int x1] [.int s0] h r h' ↔ r = some (.int s0) ∧ h' = h :=
  mX_iret d_X7_greatestHarmIfMay_32 rfl
-- X7_isKeptOffIfDeaf
theorem mo_107 : mO 107 = 7 := rfl
theorem d_X7_isKeptOffIfDeaf_0 : decode (mC 107) 0 = .ok (.aload_n 0, 1) := by decide +kernel
theorem d_X7_isKeptOffIfDeaf_1 : decode (mC 107) 1 = .ok (.getfield 37, 3) := by decide +kernel
theorem d_X7_isKeptOffIfDeaf_4 : decode (mC 107) 4 = .ok (.aload_n 0, 1) := by decide +kernel
theorem d_X7_isKeptOffIfDeaf_5 : decode (mC 107) 5 = .ok (.getfield 51, 3) := by decide +kernel
theorem d_X7_isKeptOffIfDeaf_8 : decode (mC 107) 8 = .ok (.aload_n 0, 1) := by decide +kernel
theorem d_X7_isKeptOffIfDeaf_9 : decode (mC 107) 9 = .ok (.getfield 19, 3) := by decide +kernel
theorem d_X7_isKeptOffIfDeaf_12 : decode (mC 107) 12 = .ok (.getfield 120, 3) := by decide +kernel
theorem d_X7_isKeptOffIfDeaf_15 : decode (mC 107) 15 = .ok (.iload_n 2, 1) := by decide +kernel
theorem d_X7_isKeptOffIfDeaf_16 : decode (mC 107) 16 = .ok (.ior, 1) := by decide +kernel
theorem d_X7_isKeptOffIfDeaf_17 : decode (mC 107) 17 = .ok (.aload_n 0, 1) := by decide +kernel
theorem d_X7_isKeptOffIfDeaf_18 : decode (mC 107) 18 = .ok (.getfield 19, 3) := by decide +kernel
theorem d_X7_isKeptOffIfDeaf_21 : decode (mC 107) 21 = .ok (.getfield 123, 3) := by decide +kernel
theorem d_X7_isKeptOffIfDeaf_24 : decode (mC 107) 24 = .ok (.iconst (-1), 1) := by decide +kernel
theorem d_X7_isKeptOffIfDeaf_25 : decode (mC 107) 25 = .ok (.iconst 0, 1) := by decide +kernel
theorem d_X7_isKeptOffIfDeaf_26 : decode (mC 107) 26 = .ok (.invokevirtual 256, 3) := by decide +kernel
theorem d_X7_isKeptOffIfDeaf_29 : decode (mC 107) 29 = .ok (.aload_n 0, 1) := by decide +kernel
theorem d_X7_isKeptOffIfDeaf_30 : decode (mC 107) 30 = .ok (.invokevirtual 260, 3) := by decide +kernel
theorem d_X7_isKeptOffIfDeaf_33 : decode (mC 107) 33 = .ok (.iload_n 1, 1) := by decide +kernel
theorem d_X7_isKeptOffIfDeaf_34 : decode (mC 107) 34 = .ok (.invokestatic 269, 3) := by decide +kernel
theorem d_X7_isKeptOffIfDeaf_37 : decode (mC 107) 37 = .ok (.ifCond .ne 7, 3) := by decide +kernel
theorem d_X7_isKeptOffIfDeaf_40 : decode (mC 107) 40 = .ok (.iconst 1, 1) := by decide +kernel
theorem d_X7_isKeptOffIfDeaf_41 : decode (mC 107) 41 = .ok (.goto 4, 3) := by decide +kernel
theorem d_X7_isKeptOffIfDeaf_44 : decode (mC 107) 44 = .ok (.iconst 0, 1) := by decide +kernel
theorem d_X7_isKeptOffIfDeaf_45 : decode (mC 107) 45 = .ok (.ireturn, 1) := by decide +kernel
theorem fr_107_37 : mn_fr 107 7 37 7 4 = true := by decide +kernel
theorem fr_107_51 : mn_fr 107 7 51 7 6 = true := by decide +kernel
theorem fr_107_19 : mn_fr 107 7 19 7 1 = true := by decide +kernel
theorem fi_107_120 : mn_fi 107 7 120 1 4 = true := by decide +kernel
theorem fi_107_123 : mn_fi 107 7 123 1 5 = true := by decide +kernel
theorem cv_107_256 : mn_cvt 107 7 256 57 = true := by decide +kernel
theorem cv_107_260 : mn_cvt 107 7 260 103 = true := by decide +kernel
theorem cs_107_269 : mn_cs 107 7 269 108 = true := by decide +kernel
theorem b_X7_isKeptOffIfDeaf_0 {x1 x2 : Int32} {h h' : mn_H} {r : Option Value} (hy0 : mn_isT (mn_hr h)) : mn_E 107 0 [.ref 0, .int x1, .int x2] [] h r h' ↔ ∃ h1, mn_X 57 [.ref 16, .ref (mn_hr h), .int ((h 3 4) ||| x2), .int (h 3 5), .int (-1), .int 0] h none h1 ∧ mn_E 107 29 [.ref 0, .int x1, .int x2] [] h1 r h' :=
  (mX_aload_n d_X7_isKeptOffIfDeaf_0 rfl).trans <| (mG_r (b := 16) d_X7_isKeptOffIfDeaf_1 fr_107_37 rfl (by decide) rfl).trans <| (mX_aload_n d_X7_isKeptOffIfDeaf_4 rfl).trans <| (mG_r (b := (mn_hr h)) d_X7_isKeptOffIfDeaf_5 fr_107_51 rfl (by decide) rfl).trans <| (mX_aload_n d_X7_isKeptOffIfDeaf_8 rfl).trans <| (mG_r (b := 3) d_X7_isKeptOffIfDeaf_9 fr_107_19 rfl (by decide) rfl).trans <| (mG_i d_X7_isKeptOffIfDeaf_12 fi_107_120 rfl (by decide)).trans <| (mX_iload_n d_X7_isKeptOffIfDeaf_15 rfl).trans <| (mX_ior d_X7_isKeptOffIfDeaf_16).trans <| (mX_aload_n d_X7_isKeptOffIfDeaf_17 rfl).trans <| (mG_r (b := 3) d_X7_isKeptOffIfDeaf_18 fr_107_19 rfl (by decide) rfl).trans <| (mG_i d_X7_isKeptOffIfDeaf_21 fi_107_123 rfl (by decide)).trans <| (mX_iconst d_X7_isKeptOffIfDeaf_24 ci_m1).trans <| (mX_iconst d_X7_isKeptOffIfDeaf_25 ci_0).trans <| mV_v (a := 16) (vs := [.ref (mn_hr h), .int ((h 3 4) ||| x2), .int (h 3 5), .int (-1), .int 0]) (st' := []) d_X7_isKeptOffIfDeaf_26 cv_107_256 rfl (Nat.le_of_ble_eq_true rfl) rfl rfl rfl rfl
theorem b_X7_isKeptOffIfDeaf_29 {x1 x2 : Int32} {h h' : mn_H} {r : Option Value} : mn_E 107 29 [.ref 0, .int x1, .int x2] [] h r h' ↔ ∃ x h1, mn_X 103 [.ref 0] h (some (.long x)) h1 ∧ mn_E 107 33 [.ref 0, .int x1, .int x2] [.long x] h1 r h' :=
  (mX_aload_n d_X7_isKeptOffIfDeaf_29 rfl).trans <| mV_l (a := 0) (vs := []) (st' := []) d_X7_isKeptOffIfDeaf_30 cv_107_260 rfl (Nat.le_of_ble_eq_true rfl) rfl rfl rfl rfl
theorem b_X7_isKeptOffIfDeaf_33 {x1 x2 : Int32} {m0 : Int64} {h h' : mn_H} {r : Option Value} : mn_E 107 33 [.ref 0, .int x1, .int x2] [.long m0] h r h' ↔ ∃ x h1, mn_X 108 [.long m0, .int x1] h (some (.int x)) h1 ∧ mn_E 107 37 [.ref 0, .int x1, .int x2] [.int x] h1 r h' :=
  (mX_iload_n d_X7_isKeptOffIfDeaf_33 rfl).trans <| mS_i (vs := [.long m0, .int x1]) (st' := []) d_X7_isKeptOffIfDeaf_34 cs_107_269 (Or.inl rfl) (Nat.le_of_ble_eq_true rfl) rfl rfl rfl
theorem b_X7_isKeptOffIfDeaf_37 {x1 x2 s0 : Int32} {h h' : mn_H} {r : Option Value} : mn_E 107 37 [.ref 0, .int x1, .int x2] [.int s0] h r h' ↔ if ¬ s0 = 0 then mn_E 107 44 [.ref 0, .int x1, .int x2] [] h r h' else mn_E 107 40 [.ref 0, .int x1, .int x2] [] h r h' :=
  mX_if_ne d_X7_isKeptOffIfDeaf_37 rfl
theorem b_X7_isKeptOffIfDeaf_40 {x1 x2 : Int32} {h h' : mn_H} {r : Option Value} : mn_E 107 40 [.ref 0, .int x1, .int x2] [] h r h' ↔ mn_E 107 45 [.ref 0, .int x1, .int x2] [.int 1] h r h' :=
  (mX_iconst d_X7_isKeptOffIfDeaf_40 ci_1).trans <| mX_goto d_X7_isKeptOffIfDeaf_41 rfl
theorem b_X7_isKeptOffIfDeaf_44 {x1 x2 : Int32} {h h' : mn_H} {r : Option Value} : mn_E 107 44 [.ref 0, .int x1, .int x2] [] h r h' ↔ mn_E 107 45 [.ref 0, .int x1, .int x2] [.int 0] h r h' :=
  mX_iconst d_X7_isKeptOffIfDeaf_44 ci_0
theorem b_X7_isKeptOffIfDeaf_45 {x1 x2 s0 : Int32} {h h' : mn_H} {r : Option Value} (hy0 : s0 = 0 ∨ s0 = 1) : mn_E 107 45 [.ref 0, .int x1, .int x2] [.int s0] h r h' ↔ r = some (.int s0) ∧ h' = h :=
  mX_zret d_X7_isKeptOffIfDeaf_45 rfl hy0
-- X7_timesComing
theorem mo_108 : mO 108 = 7 := rfl
theorem d_X7_timesComing_0 : decode (mC 108) 0 = .ok (.lload_n 0, 1) := by decide +kernel
theorem d_X7_timesComing_1 : decode (mC 108) 1 = .ok (.getstatic 330, 3) := by decide +kernel
theorem d_X7_timesComing_4 : decode (mC 108) 4 = .ok (.iload_n 2, 1) := by decide +kernel
theorem d_X7_timesComing_5 : decode (mC 108) 5 = .ok (.laload, 1) := by decide +kernel
theorem d_X7_timesComing_6 : decode (mC 108) 6 = .ok (.land, 1) := by decide +kernel
theorem d_X7_timesComing_7 : decode (mC 108) 7 = .ok (.invokestatic 133, 3) := by decide +kernel
theorem d_X7_timesComing_10 : decode (mC 108) 10 = .ok (.ireturn, 1) := by decide +kernel
theorem cs_108_133 : mn_cs 108 7 133 191 = true := by decide +kernel
theorem b_X7_timesComing_0 {x2 : Int32} {l0 : Int64} {h h' : mn_H} {r : Option Value} (hy0 : vp_in x2 6) : mn_E 108 0 [.long l0, .null, .int x2] [] h r h' ↔ ∃ x h1, mn_X 191 [.long (l0 &&& (mn_dw x2.toNatClampNeg))] h (some (.int x)) h1 ∧ mn_E 108 10 [.long l0, .null, .int x2] [.int x] h1 r h' :=
  (mX_lload_n d_X7_timesComing_0 rfl).trans <| (mX_gstD d_X7_timesComing_1 mo_108 ⟨rfl, rfl⟩).trans <| (mX_iload_n d_X7_timesComing_4 rfl).trans <| (mX_laload d_X7_timesComing_5 hy0).trans <| (mX_land d_X7_timesComing_6).trans <| mS_i (vs := [.long (l0 &&& (mn_dw x2.toNatClampNeg))]) (st' := []) d_X7_timesComing_7 cs_108_133 (Or.inl rfl) (Nat.le_of_ble_eq_true rfl) rfl rfl rfl
theorem b_X7_timesComing_10 {x2 s0 : Int32} {l0 : Int64} {h h' : mn_H} {r : Option Value} : mn_E 108 10 [.long l0, .null, .int x2] [.int s0] h r h' ↔ r = some (.int s0) ∧ h' = h :=
  mX_iret d_X7_timesComing_10 rfl
-- X7_onAll
theorem mo_109 : mO 109 = 7 := rfl
theorem d_X7_onAll_0 : decode (mC 109) 0 = .ok (.iconst 0, 1) := by decide +kernel
theorem d_X7_onAll_1 : decode (mC 109) 1 = .ok (.istore_n 2, 1) := by decide +kernel
theorem d_X7_onAll_2 : decode (mC 109) 2 = .ok (.iconst 0, 1) := by decide +kernel
theorem d_X7_onAll_3 : decode (mC 109) 3 = .ok (.istore_n 3, 1) := by decide +kernel
theorem d_X7_onAll_4 : decode (mC 109) 4 = .ok (.iload_n 3, 1) := by decide +kernel
theorem d_X7_onAll_5 : decode (mC 109) 5 = .ok (.bipush 6, 2) := by decide +kernel
theorem d_X7_onAll_7 : decode (mC 109) 7 = .ok (.if_icmp .ge 31, 3) := by decide +kernel
theorem d_X7_onAll_10 : decode (mC 109) 10 = .ok (.lload_n 0, 1) := by decide +kernel
theorem d_X7_onAll_11 : decode (mC 109) 11 = .ok (.getstatic 330, 3) := by decide +kernel
theorem d_X7_onAll_14 : decode (mC 109) 14 = .ok (.iload_n 3, 1) := by decide +kernel
theorem d_X7_onAll_15 : decode (mC 109) 15 = .ok (.laload, 1) := by decide +kernel
theorem d_X7_onAll_16 : decode (mC 109) 16 = .ok (.ldc2_w 334, 3) := by decide +kernel
theorem d_X7_onAll_19 : decode (mC 109) 19 = .ok (.lxor, 1) := by decide +kernel
theorem d_X7_onAll_20 : decode (mC 109) 20 = .ok (.land, 1) := by decide +kernel
theorem d_X7_onAll_21 : decode (mC 109) 21 = .ok (.lconst 0, 1) := by decide +kernel
theorem d_X7_onAll_22 : decode (mC 109) 22 = .ok (.lcmp, 1) := by decide +kernel
theorem d_X7_onAll_23 : decode (mC 109) 23 = .ok (.ifCond .ne 9, 3) := by decide +kernel
theorem d_X7_onAll_26 : decode (mC 109) 26 = .ok (.iload_n 2, 1) := by decide +kernel
theorem d_X7_onAll_27 : decode (mC 109) 27 = .ok (.iconst 1, 1) := by decide +kernel
theorem d_X7_onAll_28 : decode (mC 109) 28 = .ok (.iload_n 3, 1) := by decide +kernel
theorem d_X7_onAll_29 : decode (mC 109) 29 = .ok (.ishl, 1) := by decide +kernel
theorem d_X7_onAll_30 : decode (mC 109) 30 = .ok (.ior, 1) := by decide +kernel
theorem d_X7_onAll_31 : decode (mC 109) 31 = .ok (.istore_n 2, 1) := by decide +kernel
theorem d_X7_onAll_32 : decode (mC 109) 32 = .ok (.iinc 3 1, 3) := by decide +kernel
theorem d_X7_onAll_35 : decode (mC 109) 35 = .ok (.goto (-31), 3) := by decide +kernel
theorem d_X7_onAll_38 : decode (mC 109) 38 = .ok (.iload_n 2, 1) := by decide +kernel
theorem d_X7_onAll_39 : decode (mC 109) 39 = .ok (.ireturn, 1) := by decide +kernel
theorem b_X7_onAll_0 {l0 : Int64} {h h' : mn_H} {r : Option Value} : mn_E 109 0 [.long l0, .null, .null, .null] [] h r h' ↔ mn_E 109 4 [.long l0, .null, .int 0, .int 0] [] h r h' :=
  (mX_iconst d_X7_onAll_0 ci_0).trans <| (mX_istore_n (ls' := [.long l0, .null, .int 0, .null]) d_X7_onAll_1 rfl rfl).trans <| (mX_iconst d_X7_onAll_2 ci_0).trans <| mX_istore_n (ls' := [.long l0, .null, .int 0, .int 0]) d_X7_onAll_3 rfl rfl
theorem b_X7_onAll_4 {x2 x3 : Int32} {l0 : Int64} {h h' : mn_H} {r : Option Value} : mn_E 109 4 [.long l0, .null, .int x2, .int x3] [] h r h' ↔ if (6 : Int32) ≤ x3 then mn_E 109 38 [.long l0, .null, .int x2, .int x3] [] h r h' else mn_E 109 10 [.long l0, .null, .int x2, .int x3] [] h r h' :=
  (mX_iload_n d_X7_onAll_4 rfl).trans <| (mX_bipush d_X7_onAll_5 cb_6).trans <| mX_icmp_ge d_X7_onAll_7 rfl
theorem b_X7_onAll_10 {x2 x3 : Int32} {l0 : Int64} {h h' : mn_H} {r : Option Value} (hy0 : vp_in x3 6) : mn_E 109 10 [.long l0, .null, .int x2, .int x3] [] h r h' ↔ if ¬ (lg_cmp (l0 &&& ((mn_dw x3.toNatClampNeg) ^^^ (-1))) 0) = 0 then mn_E 109 32 [.long l0, .null, .int x2, .int x3] [] h r h' else mn_E 109 26 [.long l0, .null, .int x2, .int x3] [] h r h' :=
  (mX_lload_n d_X7_onAll_10 rfl).trans <| (mX_gstD d_X7_onAll_11 mo_109 ⟨rfl, rfl⟩).trans <| (mX_iload_n d_X7_onAll_14 rfl).trans <| (mX_laload d_X7_onAll_15 hy0).trans <| (mX_ldc2 d_X7_onAll_16 mo_109 kl_7_334).trans <| (mX_lxor d_X7_onAll_19).trans <| (mX_land d_X7_onAll_20).trans <| (mX_lconst d_X7_onAll_21 cl_0).trans <| (mX_lcmp d_X7_onAll_22).trans <| mX_if_ne d_X7_onAll_23 rfl
theorem b_X7_onAll_26 {x2 x3 : Int32} {l0 : Int64} {h h' : mn_H} {r : Option Value} : mn_E 109 26 [.long l0, .null, .int x2, .int x3] [] h r h' ↔ mn_E 109 32 [.long l0, .null, .int (x2 ||| (1 <<< (x3 &&& 31))), .int x3] [] h r h' :=
  (mX_iload_n d_X7_onAll_26 rfl).trans <| (mX_iconst d_X7_onAll_27 ci_1).trans <| (mX_iload_n d_X7_onAll_28 rfl).trans <| (mX_ishl d_X7_onAll_29).trans <| (mX_ior d_X7_onAll_30).trans <| mX_istore_n (ls' := [.long l0, .null, .int (x2 ||| (1 <<< (x3 &&& 31))), .int x3]) d_X7_onAll_31 rfl rfl
theorem b_X7_onAll_32 {x2 x3 : Int32} {l0 : Int64} {h h' : mn_H} {r : Option Value} : mn_E 109 32 [.long l0, .null, .int x2, .int x3] [] h r h' ↔ mn_E 109 4 [.long l0, .null, .int x2, .int (x3 + 1)] [] h r h' :=
  (mX_iinc (ls' := [.long l0, .null, .int x2, .int (x3 + 1)]) d_X7_onAll_32 rfl ci_1 rfl rfl).trans <| mX_goto d_X7_onAll_35 rfl
theorem b_X7_onAll_38 {x2 x3 : Int32} {l0 : Int64} {h h' : mn_H} {r : Option Value} : mn_E 109 38 [.long l0, .null, .int x2, .int x3] [] h r h' ↔ r = some (.int x2) ∧ h' = h :=
  (mX_iload_n d_X7_onAll_38 rfl).trans <| mX_iret d_X7_onAll_39 rfl
-- X7_onNone
theorem mo_110 : mO 110 = 7 := rfl
theorem d_X7_onNone_0 : decode (mC 110) 0 = .ok (.iconst 0, 1) := by decide +kernel
theorem d_X7_onNone_1 : decode (mC 110) 1 = .ok (.istore_n 2, 1) := by decide +kernel
theorem d_X7_onNone_2 : decode (mC 110) 2 = .ok (.iconst 0, 1) := by decide +kernel
theorem d_X7_onNone_3 : decode (mC 110) 3 = .ok (.istore_n 3, 1) := by decide +kernel
theorem d_X7_onNone_4 : decode (mC 110) 4 = .ok (.iload_n 3, 1) := by decide +kernel
theorem d_X7_onNone_5 : decode (mC 110) 5 = .ok (.bipush 6, 2) := by decide +kernel
theorem d_X7_onNone_7 : decode (mC 110) 7 = .ok (.if_icmp .ge 23, 3) := by decide +kernel
theorem d_X7_onNone_10 : decode (mC 110) 10 = .ok (.lload_n 0, 1) := by decide +kernel
theorem d_X7_onNone_11 : decode (mC 110) 11 = .ok (.iload_n 3, 1) := by decide +kernel
theorem d_X7_onNone_12 : decode (mC 110) 12 = .ok (.invokestatic 269, 3) := by decide +kernel
theorem d_X7_onNone_15 : decode (mC 110) 15 = .ok (.ifCond .ne 9, 3) := by decide +kernel
theorem d_X7_onNone_18 : decode (mC 110) 18 = .ok (.iload_n 2, 1) := by decide +kernel
theorem d_X7_onNone_19 : decode (mC 110) 19 = .ok (.iconst 1, 1) := by decide +kernel
theorem d_X7_onNone_20 : decode (mC 110) 20 = .ok (.iload_n 3, 1) := by decide +kernel
theorem d_X7_onNone_21 : decode (mC 110) 21 = .ok (.ishl, 1) := by decide +kernel
theorem d_X7_onNone_22 : decode (mC 110) 22 = .ok (.ior, 1) := by decide +kernel
theorem d_X7_onNone_23 : decode (mC 110) 23 = .ok (.istore_n 2, 1) := by decide +kernel
theorem d_X7_onNone_24 : decode (mC 110) 24 = .ok (.iinc 3 1, 3) := by decide +kernel
theorem d_X7_onNone_27 : decode (mC 110) 27 = .ok (.goto (-23), 3) := by decide +kernel
theorem d_X7_onNone_30 : decode (mC 110) 30 = .ok (.iload_n 2, 1) := by decide +kernel
theorem d_X7_onNone_31 : decode (mC 110) 31 = .ok (.ireturn, 1) := by decide +kernel
theorem cs_110_269 : mn_cs 110 7 269 108 = true := by decide +kernel
theorem b_X7_onNone_0 {l0 : Int64} {h h' : mn_H} {r : Option Value} : mn_E 110 0 [.long l0, .null, .null, .null] [] h r h' ↔ mn_E 110 4 [.long l0, .null, .int 0, .int 0] [] h r h' :=
  (mX_iconst d_X7_onNone_0 ci_0).trans <| (mX_istore_n (ls' := [.long l0, .null, .int 0, .null]) d_X7_onNone_1 rfl rfl).trans <| (mX_iconst d_X7_onNone_2 ci_0).trans <| mX_istore_n (ls' := [.long l0, .null, .int 0, .int 0]) d_X7_onNone_3 rfl rfl
theorem b_X7_onNone_4 {x2 x3 : Int32} {l0 : Int64} {h h' : mn_H} {r : Option Value} : mn_E 110 4 [.long l0, .null, .int x2, .int x3] [] h r h' ↔ if (6 : Int32) ≤ x3 then mn_E 110 30 [.long l0, .null, .int x2, .int x3] [] h r h' else mn_E 110 10 [.long l0, .null, .int x2, .int x3] [] h r h' :=
  (mX_iload_n d_X7_onNone_4 rfl).trans <| (mX_bipush d_X7_onNone_5 cb_6).trans <| mX_icmp_ge d_X7_onNone_7 rfl
theorem b_X7_onNone_10 {x2 x3 : Int32} {l0 : Int64} {h h' : mn_H} {r : Option Value} : mn_E 110 10 [.long l0, .null, .int x2, .int x3] [] h r h' ↔ ∃ x h1, mn_X 108 [.long l0, .int x3] h (some (.int x)) h1 ∧ mn_E 110 15 [.long l0, .null, .int x2, .int x3] [.int x] h1 r h' :=
  (mX_lload_n d_X7_onNone_10 rfl).trans <| (mX_iload_n d_X7_onNone_11 rfl).trans <| mS_i (vs := [.long l0, .int x3]) (st' := []) d_X7_onNone_12 cs_110_269 (Or.inl rfl) (Nat.le_of_ble_eq_true rfl) rfl rfl rfl
theorem b_X7_onNone_15 {x2 x3 s0 : Int32} {l0 : Int64} {h h' : mn_H} {r : Option Value} : mn_E 110 15 [.long l0, .null, .int x2, .int x3] [.int s0] h r h' ↔ if ¬ s0 = 0 then mn_E 110 24 [.long l0, .null, .int x2, .int x3] [] h r h' else mn_E 110 18 [.long l0, .null, .int x2, .int x3] [] h r h' :=
  mX_if_ne d_X7_onNone_15 rfl
theorem b_X7_onNone_18 {x2 x3 : Int32} {l0 : Int64} {h h' : mn_H} {r : Option Value} : mn_E 110 18 [.long l0, .null, .int x2, .int x3] [] h r h' ↔ mn_E 110 24 [.long l0, .null, .int (x2 ||| (1 <<< (x3 &&& 31))), .int x3] [] h r h' :=
  (mX_iload_n d_X7_onNone_18 rfl).trans <| (mX_iconst d_X7_onNone_19 ci_1).trans <| (mX_iload_n d_X7_onNone_20 rfl).trans <| (mX_ishl d_X7_onNone_21).trans <| (mX_ior d_X7_onNone_22).trans <| mX_istore_n (ls' := [.long l0, .null, .int (x2 ||| (1 <<< (x3 &&& 31))), .int x3]) d_X7_onNone_23 rfl rfl
theorem b_X7_onNone_24 {x2 x3 : Int32} {l0 : Int64} {h h' : mn_H} {r : Option Value} : mn_E 110 24 [.long l0, .null, .int x2, .int x3] [] h r h' ↔ mn_E 110 4 [.long l0, .null, .int x2, .int (x3 + 1)] [] h r h' :=
  (mX_iinc (ls' := [.long l0, .null, .int x2, .int (x3 + 1)]) d_X7_onNone_24 rfl ci_1 rfl rfl).trans <| mX_goto d_X7_onNone_27 rfl
theorem b_X7_onNone_30 {x2 x3 : Int32} {l0 : Int64} {h h' : mn_H} {r : Option Value} : mn_E 110 30 [.long l0, .null, .int x2, .int x3] [] h r h' ↔ r = some (.int x2) ∧ h' = h :=
  (mX_iload_n d_X7_onNone_30 rfl).trans <| mX_iret d_X7_onNone_31 rfl
-- X7_dayAt
theorem mo_111 : mO 111 = 7 := rfl
theorem d_X7_dayAt_0 : decode (mC 111) 0 = .ok (.iconst 0, 1) := by decide +kernel
theorem d_X7_dayAt_1 : decode (mC 111) 1 = .ok (.istore_n 3, 1) := by decide +kernel
theorem d_X7_dayAt_2 : decode (mC 111) 2 = .ok (.iconst 0, 1) := by decide +kernel
theorem d_X7_dayAt_3 : decode (mC 111) 3 = .ok (.istore 4, 2) := by decide +kernel
theorem d_X7_dayAt_5 : decode (mC 111) 5 = .ok (.iload 4, 2) := by decide +kernel
theorem d_X7_dayAt_7 : decode (mC 111) 7 = .ok (.bipush 64, 2) := by decide +kernel
theorem d_X7_dayAt_9 : decode (mC 111) 9 = .ok (.if_icmp .ge 31, 3) := by decide +kernel
theorem d_X7_dayAt_12 : decode (mC 111) 12 = .ok (.lload_n 0, 1) := by decide +kernel
theorem d_X7_dayAt_13 : decode (mC 111) 13 = .ok (.iload 4, 2) := by decide +kernel
theorem d_X7_dayAt_15 : decode (mC 111) 15 = .ok (.lushr, 1) := by decide +kernel
theorem d_X7_dayAt_16 : decode (mC 111) 16 = .ok (.lconst 1, 1) := by decide +kernel
theorem d_X7_dayAt_17 : decode (mC 111) 17 = .ok (.land, 1) := by decide +kernel
theorem d_X7_dayAt_18 : decode (mC 111) 18 = .ok (.lconst 1, 1) := by decide +kernel
theorem d_X7_dayAt_19 : decode (mC 111) 19 = .ok (.lcmp, 1) := by decide +kernel
theorem d_X7_dayAt_20 : decode (mC 111) 20 = .ok (.ifCond .ne 14, 3) := by decide +kernel
theorem d_X7_dayAt_23 : decode (mC 111) 23 = .ok (.iload_n 3, 1) := by decide +kernel
theorem d_X7_dayAt_24 : decode (mC 111) 24 = .ok (.iload_n 2, 1) := by decide +kernel
theorem d_X7_dayAt_25 : decode (mC 111) 25 = .ok (.if_icmp .ne 6, 3) := by decide +kernel
theorem d_X7_dayAt_28 : decode (mC 111) 28 = .ok (.iload 4, 2) := by decide +kernel
theorem d_X7_dayAt_30 : decode (mC 111) 30 = .ok (.ireturn, 1) := by decide +kernel
theorem d_X7_dayAt_31 : decode (mC 111) 31 = .ok (.iinc 3 1, 3) := by decide +kernel
theorem d_X7_dayAt_34 : decode (mC 111) 34 = .ok (.iinc 4 1, 3) := by decide +kernel
theorem d_X7_dayAt_37 : decode (mC 111) 37 = .ok (.goto (-32), 3) := by decide +kernel
theorem d_X7_dayAt_40 : decode (mC 111) 40 = .ok (.iconst (-1), 1) := by decide +kernel
theorem d_X7_dayAt_41 : decode (mC 111) 41 = .ok (.ireturn, 1) := by decide +kernel
theorem b_X7_dayAt_0 {x2 : Int32} {l0 : Int64} {h h' : mn_H} {r : Option Value} : mn_E 111 0 [.long l0, .null, .int x2, .null, .null] [] h r h' ↔ mn_E 111 5 [.long l0, .null, .int x2, .int 0, .int 0] [] h r h' :=
  (mX_iconst d_X7_dayAt_0 ci_0).trans <| (mX_istore_n (ls' := [.long l0, .null, .int x2, .int 0, .null]) d_X7_dayAt_1 rfl rfl).trans <| (mX_iconst d_X7_dayAt_2 ci_0).trans <| mX_istore (ls' := [.long l0, .null, .int x2, .int 0, .int 0]) d_X7_dayAt_3 rfl rfl
theorem b_X7_dayAt_5 {x2 x3 x4 : Int32} {l0 : Int64} {h h' : mn_H} {r : Option Value} : mn_E 111 5 [.long l0, .null, .int x2, .int x3, .int x4] [] h r h' ↔ if (64 : Int32) ≤ x4 then mn_E 111 40 [.long l0, .null, .int x2, .int x3, .int x4] [] h r h' else mn_E 111 12 [.long l0, .null, .int x2, .int x3, .int x4] [] h r h' :=
  (mX_iload d_X7_dayAt_5 rfl).trans <| (mX_bipush d_X7_dayAt_7 cb_64).trans <| mX_icmp_ge d_X7_dayAt_9 rfl
theorem b_X7_dayAt_12 {x2 x3 x4 : Int32} {l0 : Int64} {h h' : mn_H} {r : Option Value} : mn_E 111 12 [.long l0, .null, .int x2, .int x3, .int x4] [] h r h' ↔ if ¬ (lg_cmp (((l0).toUInt64 >>> (x4.toInt64.toUInt64 &&& Int64.toUInt64 63)).toInt64 &&& 1) 1) = 0 then mn_E 111 34 [.long l0, .null, .int x2, .int x3, .int x4] [] h r h' else mn_E 111 23 [.long l0, .null, .int x2, .int x3, .int x4] [] h r h' :=
  (mX_lload_n d_X7_dayAt_12 rfl).trans <| (mX_iload d_X7_dayAt_13 rfl).trans <| (mX_lushr d_X7_dayAt_15).trans <| (mX_lconst d_X7_dayAt_16 cl_1).trans <| (mX_land d_X7_dayAt_17).trans <| (mX_lconst d_X7_dayAt_18 cl_1).trans <| (mX_lcmp d_X7_dayAt_19).trans <| mX_if_ne d_X7_dayAt_20 rfl
theorem b_X7_dayAt_23 {x2 x3 x4 : Int32} {l0 : Int64} {h h' : mn_H} {r : Option Value} : mn_E 111 23 [.long l0, .null, .int x2, .int x3, .int x4] [] h r h' ↔ if ¬ x3 = x2 then mn_E 111 31 [.long l0, .null, .int x2, .int x3, .int x4] [] h r h' else mn_E 111 28 [.long l0, .null, .int x2, .int x3, .int x4] [] h r h' :=
  (mX_iload_n d_X7_dayAt_23 rfl).trans <| (mX_iload_n d_X7_dayAt_24 rfl).trans <| mX_icmp_ne d_X7_dayAt_25 rfl
theorem b_X7_dayAt_28 {x2 x3 x4 : Int32} {l0 : Int64} {h h' : mn_H} {r : Option Value} : mn_E 111 28 [.long l0, .null, .int x2, .int x3, .int x4] [] h r h' ↔ r = some (.int x4) ∧ h' = h :=
  (mX_iload d_X7_dayAt_28 rfl).trans <| mX_iret d_X7_dayAt_30 rfl
theorem b_X7_dayAt_31 {x2 x3 x4 : Int32} {l0 : Int64} {h h' : mn_H} {r : Option Value} : mn_E 111 31 [.long l0, .null, .int x2, .int x3, .int x4] [] h r h' ↔ mn_E 111 34 [.long l0, .null, .int x2, .int (x3 + 1), .int x4] [] h r h' :=
  mX_iinc (ls' := [.long l0, .null, .int x2, .int (x3 + 1), .int x4]) d_X7_dayAt_31 rfl ci_1 rfl rfl
theorem b_X7_dayAt_34 {x2 x3 x4 : Int32} {l0 : Int64} {h h' : mn_H} {r : Option Value} : mn_E 111 34 [.long l0, .null, .int x2, .int x3, .int x4] [] h r h' ↔ mn_E 111 5 [.long l0, .null, .int x2, .int x3, .int (x4 + 1)] [] h r h' :=
  (mX_iinc (ls' := [.long l0, .null, .int x2, .int x3, .int (x4 + 1)]) d_X7_dayAt_34 rfl ci_1 rfl rfl).trans <| mX_goto d_X7_dayAt_37 rfl
theorem b_X7_dayAt_40 {x2 x3 x4 : Int32} {l0 : Int64} {h h' : mn_H} {r : Option Value} : mn_E 111 40 [.long l0, .null, .int x2, .int x3, .int x4] [] h r h' ↔ r = some (.int (-1)) ∧ h' = h :=
  (mX_iconst d_X7_dayAt_40 ci_m1).trans <| mX_iret d_X7_dayAt_41 rfl
-- X7_greatestDivisor
theorem mo_112 : mO 112 = 7 := rfl
theorem d_X7_greatestDivisor_0 : decode (mC 112) 0 = .ok (.iload_n 0, 1) := by decide +kernel
theorem d_X7_greatestDivisor_1 : decode (mC 112) 1 = .ok (.istore_n 2, 1) := by decide +kernel
theorem d_X7_greatestDivisor_2 : decode (mC 112) 2 = .ok (.iload_n 1, 1) := by decide +kernel
theorem d_X7_greatestDivisor_3 : decode (mC 112) 3 = .ok (.istore_n 3, 1) := by decide +kernel
theorem d_X7_greatestDivisor_4 : decode (mC 112) 4 = .ok (.iconst 0, 1) := by decide +kernel
theorem d_X7_greatestDivisor_5 : decode (mC 112) 5 = .ok (.istore 4, 2) := by decide +kernel
theorem d_X7_greatestDivisor_7 : decode (mC 112) 7 = .ok (.iload 4, 2) := by decide +kernel
theorem d_X7_greatestDivisor_9 : decode (mC 112) 9 = .ok (.bipush 100, 2) := by decide +kernel
theorem d_X7_greatestDivisor_11 : decode (mC 112) 11 = .ok (.if_icmp .ge 23, 3) := by decide +kernel
theorem d_X7_greatestDivisor_14 : decode (mC 112) 14 = .ok (.iload_n 3, 1) := by decide +kernel
theorem d_X7_greatestDivisor_15 : decode (mC 112) 15 = .ok (.ifCond .le 19, 3) := by decide +kernel
theorem d_X7_greatestDivisor_18 : decode (mC 112) 18 = .ok (.iload_n 2, 1) := by decide +kernel
theorem d_X7_greatestDivisor_19 : decode (mC 112) 19 = .ok (.iload_n 3, 1) := by decide +kernel
theorem d_X7_greatestDivisor_20 : decode (mC 112) 20 = .ok (.irem, 1) := by decide +kernel
theorem d_X7_greatestDivisor_21 : decode (mC 112) 21 = .ok (.istore 5, 2) := by decide +kernel
theorem d_X7_greatestDivisor_23 : decode (mC 112) 23 = .ok (.iload_n 3, 1) := by decide +kernel
theorem d_X7_greatestDivisor_24 : decode (mC 112) 24 = .ok (.istore_n 2, 1) := by decide +kernel
theorem d_X7_greatestDivisor_25 : decode (mC 112) 25 = .ok (.iload 5, 2) := by decide +kernel
theorem d_X7_greatestDivisor_27 : decode (mC 112) 27 = .ok (.istore_n 3, 1) := by decide +kernel
theorem d_X7_greatestDivisor_28 : decode (mC 112) 28 = .ok (.iinc 4 1, 3) := by decide +kernel
theorem d_X7_greatestDivisor_31 : decode (mC 112) 31 = .ok (.goto (-24), 3) := by decide +kernel
theorem d_X7_greatestDivisor_34 : decode (mC 112) 34 = .ok (.iload_n 2, 1) := by decide +kernel
theorem d_X7_greatestDivisor_35 : decode (mC 112) 35 = .ok (.ireturn, 1) := by decide +kernel
theorem b_X7_greatestDivisor_0 {x0 x1 : Int32} {h h' : mn_H} {r : Option Value} : mn_E 112 0 [.int x0, .int x1, .null, .null, .null, .null] [] h r h' ↔ mn_E 112 7 [.int x0, .int x1, .int x0, .int x1, .int 0, .null] [] h r h' :=
  (mX_iload_n d_X7_greatestDivisor_0 rfl).trans <| (mX_istore_n (ls' := [.int x0, .int x1, .int x0, .null, .null, .null]) d_X7_greatestDivisor_1 rfl rfl).trans <| (mX_iload_n d_X7_greatestDivisor_2 rfl).trans <| (mX_istore_n (ls' := [.int x0, .int x1, .int x0, .int x1, .null, .null]) d_X7_greatestDivisor_3 rfl rfl).trans <| (mX_iconst d_X7_greatestDivisor_4 ci_0).trans <| mX_istore (ls' := [.int x0, .int x1, .int x0, .int x1, .int 0, .null]) d_X7_greatestDivisor_5 rfl rfl
theorem b_X7_greatestDivisor_7 {x0 x1 x2 x3 x4 : Int32} {w5 : Value} {h h' : mn_H} {r : Option Value} : mn_E 112 7 [.int x0, .int x1, .int x2, .int x3, .int x4, w5] [] h r h' ↔ if (100 : Int32) ≤ x4 then mn_E 112 34 [.int x0, .int x1, .int x2, .int x3, .int x4, w5] [] h r h' else mn_E 112 14 [.int x0, .int x1, .int x2, .int x3, .int x4, w5] [] h r h' :=
  (mX_iload d_X7_greatestDivisor_7 rfl).trans <| (mX_bipush d_X7_greatestDivisor_9 cb_100).trans <| mX_icmp_ge d_X7_greatestDivisor_11 rfl
theorem b_X7_greatestDivisor_14 {x0 x1 x2 x3 x4 : Int32} {w5 : Value} {h h' : mn_H} {r : Option Value} : mn_E 112 14 [.int x0, .int x1, .int x2, .int x3, .int x4, w5] [] h r h' ↔ if x3 ≤ 0 then mn_E 112 34 [.int x0, .int x1, .int x2, .int x3, .int x4, w5] [] h r h' else mn_E 112 18 [.int x0, .int x1, .int x2, .int x3, .int x4, w5] [] h r h' :=
  (mX_iload_n d_X7_greatestDivisor_14 rfl).trans <| mX_if_le d_X7_greatestDivisor_15 rfl
theorem b_X7_greatestDivisor_18 {x0 x1 x2 x3 x4 : Int32} {w5 : Value} {h h' : mn_H} {r : Option Value} (hy0 : ¬ x3 = 0) : mn_E 112 18 [.int x0, .int x1, .int x2, .int x3, .int x4, w5] [] h r h' ↔ mn_E 112 7 [.int x0, .int x1, .int x3, .int (x2 - x2 / x3 * x3), .int (x4 + 1), .int (x2 - x2 / x3 * x3)] [] h r h' :=
  (mX_iload_n d_X7_greatestDivisor_18 rfl).trans <| (mX_iload_n d_X7_greatestDivisor_19 rfl).trans <| (mX_irem d_X7_greatestDivisor_20 hy0).trans <| (mX_istore (ls' := [.int x0, .int x1, .int x2, .int x3, .int x4, .int (x2 - x2 / x3 * x3)]) d_X7_greatestDivisor_21 rfl rfl).trans <| (mX_iload_n d_X7_greatestDivisor_23 rfl).trans <| (mX_istore_n (ls' := [.int x0, .int x1, .int x3, .int x3, .int x4, .int (x2 - x2 / x3 * x3)]) d_X7_greatestDivisor_24 rfl rfl).trans <| (mX_iload d_X7_greatestDivisor_25 rfl).trans <| (mX_istore_n (ls' := [.int x0, .int x1, .int x3, .int (x2 - x2 / x3 * x3), .int x4, .int (x2 - x2 / x3 * x3)]) d_X7_greatestDivisor_27 rfl rfl).trans <| (mX_iinc (ls' := [.int x0, .int x1, .int x3, .int (x2 - x2 / x3 * x3), .int (x4 + 1), .int (x2 - x2 / x3 * x3)]) d_X7_greatestDivisor_28 rfl ci_1 rfl rfl).trans <| mX_goto d_X7_greatestDivisor_31 rfl
theorem b_X7_greatestDivisor_34 {x0 x1 x2 x3 x4 : Int32} {w5 : Value} {h h' : mn_H} {r : Option Value} : mn_E 112 34 [.int x0, .int x1, .int x2, .int x3, .int x4, w5] [] h r h' ↔ r = some (.int x2) ∧ h' = h :=
  (mX_iload_n d_X7_greatestDivisor_34 rfl).trans <| mX_iret d_X7_greatestDivisor_35 rfl
-- X7_rings
theorem mo_113 : mO 113 = 7 := rfl
theorem d_X7_rings_0 : decode (mC 113) 0 = .ok (.iload 4, 2) := by decide +kernel
theorem d_X7_rings_2 : decode (mC 113) 2 = .ok (.iload_n 1, 1) := by decide +kernel
theorem d_X7_rings_3 : decode (mC 113) 3 = .ok (.ishr, 1) := by decide +kernel
theorem d_X7_rings_4 : decode (mC 113) 4 = .ok (.iconst 1, 1) := by decide +kernel
theorem d_X7_rings_5 : decode (mC 113) 5 = .ok (.iand, 1) := by decide +kernel
theorem d_X7_rings_6 : decode (mC 113) 6 = .ok (.iconst 1, 1) := by decide +kernel
theorem d_X7_rings_7 : decode (mC 113) 7 = .ok (.if_icmp .ne 7, 3) := by decide +kernel
theorem d_X7_rings_10 : decode (mC 113) 10 = .ok (.iconst 1, 1) := by decide +kernel
theorem d_X7_rings_11 : decode (mC 113) 11 = .ok (.goto 4, 3) := by decide +kernel
theorem d_X7_rings_14 : decode (mC 113) 14 = .ok (.iconst 0, 1) := by decide +kernel
theorem d_X7_rings_15 : decode (mC 113) 15 = .ok (.istore 5, 2) := by decide +kernel
theorem d_X7_rings_17 : decode (mC 113) 17 = .ok (.iload 4, 2) := by decide +kernel
theorem d_X7_rings_19 : decode (mC 113) 19 = .ok (.iload_n 2, 1) := by decide +kernel
theorem d_X7_rings_20 : decode (mC 113) 20 = .ok (.ishr, 1) := by decide +kernel
theorem d_X7_rings_21 : decode (mC 113) 21 = .ok (.iconst 1, 1) := by decide +kernel
theorem d_X7_rings_22 : decode (mC 113) 22 = .ok (.iand, 1) := by decide +kernel
theorem d_X7_rings_23 : decode (mC 113) 23 = .ok (.iconst 1, 1) := by decide +kernel
theorem d_X7_rings_24 : decode (mC 113) 24 = .ok (.if_icmp .ne 7, 3) := by decide +kernel
theorem d_X7_rings_27 : decode (mC 113) 27 = .ok (.iconst 1, 1) := by decide +kernel
theorem d_X7_rings_28 : decode (mC 113) 28 = .ok (.goto 4, 3) := by decide +kernel
theorem d_X7_rings_31 : decode (mC 113) 31 = .ok (.iconst 0, 1) := by decide +kernel
theorem d_X7_rings_32 : decode (mC 113) 32 = .ok (.istore 6, 2) := by decide +kernel
theorem d_X7_rings_34 : decode (mC 113) 34 = .ok (.iload_n 0, 1) := by decide +kernel
theorem d_X7_rings_35 : decode (mC 113) 35 = .ok (.tableswitch 94 0 4 #[33, 36, 47, 63, 79], 33) := by decide +kernel
theorem d_X7_rings_68 : decode (mC 113) 68 = .ok (.iload 5, 2) := by decide +kernel
theorem d_X7_rings_70 : decode (mC 113) 70 = .ok (.ireturn, 1) := by decide +kernel
theorem d_X7_rings_71 : decode (mC 113) 71 = .ok (.iload 5, 2) := by decide +kernel
theorem d_X7_rings_73 : decode (mC 113) 73 = .ok (.ifCond .ne 7, 3) := by decide +kernel
theorem d_X7_rings_76 : decode (mC 113) 76 = .ok (.iconst 1, 1) := by decide +kernel
theorem d_X7_rings_77 : decode (mC 113) 77 = .ok (.goto 4, 3) := by decide +kernel
theorem d_X7_rings_80 : decode (mC 113) 80 = .ok (.iconst 0, 1) := by decide +kernel
theorem d_X7_rings_81 : decode (mC 113) 81 = .ok (.ireturn, 1) := by decide +kernel
theorem d_X7_rings_82 : decode (mC 113) 82 = .ok (.iload 5, 2) := by decide +kernel
theorem d_X7_rings_84 : decode (mC 113) 84 = .ok (.ifCond .eq 12, 3) := by decide +kernel
theorem d_X7_rings_87 : decode (mC 113) 87 = .ok (.iload 6, 2) := by decide +kernel
theorem d_X7_rings_89 : decode (mC 113) 89 = .ok (.ifCond .eq 7, 3) := by decide +kernel
theorem d_X7_rings_92 : decode (mC 113) 92 = .ok (.iconst 1, 1) := by decide +kernel
theorem d_X7_rings_93 : decode (mC 113) 93 = .ok (.goto 4, 3) := by decide +kernel
theorem d_X7_rings_96 : decode (mC 113) 96 = .ok (.iconst 0, 1) := by decide +kernel
theorem d_X7_rings_97 : decode (mC 113) 97 = .ok (.ireturn, 1) := by decide +kernel
theorem d_X7_rings_98 : decode (mC 113) 98 = .ok (.iload 5, 2) := by decide +kernel
theorem d_X7_rings_100 : decode (mC 113) 100 = .ok (.ifCond .ne 8, 3) := by decide +kernel
theorem d_X7_rings_103 : decode (mC 113) 103 = .ok (.iload 6, 2) := by decide +kernel
theorem d_X7_rings_105 : decode (mC 113) 105 = .ok (.ifCond .eq 7, 3) := by decide +kernel
theorem d_X7_rings_108 : decode (mC 113) 108 = .ok (.iconst 1, 1) := by decide +kernel
theorem d_X7_rings_109 : decode (mC 113) 109 = .ok (.goto 4, 3) := by decide +kernel
theorem d_X7_rings_112 : decode (mC 113) 112 = .ok (.iconst 0, 1) := by decide +kernel
theorem d_X7_rings_113 : decode (mC 113) 113 = .ok (.ireturn, 1) := by decide +kernel
theorem d_X7_rings_114 : decode (mC 113) 114 = .ok (.iload_n 3, 1) := by decide +kernel
theorem d_X7_rings_115 : decode (mC 113) 115 = .ok (.iload_n 1, 1) := by decide +kernel
theorem d_X7_rings_116 : decode (mC 113) 116 = .ok (.ishr, 1) := by decide +kernel
theorem d_X7_rings_117 : decode (mC 113) 117 = .ok (.iconst 1, 1) := by decide +kernel
theorem d_X7_rings_118 : decode (mC 113) 118 = .ok (.iand, 1) := by decide +kernel
theorem d_X7_rings_119 : decode (mC 113) 119 = .ok (.iconst 1, 1) := by decide +kernel
theorem d_X7_rings_120 : decode (mC 113) 120 = .ok (.if_icmp .ne 7, 3) := by decide +kernel
theorem d_X7_rings_123 : decode (mC 113) 123 = .ok (.iconst 1, 1) := by decide +kernel
theorem d_X7_rings_124 : decode (mC 113) 124 = .ok (.goto 4, 3) := by decide +kernel
theorem d_X7_rings_127 : decode (mC 113) 127 = .ok (.iconst 0, 1) := by decide +kernel
theorem d_X7_rings_128 : decode (mC 113) 128 = .ok (.ireturn, 1) := by decide +kernel
theorem d_X7_rings_129 : decode (mC 113) 129 = .ok (.iconst 0, 1) := by decide +kernel
theorem d_X7_rings_130 : decode (mC 113) 130 = .ok (.ireturn, 1) := by decide +kernel
theorem b_X7_rings_0 {x0 x1 x2 x3 x4 : Int32} {h h' : mn_H} {r : Option Value} : mn_E 113 0 [.int x0, .int x1, .int x2, .int x3, .int x4, .null, .null] [] h r h' ↔ if ¬ ((x4 >>> (x1 &&& 31)) &&& 1) = 1 then mn_E 113 14 [.int x0, .int x1, .int x2, .int x3, .int x4, .null, .null] [] h r h' else mn_E 113 10 [.int x0, .int x1, .int x2, .int x3, .int x4, .null, .null] [] h r h' :=
  (mX_iload d_X7_rings_0 rfl).trans <| (mX_iload_n d_X7_rings_2 rfl).trans <| (mX_ishr d_X7_rings_3).trans <| (mX_iconst d_X7_rings_4 ci_1).trans <| (mX_iand d_X7_rings_5).trans <| (mX_iconst d_X7_rings_6 ci_1).trans <| mX_icmp_ne d_X7_rings_7 rfl
theorem b_X7_rings_10 {x0 x1 x2 x3 x4 : Int32} {h h' : mn_H} {r : Option Value} : mn_E 113 10 [.int x0, .int x1, .int x2, .int x3, .int x4, .null, .null] [] h r h' ↔ mn_E 113 15 [.int x0, .int x1, .int x2, .int x3, .int x4, .null, .null] [.int 1] h r h' :=
  (mX_iconst d_X7_rings_10 ci_1).trans <| mX_goto d_X7_rings_11 rfl
theorem b_X7_rings_14 {x0 x1 x2 x3 x4 : Int32} {h h' : mn_H} {r : Option Value} : mn_E 113 14 [.int x0, .int x1, .int x2, .int x3, .int x4, .null, .null] [] h r h' ↔ mn_E 113 15 [.int x0, .int x1, .int x2, .int x3, .int x4, .null, .null] [.int 0] h r h' :=
  mX_iconst d_X7_rings_14 ci_0
theorem b_X7_rings_15 {x0 x1 x2 x3 x4 s0 : Int32} {h h' : mn_H} {r : Option Value} : mn_E 113 15 [.int x0, .int x1, .int x2, .int x3, .int x4, .null, .null] [.int s0] h r h' ↔ if ¬ ((x4 >>> (x2 &&& 31)) &&& 1) = 1 then mn_E 113 31 [.int x0, .int x1, .int x2, .int x3, .int x4, .int s0, .null] [] h r h' else mn_E 113 27 [.int x0, .int x1, .int x2, .int x3, .int x4, .int s0, .null] [] h r h' :=
  (mX_istore (ls' := [.int x0, .int x1, .int x2, .int x3, .int x4, .int s0, .null]) d_X7_rings_15 rfl rfl).trans <| (mX_iload d_X7_rings_17 rfl).trans <| (mX_iload_n d_X7_rings_19 rfl).trans <| (mX_ishr d_X7_rings_20).trans <| (mX_iconst d_X7_rings_21 ci_1).trans <| (mX_iand d_X7_rings_22).trans <| (mX_iconst d_X7_rings_23 ci_1).trans <| mX_icmp_ne d_X7_rings_24 rfl
theorem b_X7_rings_27 {x0 x1 x2 x3 x4 x5 : Int32} {h h' : mn_H} {r : Option Value} : mn_E 113 27 [.int x0, .int x1, .int x2, .int x3, .int x4, .int x5, .null] [] h r h' ↔ mn_E 113 32 [.int x0, .int x1, .int x2, .int x3, .int x4, .int x5, .null] [.int 1] h r h' :=
  (mX_iconst d_X7_rings_27 ci_1).trans <| mX_goto d_X7_rings_28 rfl
theorem b_X7_rings_31 {x0 x1 x2 x3 x4 x5 : Int32} {h h' : mn_H} {r : Option Value} : mn_E 113 31 [.int x0, .int x1, .int x2, .int x3, .int x4, .int x5, .null] [] h r h' ↔ mn_E 113 32 [.int x0, .int x1, .int x2, .int x3, .int x4, .int x5, .null] [.int 0] h r h' :=
  mX_iconst d_X7_rings_31 ci_0
theorem b_X7_rings_32 {x0 x1 x2 x3 x4 x5 s0 : Int32} {h h' : mn_H} {r : Option Value} : mn_E 113 32 [.int x0, .int x1, .int x2, .int x3, .int x4, .int x5, .null] [.int s0] h r h' ↔ mn_E 113 35 [.int x0, .int x1, .int x2, .int x3, .int x4, .int x5, .int s0] [.int x0] h r h' :=
  (mX_istore (ls' := [.int x0, .int x1, .int x2, .int x3, .int x4, .int x5, .int s0]) d_X7_rings_32 rfl rfl).trans <| mX_iload_n d_X7_rings_34 rfl
theorem b_X7_rings_35_d {x0 x1 x2 x3 x4 x5 x6 s0 : Int32} {h h' : mn_H} {r : Option Value} (hx : s0.toInt < 0 ∨ 4 < s0.toInt) : mn_E 113 35 [.int x0, .int x1, .int x2, .int x3, .int x4, .int x5, .int x6] [.int s0] h r h' ↔ mn_E 113 129 [.int x0, .int x1, .int x2, .int x3, .int x4, .int x5, .int x6] [] h r h' :=
  mX_tsw d_X7_rings_35 rfl (by unfold mn_tsw; rw [if_pos hx]; rfl)
theorem b_X7_rings_35_0 {x0 x1 x2 x3 x4 x5 x6 : Int32} {h h' : mn_H} {r : Option Value} : mn_E 113 35 [.int x0, .int x1, .int x2, .int x3, .int x4, .int x5, .int x6] [.int 0] h r h' ↔ mn_E 113 68 [.int x0, .int x1, .int x2, .int x3, .int x4, .int x5, .int x6] [] h r h' :=
  mX_tsw d_X7_rings_35 rfl (by decide)
theorem b_X7_rings_35_1 {x0 x1 x2 x3 x4 x5 x6 : Int32} {h h' : mn_H} {r : Option Value} : mn_E 113 35 [.int x0, .int x1, .int x2, .int x3, .int x4, .int x5, .int x6] [.int 1] h r h' ↔ mn_E 113 71 [.int x0, .int x1, .int x2, .int x3, .int x4, .int x5, .int x6] [] h r h' :=
  mX_tsw d_X7_rings_35 rfl (by decide)
theorem b_X7_rings_35_2 {x0 x1 x2 x3 x4 x5 x6 : Int32} {h h' : mn_H} {r : Option Value} : mn_E 113 35 [.int x0, .int x1, .int x2, .int x3, .int x4, .int x5, .int x6] [.int 2] h r h' ↔ mn_E 113 82 [.int x0, .int x1, .int x2, .int x3, .int x4, .int x5, .int x6] [] h r h' :=
  mX_tsw d_X7_rings_35 rfl (by decide)
theorem b_X7_rings_35_3 {x0 x1 x2 x3 x4 x5 x6 : Int32} {h h' : mn_H} {r : Option Value} : mn_E 113 35 [.int x0, .int x1, .int x2, .int x3, .int x4, .int x5, .int x6] [.int 3] h r h' ↔ mn_E 113 98 [.int x0, .int x1, .int x2, .int x3, .int x4, .int x5, .int x6] [] h r h' :=
  mX_tsw d_X7_rings_35 rfl (by decide)
theorem b_X7_rings_35_4 {x0 x1 x2 x3 x4 x5 x6 : Int32} {h h' : mn_H} {r : Option Value} : mn_E 113 35 [.int x0, .int x1, .int x2, .int x3, .int x4, .int x5, .int x6] [.int 4] h r h' ↔ mn_E 113 114 [.int x0, .int x1, .int x2, .int x3, .int x4, .int x5, .int x6] [] h r h' :=
  mX_tsw d_X7_rings_35 rfl (by decide)
theorem b_X7_rings_68 {x0 x1 x2 x3 x4 x5 x6 : Int32} {h h' : mn_H} {r : Option Value} (hy0 : x5 = 0 ∨ x5 = 1) : mn_E 113 68 [.int x0, .int x1, .int x2, .int x3, .int x4, .int x5, .int x6] [] h r h' ↔ r = some (.int x5) ∧ h' = h :=
  (mX_iload d_X7_rings_68 rfl).trans <| mX_zret d_X7_rings_70 rfl hy0
theorem b_X7_rings_71 {x0 x1 x2 x3 x4 x5 x6 : Int32} {h h' : mn_H} {r : Option Value} : mn_E 113 71 [.int x0, .int x1, .int x2, .int x3, .int x4, .int x5, .int x6] [] h r h' ↔ if ¬ x5 = 0 then mn_E 113 80 [.int x0, .int x1, .int x2, .int x3, .int x4, .int x5, .int x6] [] h r h' else mn_E 113 76 [.int x0, .int x1, .int x2, .int x3, .int x4, .int x5, .int x6] [] h r h' :=
  (mX_iload d_X7_rings_71 rfl).trans <| mX_if_ne d_X7_rings_73 rfl
theorem b_X7_rings_76 {x0 x1 x2 x3 x4 x5 x6 : Int32} {h h' : mn_H} {r : Option Value} : mn_E 113 76 [.int x0, .int x1, .int x2, .int x3, .int x4, .int x5, .int x6] [] h r h' ↔ mn_E 113 81 [.int x0, .int x1, .int x2, .int x3, .int x4, .int x5, .int x6] [.int 1] h r h' :=
  (mX_iconst d_X7_rings_76 ci_1).trans <| mX_goto d_X7_rings_77 rfl
theorem b_X7_rings_80 {x0 x1 x2 x3 x4 x5 x6 : Int32} {h h' : mn_H} {r : Option Value} : mn_E 113 80 [.int x0, .int x1, .int x2, .int x3, .int x4, .int x5, .int x6] [] h r h' ↔ mn_E 113 81 [.int x0, .int x1, .int x2, .int x3, .int x4, .int x5, .int x6] [.int 0] h r h' :=
  mX_iconst d_X7_rings_80 ci_0
theorem b_X7_rings_81 {x0 x1 x2 x3 x4 x5 x6 s0 : Int32} {h h' : mn_H} {r : Option Value} (hy0 : s0 = 0 ∨ s0 = 1) : mn_E 113 81 [.int x0, .int x1, .int x2, .int x3, .int x4, .int x5, .int x6] [.int s0] h r h' ↔ r = some (.int s0) ∧ h' = h :=
  mX_zret d_X7_rings_81 rfl hy0
theorem b_X7_rings_82 {x0 x1 x2 x3 x4 x5 x6 : Int32} {h h' : mn_H} {r : Option Value} : mn_E 113 82 [.int x0, .int x1, .int x2, .int x3, .int x4, .int x5, .int x6] [] h r h' ↔ if x5 = 0 then mn_E 113 96 [.int x0, .int x1, .int x2, .int x3, .int x4, .int x5, .int x6] [] h r h' else mn_E 113 87 [.int x0, .int x1, .int x2, .int x3, .int x4, .int x5, .int x6] [] h r h' :=
  (mX_iload d_X7_rings_82 rfl).trans <| mX_if_eq d_X7_rings_84 rfl
theorem b_X7_rings_87 {x0 x1 x2 x3 x4 x5 x6 : Int32} {h h' : mn_H} {r : Option Value} : mn_E 113 87 [.int x0, .int x1, .int x2, .int x3, .int x4, .int x5, .int x6] [] h r h' ↔ if x6 = 0 then mn_E 113 96 [.int x0, .int x1, .int x2, .int x3, .int x4, .int x5, .int x6] [] h r h' else mn_E 113 92 [.int x0, .int x1, .int x2, .int x3, .int x4, .int x5, .int x6] [] h r h' :=
  (mX_iload d_X7_rings_87 rfl).trans <| mX_if_eq d_X7_rings_89 rfl
theorem b_X7_rings_92 {x0 x1 x2 x3 x4 x5 x6 : Int32} {h h' : mn_H} {r : Option Value} : mn_E 113 92 [.int x0, .int x1, .int x2, .int x3, .int x4, .int x5, .int x6] [] h r h' ↔ mn_E 113 97 [.int x0, .int x1, .int x2, .int x3, .int x4, .int x5, .int x6] [.int 1] h r h' :=
  (mX_iconst d_X7_rings_92 ci_1).trans <| mX_goto d_X7_rings_93 rfl
theorem b_X7_rings_96 {x0 x1 x2 x3 x4 x5 x6 : Int32} {h h' : mn_H} {r : Option Value} : mn_E 113 96 [.int x0, .int x1, .int x2, .int x3, .int x4, .int x5, .int x6] [] h r h' ↔ mn_E 113 97 [.int x0, .int x1, .int x2, .int x3, .int x4, .int x5, .int x6] [.int 0] h r h' :=
  mX_iconst d_X7_rings_96 ci_0
theorem b_X7_rings_97 {x0 x1 x2 x3 x4 x5 x6 s0 : Int32} {h h' : mn_H} {r : Option Value} (hy0 : s0 = 0 ∨ s0 = 1) : mn_E 113 97 [.int x0, .int x1, .int x2, .int x3, .int x4, .int x5, .int x6] [.int s0] h r h' ↔ r = some (.int s0) ∧ h' = h :=
  mX_zret d_X7_rings_97 rfl hy0
theorem b_X7_rings_98 {x0 x1 x2 x3 x4 x5 x6 : Int32} {h h' : mn_H} {r : Option Value} : mn_E 113 98 [.int x0, .int x1, .int x2, .int x3, .int x4, .int x5, .int x6] [] h r h' ↔ if ¬ x5 = 0 then mn_E 113 108 [.int x0, .int x1, .int x2, .int x3, .int x4, .int x5, .int x6] [] h r h' else mn_E 113 103 [.int x0, .int x1, .int x2, .int x3, .int x4, .int x5, .int x6] [] h r h' :=
  (mX_iload d_X7_rings_98 rfl).trans <| mX_if_ne d_X7_rings_100 rfl
theorem b_X7_rings_103 {x0 x1 x2 x3 x4 x5 x6 : Int32} {h h' : mn_H} {r : Option Value} : mn_E 113 103 [.int x0, .int x1, .int x2, .int x3, .int x4, .int x5, .int x6] [] h r h' ↔ if x6 = 0 then mn_E 113 112 [.int x0, .int x1, .int x2, .int x3, .int x4, .int x5, .int x6] [] h r h' else mn_E 113 108 [.int x0, .int x1, .int x2, .int x3, .int x4, .int x5, .int x6] [] h r h' :=
  (mX_iload d_X7_rings_103 rfl).trans <| mX_if_eq d_X7_rings_105 rfl
theorem b_X7_rings_108 {x0 x1 x2 x3 x4 x5 x6 : Int32} {h h' : mn_H} {r : Option Value} : mn_E 113 108 [.int x0, .int x1, .int x2, .int x3, .int x4, .int x5, .int x6] [] h r h' ↔ mn_E 113 113 [.int x0, .int x1, .int x2, .int x3, .int x4, .int x5, .int x6] [.int 1] h r h' :=
  (mX_iconst d_X7_rings_108 ci_1).trans <| mX_goto d_X7_rings_109 rfl
theorem b_X7_rings_112 {x0 x1 x2 x3 x4 x5 x6 : Int32} {h h' : mn_H} {r : Option Value} : mn_E 113 112 [.int x0, .int x1, .int x2, .int x3, .int x4, .int x5, .int x6] [] h r h' ↔ mn_E 113 113 [.int x0, .int x1, .int x2, .int x3, .int x4, .int x5, .int x6] [.int 0] h r h' :=
  mX_iconst d_X7_rings_112 ci_0
theorem b_X7_rings_113 {x0 x1 x2 x3 x4 x5 x6 s0 : Int32} {h h' : mn_H} {r : Option Value} (hy0 : s0 = 0 ∨ s0 = 1) : mn_E 113 113 [.int x0, .int x1, .int x2, .int x3, .int x4, .int x5, .int x6] [.int s0] h r h' ↔ r = some (.int s0) ∧ h' = h :=
  mX_zret d_X7_rings_113 rfl hy0
theorem b_X7_rings_114 {x0 x1 x2 x3 x4 x5 x6 : Int32} {h h' : mn_H} {r : Option Value} : mn_E 113 114 [.int x0, .int x1, .int x2, .int x3, .int x4, .int x5, .int x6] [] h r h' ↔ if ¬ ((x3 >>> (x1 &&& 31)) &&& 1) = 1 then mn_E 113 127 [.int x0, .int x1, .int x2, .int x3, .int x4, .int x5, .int x6] [] h r h' else mn_E 113 123 [.int x0, .int x1, .int x2, .int x3, .int x4, .int x5, .int x6] [] h r h' :=
  (mX_iload_n d_X7_rings_114 rfl).trans <| (mX_iload_n d_X7_rings_115 rfl).trans <| (mX_ishr d_X7_rings_116).trans <| (mX_iconst d_X7_rings_117 ci_1).trans <| (mX_iand d_X7_rings_118).trans <| (mX_iconst d_X7_rings_119 ci_1).trans <| mX_icmp_ne d_X7_rings_120 rfl
theorem b_X7_rings_123 {x0 x1 x2 x3 x4 x5 x6 : Int32} {h h' : mn_H} {r : Option Value} : mn_E 113 123 [.int x0, .int x1, .int x2, .int x3, .int x4, .int x5, .int x6] [] h r h' ↔ mn_E 113 128 [.int x0, .int x1, .int x2, .int x3, .int x4, .int x5, .int x6] [.int 1] h r h' :=
  (mX_iconst d_X7_rings_123 ci_1).trans <| mX_goto d_X7_rings_124 rfl
theorem b_X7_rings_127 {x0 x1 x2 x3 x4 x5 x6 : Int32} {h h' : mn_H} {r : Option Value} : mn_E 113 127 [.int x0, .int x1, .int x2, .int x3, .int x4, .int x5, .int x6] [] h r h' ↔ mn_E 113 128 [.int x0, .int x1, .int x2, .int x3, .int x4, .int x5, .int x6] [.int 0] h r h' :=
  mX_iconst d_X7_rings_127 ci_0
theorem b_X7_rings_128 {x0 x1 x2 x3 x4 x5 x6 s0 : Int32} {h h' : mn_H} {r : Option Value} (hy0 : s0 = 0 ∨ s0 = 1) : mn_E 113 128 [.int x0, .int x1, .int x2, .int x3, .int x4, .int x5, .int x6] [.int s0] h r h' ↔ r = some (.int s0) ∧ h' = h :=
  mX_zret d_X7_rings_128 rfl hy0
theorem b_X7_rings_129 {x0 x1 x2 x3 x4 x5 x6 : Int32} {h h' : mn_H} {r : Option Value} : mn_E 113 129 [.int x0, .int x1, .int x2, .int x3, .int x4, .int x5, .int x6] [] h r h' ↔ r = some (.int 0) ∧ h' = h :=
  (mX_iconst d_X7_rings_129 ci_0).trans <| mX_zret d_X7_rings_130 rfl (by decide)
