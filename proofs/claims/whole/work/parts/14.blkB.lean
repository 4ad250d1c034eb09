-- X5_forgetAll
theorem mo_41 : mO 41 = 5 := rfl
theorem d_X5_forgetAll_0 : decode (mC 41) 0 = .ok (.aload_n 0, 1) := by decide +kernel
theorem d_X5_forgetAll_1 : decode (mC 41) 1 = .ok (.iconst 0, 1) := by decide +kernel
theorem d_X5_forgetAll_2 : decode (mC 41) 2 = .ok (.putfield 63, 3) := by decide +kernel
theorem d_X5_forgetAll_5 : decode (mC 41) 5 = .ok (.aload_n 0, 1) := by decide +kernel
theorem d_X5_forgetAll_6 : decode (mC 41) 6 = .ok (.iconst 0, 1) := by decide +kernel
theorem d_X5_forgetAll_7 : decode (mC 41) 7 = .ok (.putfield 67, 3) := by decide +kernel
theorem d_X5_forgetAll_10 : decode (mC 41) 10 = .ok (.aload_n 0, 1) := by decide +kernel
theorem d_X5_forgetAll_11 : decode (mC 41) 11 = .ok (.getfield 38, 3) := by decide +kernel
theorem d_X5_forgetAll_14 : decode (mC 41) 14 = .ok (.invokevirtual 70, 3) := by decide +kernel
theorem d_X5_forgetAll_17 : decode (mC 41) 17 = .ok (.aload_n 0, 1) := by decide +kernel
theorem d_X5_forgetAll_18 : decode (mC 41) 18 = .ok (.getfield 42, 3) := by decide +kernel
theorem d_X5_forgetAll_21 : decode (mC 41) 21 = .ok (.invokevirtual 70, 3) := by decide +kernel
theorem d_X5_forgetAll_24 : decode (mC 41) 24 = .ok (.aload_n 0, 1) := by decide +kernel
theorem d_X5_forgetAll_25 : decode (mC 41) 25 = .ok (.iconst 0, 1) := by decide +kernel
theorem d_X5_forgetAll_26 : decode (mC 41) 26 = .ok (.putfield 73, 3) := by decide +kernel
theorem d_X5_forgetAll_29 : decode (mC 41) 29 = .ok (.aload_n 0, 1) := by decide +kernel
theorem d_X5_forgetAll_30 : decode (mC 41) 30 = .ok (.getfield 54, 3) := by decide +kernel
theorem d_X5_forgetAll_33 : decode (mC 41) 33 = .ok (.iconst 1, 1) := by decide +kernel
theorem d_X5_forgetAll_34 : decode (mC 41) 34 = .ok (.invokestatic 57, 3) := by decide +kernel
theorem d_X5_forgetAll_37 : decode (mC 41) 37 = .ok (.aload_n 0, 1) := by decide +kernel
theorem d_X5_forgetAll_38 : decode (mC 41) 38 = .ok (.iconst 0, 1) := by decide +kernel
theorem d_X5_forgetAll_39 : decode (mC 41) 39 = .ok (.putfield 76, 3) := by decide +kernel
theorem d_X5_forgetAll_42 : decode (mC 41) 42 = .ok (.return_, 1) := by decide +kernel
theorem fi_41_63 : mn_fi 41 5 63 5 0 = true := by decide +kernel
theorem fi_41_67 : mn_fi 41 5 67 5 4 = true := by decide +kernel
theorem fr_41_38 : mn_fr 41 5 38 5 9 = true := by decide +kernel
theorem cv_41_70 : mn_cvt 41 5 70 37 = true := by decide +kernel
theorem fr_41_42 : mn_fr 41 5 42 5 10 = true := by decide +kernel
theorem fi_41_73 : mn_fi 41 5 73 5 11 = true := by decide +kernel
theorem fr_41_54 : mn_fr 41 5 54 5 15 = true := by decide +kernel
theorem cs_41_57 : mn_cs 41 5 57 192 = true := by decide +kernel
theorem fi_41_76 : mn_fi 41 5 76 5 16 = true := by decide +kernel
theorem b_X5_forgetAll_0 {a0 : Nat} {h h' : mn_H} {r : Option Value} (ha0 : mn_isT a0) : mn_E 41 0 [.ref a0] [] h r h' ↔ ∃ h1, mn_X 37 [.ref (a0 + 8)] (mn_up (mn_up h a0 0 0) a0 4 0) none h1 ∧ mn_E 41 17 [.ref a0] [] h1 r h' :=
  (mX_aload_n d_X5_forgetAll_0 rfl).trans <| (mX_iconst d_X5_forgetAll_1 ci_0).trans <| (mP_i d_X5_forgetAll_2 fi_41_63 (mn_shT0 ha0) (mn_ltT0 ha0) rfl (Or.inl (by decide))).trans <| (mX_aload_n d_X5_forgetAll_5 rfl).trans <| (mX_iconst d_X5_forgetAll_6 ci_0).trans <| (mP_i d_X5_forgetAll_7 fi_41_67 (mn_shT0 ha0) (mn_ltT0 ha0) rfl (Or.inl (by decide))).trans <| (mX_aload_n d_X5_forgetAll_10 rfl).trans <| (mG_r (b := (a0 + 8)) d_X5_forgetAll_11 fr_41_38 (mn_shT0 ha0) (mn_ltT0 ha0) (mn_rfT9 ha0 _)).trans <| mV_v (a := (a0 + 8)) (vs := []) (st' := []) d_X5_forgetAll_14 cv_41_70 rfl (Nat.le_of_ble_eq_true rfl) rfl rfl (mn_shT8 ha0) rfl
theorem b_X5_forgetAll_17 {a0 : Nat} {h h' : mn_H} {r : Option Value} (ha0 : mn_isT a0) : mn_E 41 17 [.ref a0] [] h r h' ↔ ∃ h1, mn_X 37 [.ref (a0 + 12)] h none h1 ∧ mn_E 41 24 [.ref a0] [] h1 r h' :=
  (mX_aload_n d_X5_forgetAll_17 rfl).trans <| (mG_r (b := (a0 + 12)) d_X5_forgetAll_18 fr_41_42 (mn_shT0 ha0) (mn_ltT0 ha0) (mn_rfT10 ha0 _)).trans <| mV_v (a := (a0 + 12)) (vs := []) (st' := []) d_X5_forgetAll_21 cv_41_70 rfl (Nat.le_of_ble_eq_true rfl) rfl rfl (mn_shT12 ha0) rfl
theorem b_X5_forgetAll_24 {a0 : Nat} {h h' : mn_H} {r : Option Value} (ha0 : mn_isT a0) : mn_E 41 24 [.ref a0] [] h r h' ↔ ∃ h1, mn_X 192 [.ref (a0 + 19), .int 1] (mn_up h a0 11 0) none h1 ∧ mn_E 41 37 [.ref a0] [] h1 r h' :=
  (mX_aload_n d_X5_forgetAll_24 rfl).trans <| (mX_iconst d_X5_forgetAll_25 ci_0).trans <| (mP_i d_X5_forgetAll_26 fi_41_73 (mn_shT0 ha0) (mn_ltT0 ha0) rfl (Or.inl (by decide))).trans <| (mX_aload_n d_X5_forgetAll_29 rfl).trans <| (mG_r (b := (a0 + 19)) d_X5_forgetAll_30 fr_41_54 (mn_shT0 ha0) (mn_ltT0 ha0) (mn_rfT15 ha0 _)).trans <| (mX_iconst d_X5_forgetAll_33 ci_1).trans <| mS_v (vs := [.ref (a0 + 19), .int 1]) (st' := []) d_X5_forgetAll_34 cs_41_57 rfl (Nat.le_of_ble_eq_true rfl) rfl rfl rfl
theorem b_X5_forgetAll_37 {a0 : Nat} {h h' : mn_H} {r : Option Value} (ha0 : mn_isT a0) : mn_E 41 37 [.ref a0] [] h r h' ↔ r = none ∧ h' = mn_up h a0 16 0 :=
  (mX_aload_n d_X5_forgetAll_37 rfl).trans <| (mX_iconst d_X5_forgetAll_38 ci_0).trans <| (mP_i d_X5_forgetAll_39 fi_41_76 (mn_shT0 ha0) (mn_ltT0 ha0) rfl (Or.inl (by decide))).trans <| mX_vret d_X5_forgetAll_42 rfl
-- X5_addBell
theorem mo_42 : mO 42 = 5 := rfl
theorem d_X5_addBell_0 : decode (mC 42) 0 = .ok (.aload_n 0, 1) := by decide +kernel
theorem d_X5_addBell_1 : decode (mC 42) 1 = .ok (.getfield 63, 3) := by decide +kernel
theorem d_X5_addBell_4 : decode (mC 42) 4 = .ok (.iconst 5, 1) := by decide +kernel
theorem d_X5_addBell_5 : decode (mC 42) 5 = .ok (.if_icmp .ge 43, 3) := by decide +kernel
theorem d_X5_addBell_8 : decode (mC 42) 8 = .ok (.aload_n 0, 1) := by decide +kernel
theorem d_X5_addBell_9 : decode (mC 42) 9 = .ok (.getfield 9, 3) := by decide +kernel
theorem d_X5_addBell_12 : decode (mC 42) 12 = .ok (.aload_n 0, 1) := by decide +kernel
theorem d_X5_addBell_13 : decode (mC 42) 13 = .ok (.getfield 63, 3) := by decide +kernel
theorem d_X5_addBell_16 : decode (mC 42) 16 = .ok (.iload_n 1, 1) := by decide +kernel
theorem d_X5_addBell_17 : decode (mC 42) 17 = .ok (.iastore, 1) := by decide +kernel
theorem d_X5_addBell_18 : decode (mC 42) 18 = .ok (.aload_n 0, 1) := by decide +kernel
theorem d_X5_addBell_19 : decode (mC 42) 19 = .ok (.getfield 15, 3) := by decide +kernel
theorem d_X5_addBell_22 : decode (mC 42) 22 = .ok (.aload_n 0, 1) := by decide +kernel
theorem d_X5_addBell_23 : decode (mC 42) 23 = .ok (.getfield 63, 3) := by decide +kernel
theorem d_X5_addBell_26 : decode (mC 42) 26 = .ok (.iload_n 2, 1) := by decide +kernel
theorem d_X5_addBell_27 : decode (mC 42) 27 = .ok (.iastore, 1) := by decide +kernel
theorem d_X5_addBell_28 : decode (mC 42) 28 = .ok (.aload_n 0, 1) := by decide +kernel
theorem d_X5_addBell_29 : decode (mC 42) 29 = .ok (.getfield 18, 3) := by decide +kernel
theorem d_X5_addBell_32 : decode (mC 42) 32 = .ok (.aload_n 0, 1) := by decide +kernel
theorem d_X5_addBell_33 : decode (mC 42) 33 = .ok (.getfield 63, 3) := by decide +kernel
theorem d_X5_addBell_36 : decode (mC 42) 36 = .ok (.iload_n 3, 1) := by decide +kernel
theorem d_X5_addBell_37 : decode (mC 42) 37 = .ok (.iastore, 1) := by decide +kernel
theorem d_X5_addBell_38 : decode (mC 42) 38 = .ok (.aload_n 0, 1) := by decide +kernel
theorem d_X5_addBell_39 : decode (mC 42) 39 = .ok (.dup, 1) := by decide +kernel
theorem d_X5_addBell_40 : decode (mC 42) 40 = .ok (.getfield 63, 3) := by decide +kernel
theorem d_X5_addBell_43 : decode (mC 42) 43 = .ok (.iconst 1, 1) := by decide +kernel
theorem d_X5_addBell_44 : decode (mC 42) 44 = .ok (.iadd, 1) := by decide +kernel
theorem d_X5_addBell_45 : decode (mC 42) 45 = .ok (.putfield 63, 3) := by decide +kernel
theorem d_X5_addBell_48 : decode (mC 42) 48 = .ok (.return_, 1) := by decide +kernel
theorem fi_42_63 : mn_fi 42 5 63 5 0 = true := by decide +kernel
theorem fr_42_9 : mn_fr 42 5 9 5 1 = true := by decide +kernel
theorem fr_42_15 : mn_fr 42 5 15 5 2 = true := by decide +kernel
theorem fr_42_18 : mn_fr 42 5 18 5 3 = true := by decide +kernel
theorem b_X5_addBell_0 {x1 x2 x3 : Int32} {a0 : Nat} {h h' : mn_H} {r : Option Value} (ha0 : mn_isT a0) : mn_E 42 0 [.ref a0, .int x1, .int x2, .int x3] [] h r h' ↔ if (5 : Int32) ≤ (h a0 0) then mn_E 42 48 [.ref a0, .int x1, .int x2, .int x3] [] h r h' else mn_E 42 8 [.ref a0, .int x1, .int x2, .int x3] [] h r h' :=
  (mX_aload_n d_X5_addBell_0 rfl).trans <| (mG_i d_X5_addBell_1 fi_42_63 (mn_shT0 ha0) (mn_ltT0 ha0)).trans <| (mX_iconst d_X5_addBell_4 ci_5).trans <| mX_icmp_ge d_X5_addBell_5 rfl
theorem b_X5_addBell_8 {x1 x2 x3 : Int32} {a0 : Nat} {h h' : mn_H} {r : Option Value} (ha0 : mn_isT a0) (hy1 : vp_in (h a0 0) 5) (hy2 : vp_in ((mn_up h (a0 + 1) ((h a0 0).toNatClampNeg) x1) a0 0) 5) (hy3 : vp_in ((mn_up (mn_up h (a0 + 1) ((h a0 0).toNatClampNeg) x1) (a0 + 2) (((mn_up h (a0 + 1) ((h a0 0).toNatClampNeg) x1) a0 0).toNatClampNeg) x2) a0 0) 5) : mn_E 42 8 [.ref a0, .int x1, .int x2, .int x3] [] h r h' ↔ mn_E 42 48 [.ref a0, .int x1, .int x2, .int x3] [] (mn_up (mn_up (mn_up (mn_up h (a0 + 1) ((h a0 0).toNatClampNeg) x1) (a0 + 2) (((mn_up h (a0 + 1) ((h a0 0).toNatClampNeg) x1) a0 0).toNatClampNeg) x2) (a0 + 3) (((mn_up (mn_up h (a0 + 1) ((h a0 0).toNatClampNeg) x1) (a0 + 2) (((mn_up h (a0 + 1) ((h a0 0).toNatClampNeg) x1) a0 0).toNatClampNeg) x2) a0 0).toNatClampNeg) x3) a0 0 (((mn_up (mn_up (mn_up h (a0 + 1) ((h a0 0).toNatClampNeg) x1) (a0 + 2) (((mn_up h (a0 + 1) ((h a0 0).toNatClampNeg) x1) a0 0).toNatClampNeg) x2) (a0 + 3) (((mn_up (mn_up h (a0 + 1) ((h a0 0).toNatClampNeg) x1) (a0 + 2) (((mn_up h (a0 + 1) ((h a0 0).toNatClampNeg) x1) a0 0).toNatClampNeg) x2) a0 0).toNatClampNeg) x3) a0 0) + 1)) r h' :=
  (mX_aload_n d_X5_addBell_8 rfl).trans <| (mG_r (b := (a0 + 1)) d_X5_addBell_9 fr_42_9 (mn_shT0 ha0) (mn_ltT0 ha0) (mn_rfT1 ha0 _)).trans <| (mX_aload_n d_X5_addBell_12 rfl).trans <| (mG_i d_X5_addBell_13 fi_42_63 (mn_shT0 ha0) (mn_ltT0 ha0)).trans <| (mX_iload_n d_X5_addBell_16 rfl).trans <| (mX_iastore d_X5_addBell_17 (mn_shT1 ha0) (mn_ltT ha0 (by decide)) hy1).trans <| (mX_aload_n d_X5_addBell_18 rfl).trans <| (mG_r (b := (a0 + 2)) d_X5_addBell_19 fr_42_15 (mn_shT0 ha0) (mn_ltT0 ha0) (mn_rfT2 ha0 _)).trans <| (mX_aload_n d_X5_addBell_22 rfl).trans <| (mG_i d_X5_addBell_23 fi_42_63 (mn_shT0 ha0) (mn_ltT0 ha0)).trans <| (mX_iload_n d_X5_addBell_26 rfl).trans <| (mX_iastore d_X5_addBell_27 (mn_shT2 ha0) (mn_ltT ha0 (by decide)) hy2).trans <| (mX_aload_n d_X5_addBell_28 rfl).trans <| (mG_r (b := (a0 + 3)) d_X5_addBell_29 fr_42_18 (mn_shT0 ha0) (mn_ltT0 ha0) (mn_rfT3 ha0 _)).trans <| (mX_aload_n d_X5_addBell_32 rfl).trans <| (mG_i d_X5_addBell_33 fi_42_63 (mn_shT0 ha0) (mn_ltT0 ha0)).trans <| (mX_iload_n d_X5_addBell_36 rfl).trans <| (mX_iastore d_X5_addBell_37 (mn_shT3 ha0) (mn_ltT ha0 (by decide)) hy3).trans <| (mX_aload_n d_X5_addBell_38 rfl).trans <| (mX_dup d_X5_addBell_39 rfl).trans <| (mG_i d_X5_addBell_40 fi_42_63 (mn_shT0 ha0) (mn_ltT0 ha0)).trans <| (mX_iconst d_X5_addBell_43 ci_1).trans <| (mX_iadd d_X5_addBell_44).trans <| mP_i d_X5_addBell_45 fi_42_63 (mn_shT0 ha0) (mn_ltT0 ha0) rfl (Or.inl (by decide))
theorem b_X5_addBell_48 {x1 x2 x3 : Int32} {a0 : Nat} {h h' : mn_H} {r : Option Value} (ha0 : mn_isT a0) : mn_E 42 48 [.ref a0, .int x1, .int x2, .int x3] [] h r h' ↔ r = none ∧ h' = h :=
  mX_vret d_X5_addBell_48 rfl
-- X5_addGroup
theorem mo_43 : mO 43 = 5 := rfl
theorem d_X5_addGroup_0 : decode (mC 43) 0 = .ok (.aload_n 0, 1) := by decide +kernel
theorem d_X5_addGroup_1 : decode (mC 43) 1 = .ok (.getfield 67, 3) := by decide +kernel
theorem d_X5_addGroup_4 : decode (mC 43) 4 = .ok (.bipush 6, 2) := by decide +kernel
theorem d_X5_addGroup_6 : decode (mC 43) 6 = .ok (.if_icmp .ge 54, 3) := by decide +kernel
theorem d_X5_addGroup_9 : decode (mC 43) 9 = .ok (.aload_n 0, 1) := by decide +kernel
theorem d_X5_addGroup_10 : decode (mC 43) 10 = .ok (.getfield 21, 3) := by decide +kernel
theorem d_X5_addGroup_13 : decode (mC 43) 13 = .ok (.aload_n 0, 1) := by decide +kernel
theorem d_X5_addGroup_14 : decode (mC 43) 14 = .ok (.getfield 67, 3) := by decide +kernel
theorem d_X5_addGroup_17 : decode (mC 43) 17 = .ok (.iload_n 1, 1) := by decide +kernel
theorem d_X5_addGroup_18 : decode (mC 43) 18 = .ok (.iastore, 1) := by decide +kernel
theorem d_X5_addGroup_19 : decode (mC 43) 19 = .ok (.aload_n 0, 1) := by decide +kernel
theorem d_X5_addGroup_20 : decode (mC 43) 20 = .ok (.getfield 24, 3) := by decide +kernel
theorem d_X5_addGroup_23 : decode (mC 43) 23 = .ok (.aload_n 0, 1) := by decide +kernel
theorem d_X5_addGroup_24 : decode (mC 43) 24 = .ok (.getfield 67, 3) := by decide +kernel
theorem d_X5_addGroup_27 : decode (mC 43) 27 = .ok (.iload_n 2, 1) := by decide +kernel
theorem d_X5_addGroup_28 : decode (mC 43) 28 = .ok (.iastore, 1) := by decide +kernel
theorem d_X5_addGroup_29 : decode (mC 43) 29 = .ok (.aload_n 0, 1) := by decide +kernel
theorem d_X5_addGroup_30 : decode (mC 43) 30 = .ok (.getfield 27, 3) := by decide +kernel
theorem d_X5_addGroup_33 : decode (mC 43) 33 = .ok (.aload_n 0, 1) := by decide +kernel
theorem d_X5_addGroup_34 : decode (mC 43) 34 = .ok (.getfield 67, 3) := by decide +kernel
theorem d_X5_addGroup_37 : decode (mC 43) 37 = .ok (.iload_n 3, 1) := by decide +kernel
theorem d_X5_addGroup_38 : decode (mC 43) 38 = .ok (.iastore, 1) := by decide +kernel
theorem d_X5_addGroup_39 : decode (mC 43) 39 = .ok (.aload_n 0, 1) := by decide +kernel
theorem d_X5_addGroup_40 : decode (mC 43) 40 = .ok (.getfield 30, 3) := by decide +kernel
theorem d_X5_addGroup_43 : decode (mC 43) 43 = .ok (.aload_n 0, 1) := by decide +kernel
theorem d_X5_addGroup_44 : decode (mC 43) 44 = .ok (.getfield 67, 3) := by decide +kernel
theorem d_X5_addGroup_47 : decode (mC 43) 47 = .ok (.iload 4, 2) := by decide +kernel
theorem d_X5_addGroup_49 : decode (mC 43) 49 = .ok (.iastore, 1) := by decide +kernel
theorem d_X5_addGroup_50 : decode (mC 43) 50 = .ok (.aload_n 0, 1) := by decide +kernel
theorem d_X5_addGroup_51 : decode (mC 43) 51 = .ok (.dup, 1) := by decide +kernel
theorem d_X5_addGroup_52 : decode (mC 43) 52 = .ok (.getfield 67, 3) := by decide +kernel
theorem d_X5_addGroup_55 : decode (mC 43) 55 = .ok (.iconst 1, 1) := by decide +kernel
theorem d_X5_addGroup_56 : decode (mC 43) 56 = .ok (.iadd, 1) := by decide +kernel
theorem d_X5_addGroup_57 : decode (mC 43) 57 = .ok (.putfield 67, 3) := by decide +kernel
theorem d_X5_addGroup_60 : decode (mC 43) 60 = .ok (.return_, 1) := by decide +kernel
theorem fi_43_67 : mn_fi 43 5 67 5 4 = true := by decide +kernel
theorem fr_43_21 : mn_fr 43 5 21 5 5 = true := by decide +kernel
theorem fr_43_24 : mn_fr 43 5 24 5 6 = true := by decide +kernel
theorem fr_43_27 : mn_fr 43 5 27 5 7 = true := by decide +kernel
theorem fr_43_30 : mn_fr 43 5 30 5 8 = true := by decide +kernel
theorem b_X5_addGroup_0 {x1 x2 x3 x4 : Int32} {a0 : Nat} {h h' : mn_H} {r : Option Value} (ha0 : mn_isT a0) : mn_E 43 0 [.ref a0, .int x1, .int x2, .int x3, .int x4] [] h r h' ↔ if (6 : Int32) ≤ (h a0 4) then mn_E 43 60 [.ref a0, .int x1, .int x2, .int x3, .int x4] [] h r h' else mn_E 43 9 [.ref a0, .int x1, .int x2, .int x3, .int x4] [] h r h' :=
  (mX_aload_n d_X5_addGroup_0 rfl).trans <| (mG_i d_X5_addGroup_1 fi_43_67 (mn_shT0 ha0) (mn_ltT0 ha0)).trans <| (mX_bipush d_X5_addGroup_4 cb_6).trans <| mX_icmp_ge d_X5_addGroup_6 rfl
theorem b_X5_addGroup_9 {x1 x2 x3 x4 : Int32} {a0 : Nat} {h h' : mn_H} {r : Option Value} (ha0 : mn_isT a0) (hy1 : vp_in (h a0 4) 6) (hy2 : vp_in ((mn_up h (a0 + 4) ((h a0 4).toNatClampNeg) x1) a0 4) 6) (hy3 : vp_in ((mn_up (mn_up h (a0 + 4) ((h a0 4).toNatClampNeg) x1) (a0 + 5) (((mn_up h (a0 + 4) ((h a0 4).toNatClampNeg) x1) a0 4).toNatClampNeg) x2) a0 4) 6) (hy4 : vp_in ((mn_up (mn_up (mn_up h (a0 + 4) ((h a0 4).toNatClampNeg) x1) (a0 + 5) (((mn_up h (a0 + 4) ((h a0 4).toNatClampNeg) x1) a0 4).toNatClampNeg) x2) (a0 + 6) (((mn_up (mn_up h (a0 + 4) ((h a0 4).toNatClampNeg) x1) (a0 + 5) (((mn_up h (a0 + 4) ((h a0 4).toNatClampNeg) x1) a0 4).toNatClampNeg) x2) a0 4).toNatClampNeg) x3) a0 4) 6) : mn_E 43 9 [.ref a0, .int x1, .int x2, .int x3, .int x4] [] h r h' ↔ mn_E 43 60 [.ref a0, .int x1, .int x2, .int x3, .int x4] [] (mn_up (mn_up (mn_up (mn_up (mn_up h (a0 + 4) ((h a0 4).toNatClampNeg) x1) (a0 + 5) (((mn_up h (a0 + 4) ((h a0 4).toNatClampNeg) x1) a0 4).toNatClampNeg) x2) (a0 + 6) (((mn_up (mn_up h (a0 + 4) ((h a0 4).toNatClampNeg) x1) (a0 + 5) (((mn_up h (a0 + 4) ((h a0 4).toNatClampNeg) x1) a0 4).toNatClampNeg) x2) a0 4).toNatClampNeg) x3) (a0 + 7) (((mn_up (mn_up (mn_up h (a0 + 4) ((h a0 4).toNatClampNeg) x1) (a0 + 5) (((mn_up h (a0 + 4) ((h a0 4).toNatClampNeg) x1) a0 4).toNatClampNeg) x2) (a0 + 6) (((mn_up (mn_up h (a0 + 4) ((h a0 4).toNatClampNeg) x1) (a0 + 5) (((mn_up h (a0 + 4) ((h a0 4).toNatClampNeg) x1) a0 4).toNatClampNeg) x2) a0 4).toNatClampNeg) x3) a0 4).toNatClampNeg) x4) a0 4 (((mn_up (mn_up (mn_up (mn_up h (a0 + 4) ((h a0 4).toNatClampNeg) x1) (a0 + 5) (((mn_up h (a0 + 4) ((h a0 4).toNatClampNeg) x1) a0 4).toNatClampNeg) x2) (a0 + 6) (((mn_up (mn_up h (a0 + 4) ((h a0 4).toNatClampNeg) x1) (a0 + 5) (((mn_up h (a0 + 4) ((h a0 4).toNatClampNeg) x1) a0 4).toNatClampNeg) x2) a0 4).toNatClampNeg) x3) (a0 + 7) (((mn_up (mn_up (mn_up h (a0 + 4) ((h a0 4).toNatClampNeg) x1) (a0 + 5) (((mn_up h (a0 + 4) ((h a0 4).toNatClampNeg) x1) a0 4).toNatClampNeg) x2) (a0 + 6) (((mn_up (mn_up h (a0 + 4) ((h a0 4).toNatClampNeg) x1) (a0 + 5) (((mn_up h (a0 + 4) ((h a0 4).toNatClampNeg) x1) a0 4).toNatClampNeg) x2) a0 4).toNatClampNeg) x3) a0 4).toNatClampNeg) x4) a0 4) + 1)) r h' :=
  (mX_aload_n d_X5_addGroup_9 rfl).trans <| (mG_r (b := (a0 + 4)) d_X5_addGroup_10 fr_43_21 (mn_shT0 ha0) (mn_ltT0 ha0) (mn_rfT5 ha0 _)).trans <| (mX_aload_n d_X5_addGroup_13 rfl).trans <| (mG_i d_X5_addGroup_14 fi_43_67 (mn_shT0 ha0) (mn_ltT0 ha0)).trans <| (mX_iload_n d_X5_addGroup_17 rfl).trans <| (mX_iastore d_X5_addGroup_18 (mn_shT4 ha0) (mn_ltT ha0 (by decide)) hy1).trans <| (mX_aload_n d_X5_addGroup_19 rfl).trans <| (mG_r (b := (a0 + 5)) d_X5_addGroup_20 fr_43_24 (mn_shT0 ha0) (mn_ltT0 ha0) (mn_rfT6 ha0 _)).trans <| (mX_aload_n d_X5_addGroup_23 rfl).trans <| (mG_i d_X5_addGroup_24 fi_43_67 (mn_shT0 ha0) (mn_ltT0 ha0)).trans <| (mX_iload_n d_X5_addGroup_27 rfl).trans <| (mX_iastore d_X5_addGroup_28 (mn_shT5 ha0) (mn_ltT ha0 (by decide)) hy2).trans <| (mX_aload_n d_X5_addGroup_29 rfl).trans <| (mG_r (b := (a0 + 6)) d_X5_addGroup_30 fr_43_27 (mn_shT0 ha0) (mn_ltT0 ha0) (mn_rfT7 ha0 _)).trans <| (mX_aload_n d_X5_addGroup_33 rfl).trans <| (mG_i d_X5_addGroup_34 fi_43_67 (mn_shT0 ha0) (mn_ltT0 ha0)).trans <| (mX_iload_n d_X5_addGroup_37 rfl).trans <| (mX_iastore d_X5_addGroup_38 (mn_shT6 ha0) (mn_ltT ha0 (by decide)) hy3).trans <| (mX_aload_n d_X5_addGroup_39 rfl).trans <| (mG_r (b := (a0 + 7)) d_X5_addGroup_40 fr_43_30 (mn_shT0 ha0) (mn_ltT0 ha0) (mn_rfT8 ha0 _)).trans <| (mX_aload_n d_X5_addGroup_43 rfl).trans <| (mG_i d_X5_addGroup_44 fi_43_67 (mn_shT0 ha0) (mn_ltT0 ha0)).trans <| (mX_iload d_X5_addGroup_47 rfl).trans <| (mX_iastore d_X5_addGroup_49 (mn_shT7 ha0) (mn_ltT ha0 (by decide)) hy4).trans <| (mX_aload_n d_X5_addGroup_50 rfl).trans <| (mX_dup d_X5_addGroup_51 rfl).trans <| (mG_i d_X5_addGroup_52 fi_43_67 (mn_shT0 ha0) (mn_ltT0 ha0)).trans <| (mX_iconst d_X5_addGroup_55 ci_1).trans <| (mX_iadd d_X5_addGroup_56).trans <| mP_i d_X5_addGroup_57 fi_43_67 (mn_shT0 ha0) (mn_ltT0 ha0) rfl (Or.inl (by decide))
theorem b_X5_addGroup_60 {x1 x2 x3 x4 : Int32} {a0 : Nat} {h h' : mn_H} {r : Option Value} (ha0 : mn_isT a0) : mn_E 43 60 [.ref a0, .int x1, .int x2, .int x3, .int x4] [] h r h' ↔ r = none ∧ h' = h :=
  mX_vret d_X5_addGroup_60 rfl
-- X5_addSelf
theorem mo_44 : mO 44 = 5 := rfl
theorem d_X5_addSelf_0 : decode (mC 44) 0 = .ok (.aload_n 0, 1) := by decide +kernel
theorem d_X5_addSelf_1 : decode (mC 44) 1 = .ok (.getfield 73, 3) := by decide +kernel
theorem d_X5_addSelf_4 : decode (mC 44) 4 = .ok (.iconst 3, 1) := by decide +kernel
theorem d_X5_addSelf_5 : decode (mC 44) 5 = .ok (.if_icmp .ge 43, 3) := by decide +kernel
theorem d_X5_addSelf_8 : decode (mC 44) 8 = .ok (.aload_n 0, 1) := by decide +kernel
theorem d_X5_addSelf_9 : decode (mC 44) 9 = .ok (.getfield 45, 3) := by decide +kernel
theorem d_X5_addSelf_12 : decode (mC 44) 12 = .ok (.aload_n 0, 1) := by decide +kernel
theorem d_X5_addSelf_13 : decode (mC 44) 13 = .ok (.getfield 73, 3) := by decide +kernel
theorem d_X5_addSelf_16 : decode (mC 44) 16 = .ok (.iload_n 1, 1) := by decide +kernel
theorem d_X5_addSelf_17 : decode (mC 44) 17 = .ok (.iastore, 1) := by decide +kernel
theorem d_X5_addSelf_18 : decode (mC 44) 18 = .ok (.aload_n 0, 1) := by decide +kernel
theorem d_X5_addSelf_19 : decode (mC 44) 19 = .ok (.getfield 48, 3) := by decide +kernel
theorem d_X5_addSelf_22 : decode (mC 44) 22 = .ok (.aload_n 0, 1) := by decide +kernel
theorem d_X5_addSelf_23 : decode (mC 44) 23 = .ok (.getfield 73, 3) := by decide +kernel
theorem d_X5_addSelf_26 : decode (mC 44) 26 = .ok (.iload_n 2, 1) := by decide +kernel
theorem d_X5_addSelf_27 : decode (mC 44) 27 = .ok (.iastore, 1) := by decide +kernel
theorem d_X5_addSelf_28 : decode (mC 44) 28 = .ok (.aload_n 0, 1) := by decide +kernel
theorem d_X5_addSelf_29 : decode (mC 44) 29 = .ok (.getfield 51, 3) := by decide +kernel
theorem d_X5_addSelf_32 : decode (mC 44) 32 = .ok (.aload_n 0, 1) := by decide +kernel
theorem d_X5_addSelf_33 : decode (mC 44) 33 = .ok (.getfield 73, 3) := by decide +kernel
theorem d_X5_addSelf_36 : decode (mC 44) 36 = .ok (.iload_n 3, 1) := by decide +kernel
theorem d_X5_addSelf_37 : decode (mC 44) 37 = .ok (.iastore, 1) := by decide +kernel
theorem d_X5_addSelf_38 : decode (mC 44) 38 = .ok (.aload_n 0, 1) := by decide +kernel
theorem d_X5_addSelf_39 : decode (mC 44) 39 = .ok (.dup, 1) := by decide +kernel
theorem d_X5_addSelf_40 : decode (mC 44) 40 = .ok (.getfield 73, 3) := by decide +kernel
theorem d_X5_addSelf_43 : decode (mC 44) 43 = .ok (.iconst 1, 1) := by decide +kernel
theorem d_X5_addSelf_44 : decode (mC 44) 44 = .ok (.iadd, 1) := by decide +kernel
theorem d_X5_addSelf_45 : decode (mC 44) 45 = .ok (.putfield 73, 3) := by decide +kernel
theorem d_X5_addSelf_48 : decode (mC 44) 48 = .ok (.return_, 1) := by decide +kernel
theorem fi_44_73 : mn_fi 44 5 73 5 11 = true := by decide +kernel
theorem fr_44_45 : mn_fr 44 5 45 5 12 = true := by decide +kernel
theorem fr_44_48 : mn_fr 44 5 48 5 13 = true := by decide +kernel
theorem fr_44_51 : mn_fr 44 5 51 5 14 = true := by decide +kernel
theorem b_X5_addSelf_0 {x1 x2 x3 : Int32} {a0 : Nat} {h h' : mn_H} {r : Option Value} (ha0 : mn_isT a0) : mn_E 44 0 [.ref a0, .int x1, .int x2, .int x3] [] h r h' ↔ if (3 : Int32) ≤ (h a0 11) then mn_E 44 48 [.ref a0, .int x1, .int x2, .int x3] [] h r h' else mn_E 44 8 [.ref a0, .int x1, .int x2, .int x3] [] h r h' :=
  (mX_aload_n d_X5_addSelf_0 rfl).trans <| (mG_i d_X5_addSelf_1 fi_44_73 (mn_shT0 ha0) (mn_ltT0 ha0)).trans <| (mX_iconst d_X5_addSelf_4 ci_3).trans <| mX_icmp_ge d_X5_addSelf_5 rfl
theorem b_X5_addSelf_8 {x1 x2 x3 : Int32} {a0 : Nat} {h h' : mn_H} {r : Option Value} (ha0 : mn_isT a0) (hy1 : vp_in (h a0 11) 3) (hy2 : vp_in ((mn_up h (a0 + 16) ((h a0 11).toNatClampNeg) x1) a0 11) 3) (hy3 : vp_in ((mn_up (mn_up h (a0 + 16) ((h a0 11).toNatClampNeg) x1) (a0 + 17) (((mn_up h (a0 + 16) ((h a0 11).toNatClampNeg) x1) a0 11).toNatClampNeg) x2) a0 11) 3) : mn_E 44 8 [.ref a0, .int x1, .int x2, .int x3] [] h r h' ↔ mn_E 44 48 [.ref a0, .int x1, .int x2, .int x3] [] (mn_up (mn_up (mn_up (mn_up h (a0 + 16) ((h a0 11).toNatClampNeg) x1) (a0 + 17) (((mn_up h (a0 + 16) ((h a0 11).toNatClampNeg) x1) a0 11).toNatClampNeg) x2) (a0 + 18) (((mn_up (mn_up h (a0 + 16) ((h a0 11).toNatClampNeg) x1) (a0 + 17) (((mn_up h (a0 + 16) ((h a0 11).toNatClampNeg) x1) a0 11).toNatClampNeg) x2) a0 11).toNatClampNeg) x3) a0 11 (((mn_up (mn_up (mn_up h (a0 + 16) ((h a0 11).toNatClampNeg) x1) (a0 + 17) (((mn_up h (a0 + 16) ((h a0 11).toNatClampNeg) x1) a0 11).toNatClampNeg) x2) (a0 + 18) (((mn_up (mn_up h (a0 + 16) ((h a0 11).toNatClampNeg) x1) (a0 + 17) (((mn_up h (a0 + 16) ((h a0 11).toNatClampNeg) x1) a0 11).toNatClampNeg) x2) a0 11).toNatClampNeg) x3) a0 11) + 1)) r h' :=
  (mX_aload_n d_X5_addSelf_8 rfl).trans <| (mG_r (b := (a0 + 16)) d_X5_addSelf_9 fr_44_45 (mn_shT0 ha0) (mn_ltT0 ha0) (mn_rfT12 ha0 _)).trans <| (mX_aload_n d_X5_addSelf_12 rfl).trans <| (mG_i d_X5_addSelf_13 fi_44_73 (mn_shT0 ha0) (mn_ltT0 ha0)).trans <| (mX_iload_n d_X5_addSelf_16 rfl).trans <| (mX_iastore d_X5_addSelf_17 (mn_shT16 ha0) (mn_ltT ha0 (by decide)) hy1).trans <| (mX_aload_n d_X5_addSelf_18 rfl).trans <| (mG_r (b := (a0 + 17)) d_X5_addSelf_19 fr_44_48 (mn_shT0 ha0) (mn_ltT0 ha0) (mn_rfT13 ha0 _)).trans <| (mX_aload_n d_X5_addSelf_22 rfl).trans <| (mG_i d_X5_addSelf_23 fi_44_73 (mn_shT0 ha0) (mn_ltT0 ha0)).trans <| (mX_iload_n d_X5_addSelf_26 rfl).trans <| (mX_iastore d_X5_addSelf_27 (mn_shT17 ha0) (mn_ltT ha0 (by decide)) hy2).trans <| (mX_aload_n d_X5_addSelf_28 rfl).trans <| (mG_r (b := (a0 + 18)) d_X5_addSelf_29 fr_44_51 (mn_shT0 ha0) (mn_ltT0 ha0) (mn_rfT14 ha0 _)).trans <| (mX_aload_n d_X5_addSelf_32 rfl).trans <| (mG_i d_X5_addSelf_33 fi_44_73 (mn_shT0 ha0) (mn_ltT0 ha0)).trans <| (mX_iload_n d_X5_addSelf_36 rfl).trans <| (mX_iastore d_X5_addSelf_37 (mn_shT18 ha0) (mn_ltT ha0 (by decide)) hy3).trans <| (mX_aload_n d_X5_addSelf_38 rfl).trans <| (mX_dup d_X5_addSelf_39 rfl).trans <| (mG_i d_X5_addSelf_40 fi_44_73 (mn_shT0 ha0) (mn_ltT0 ha0)).trans <| (mX_iconst d_X5_addSelf_43 ci_1).trans <| (mX_iadd d_X5_addSelf_44).trans <| mP_i d_X5_addSelf_45 fi_44_73 (mn_shT0 ha0) (mn_ltT0 ha0) rfl (Or.inl (by decide))
theorem b_X5_addSelf_48 {x1 x2 x3 : Int32} {a0 : Nat} {h h' : mn_H} {r : Option Value} (ha0 : mn_isT a0) : mn_E 44 48 [.ref a0, .int x1, .int x2, .int x3] [] h r h' ↔ r = none ∧ h' = h :=
  mX_vret d_X5_addSelf_48 rfl
-- X5_isHarmTold
theorem mo_45 : mO 45 = 5 := rfl
theorem d_X5_isHarmTold_0 : decode (mC 45) 0 = .ok (.aload_n 0, 1) := by decide +kernel
theorem d_X5_isHarmTold_1 : decode (mC 45) 1 = .ok (.getfield 76, 3) := by decide +kernel
theorem d_X5_isHarmTold_4 : decode (mC 45) 4 = .ok (.iload_n 1, 1) := by decide +kernel
theorem d_X5_isHarmTold_5 : decode (mC 45) 5 = .ok (.ishr, 1) := by decide +kernel
theorem d_X5_isHarmTold_6 : decode (mC 45) 6 = .ok (.iconst 1, 1) := by decide +kernel
theorem d_X5_isHarmTold_7 : decode (mC 45) 7 = .ok (.iand, 1) := by decide +kernel
theorem d_X5_isHarmTold_8 : decode (mC 45) 8 = .ok (.iconst 1, 1) := by decide +kernel
theorem d_X5_isHarmTold_9 : decode (mC 45) 9 = .ok (.if_icmp .ne 7, 3) := by decide +kernel
theorem d_X5_isHarmTold_12 : decode (mC 45) 12 = .ok (.iconst 1, 1) := by decide +kernel
theorem d_X5_isHarmTold_13 : decode (mC 45) 13 = .ok (.goto 4, 3) := by decide +kernel
theorem d_X5_isHarmTold_16 : decode (mC 45) 16 = .ok (.iconst 0, 1) := by decide +kernel
theorem d_X5_isHarmTold_17 : decode (mC 45) 17 = .ok (.ireturn, 1) := by decide +kernel
theorem fi_45_76 : mn_fi 45 5 76 5 16 = true := by decide +kernel
theorem b_X5_isHarmTold_0 {x1 : Int32} {a0 : Nat} {h h' : mn_H} {r : Option Value} (ha0 : mn_isT a0) : mn_E 45 0 [.ref a0, .int x1] [] h r h' ↔ if ¬ (((h a0 16) >>> (x1 &&& 31)) &&& 1) = 1 then mn_E 45 16 [.ref a0, .int x1] [] h r h' else mn_E 45 12 [.ref a0, .int x1] [] h r h' :=
  (mX_aload_n d_X5_isHarmTold_0 rfl).trans <| (mG_i d_X5_isHarmTold_1 fi_45_76 (mn_shT0 ha0) (mn_ltT0 ha0)).trans <| (mX_iload_n d_X5_isHarmTold_4 rfl).trans <| (mX_ishr d_X5_isHarmTold_5).trans <| (mX_iconst d_X5_isHarmTold_6 ci_1).trans <| (mX_iand d_X5_isHarmTold_7).trans <| (mX_iconst d_X5_isHarmTold_8 ci_1).trans <| mX_icmp_ne d_X5_isHarmTold_9 rfl
theorem b_X5_isHarmTold_12 {x1 : Int32} {a0 : Nat} {h h' : mn_H} {r : Option Value} (ha0 : mn_isT a0) : mn_E 45 12 [.ref a0, .int x1] [] h r h' ↔ mn_E 45 17 [.ref a0, .int x1] [.int 1] h r h' :=
  (mX_iconst d_X5_isHarmTold_12 ci_1).trans <| mX_goto d_X5_isHarmTold_13 rfl
theorem b_X5_isHarmTold_16 {x1 : Int32} {a0 : Nat} {h h' : mn_H} {r : Option Value} (ha0 : mn_isT a0) : mn_E 45 16 [.ref a0, .int x1] [] h r h' ↔ mn_E 45 17 [.ref a0, .int x1] [.int 0] h r h' :=
  mX_iconst d_X5_isHarmTold_16 ci_0
theorem b_X5_isHarmTold_17 {x1 s0 : Int32} {a0 : Nat} {h h' : mn_H} {r : Option Value} (ha0 : mn_isT a0) (hy1 : s0 = 0 ∨ s0 = 1) : mn_E 45 17 [.ref a0, .int x1] [.int s0] h r h' ↔ r = some (.int s0) ∧ h' = h :=
  mX_zret d_X5_isHarmTold_17 rfl hy1
-- X5_tellHarm
theorem mo_46 : mO 46 = 5 := rfl
theorem d_X5_tellHarm_0 : decode (mC 46) 0 = .ok (.aload_n 0, 1) := by decide +kernel
theorem d_X5_tellHarm_1 : decode (mC 46) 1 = .ok (.getfield 54, 3) := by decide +kernel
theorem d_X5_tellHarm_4 : decode (mC 46) 4 = .ok (.iload_n 1, 1) := by decide +kernel
theorem d_X5_tellHarm_5 : decode (mC 46) 5 = .ok (.iload_n 2, 1) := by decide +kernel
theorem d_X5_tellHarm_6 : decode (mC 46) 6 = .ok (.iastore, 1) := by decide +kernel
theorem d_X5_tellHarm_7 : decode (mC 46) 7 = .ok (.aload_n 0, 1) := by decide +kernel
theorem d_X5_tellHarm_8 : decode (mC 46) 8 = .ok (.dup, 1) := by decide +kernel
theorem d_X5_tellHarm_9 : decode (mC 46) 9 = .ok (.getfield 76, 3) := by decide +kernel
theorem d_X5_tellHarm_12 : decode (mC 46) 12 = .ok (.iconst 1, 1) := by decide +kernel
theorem d_X5_tellHarm_13 : decode (mC 46) 13 = .ok (.iload_n 1, 1) := by decide +kernel
theorem d_X5_tellHarm_14 : decode (mC 46) 14 = .ok (.ishl, 1) := by decide +kernel
theorem d_X5_tellHarm_15 : decode (mC 46) 15 = .ok (.ior, 1) := by decide +kernel
theorem d_X5_tellHarm_16 : decode (mC 46) 16 = .ok (.putfield 76, 3) := by decide +kernel
theorem d_X5_tellHarm_19 : decode (mC 46) 19 = .ok (.return_, 1) := by decide +kernel
theorem fr_46_54 : mn_fr 46 5 54 5 15 = true := by decide +kernel
theorem fi_46_76 : mn_fi 46 5 76 5 16 = true := by decide +kernel
theorem b_X5_tellHarm_0 {x1 x2 : Int32} {a0 : Nat} {h h' : mn_H} {r : Option Value} (ha0 : mn_isT a0) (hy1 : vp_in x1 6) : mn_E 46 0 [.ref a0, .int x1, .int x2] [] h r h' ↔ r = none ∧ h' = mn_up (mn_up h (a0 + 19) (x1.toNatClampNeg) x2) a0 16 (((mn_up h (a0 + 19) (x1.toNatClampNeg) x2) a0 16) ||| (1 <<< (x1 &&& 31))) :=
  (mX_aload_n d_X5_tellHarm_0 rfl).trans <| (mG_r (b := (a0 + 19)) d_X5_tellHarm_1 fr_46_54 (mn_shT0 ha0) (mn_ltT0 ha0) (mn_rfT15 ha0 _)).trans <| (mX_iload_n d_X5_tellHarm_4 rfl).trans <| (mX_iload_n d_X5_tellHarm_5 rfl).trans <| (mX_iastore d_X5_tellHarm_6 (mn_shT19 ha0) (mn_ltT ha0 (by decide)) hy1).trans <| (mX_aload_n d_X5_tellHarm_7 rfl).trans <| (mX_dup d_X5_tellHarm_8 rfl).trans <| (mG_i d_X5_tellHarm_9 fi_46_76 (mn_shT0 ha0) (mn_ltT0 ha0)).trans <| (mX_iconst d_X5_tellHarm_12 ci_1).trans <| (mX_iload_n d_X5_tellHarm_13 rfl).trans <| (mX_ishl d_X5_tellHarm_14).trans <| (mX_ior d_X5_tellHarm_15).trans <| (mP_i d_X5_tellHarm_16 fi_46_76 (mn_shT0 ha0) (mn_ltT0 ha0) rfl (Or.inl (by decide))).trans <| mX_vret d_X5_tellHarm_19 rfl
-- X5_allGroups
theorem mo_47 : mO 47 = 5 := rfl
theorem d_X5_allGroups_0 : decode (mC 47) 0 = .ok (.iconst 1, 1) := by decide +kernel
theorem d_X5_allGroups_1 : decode (mC 47) 1 = .ok (.aload_n 0, 1) := by decide +kernel
theorem d_X5_allGroups_2 : decode (mC 47) 2 = .ok (.getfield 67, 3) := by decide +kernel
theorem d_X5_allGroups_5 : decode (mC 47) 5 = .ok (.ishl, 1) := by decide +kernel
theorem d_X5_allGroups_6 : decode (mC 47) 6 = .ok (.iconst 1, 1) := by decide +kernel
theorem d_X5_allGroups_7 : decode (mC 47) 7 = .ok (.isub, 1) := by decide +kernel
theorem d_X5_allGroups_8 : decode (mC 47) 8 = .ok (.ireturn, 1) := by decide +kernel
theorem fi_47_67 : mn_fi 47 5 67 5 4 = true := by decide +kernel
theorem b_X5_allGroups_0 {a0 : Nat} {h h' : mn_H} {r : Option Value} (ha0 : mn_isT a0) : mn_E 47 0 [.ref a0] [] h r h' ↔ r = some (.int ((1 <<< ((h a0 4) &&& 31)) - 1)) ∧ h' = h :=
  (mX_iconst d_X5_allGroups_0 ci_1).trans <| (mX_aload_n d_X5_allGroups_1 rfl).trans <| (mG_i d_X5_allGroups_2 fi_47_67 (mn_shT0 ha0) (mn_ltT0 ha0)).trans <| (mX_ishl d_X5_allGroups_5).trans <| (mX_iconst d_X5_allGroups_6 ci_1).trans <| (mX_isub d_X5_allGroups_7).trans <| mX_iret d_X5_allGroups_8 rfl
-- X5_countRings
theorem mo_48 : mO 48 = 5 := rfl
theorem d_X5_countRings_0 : decode (mC 48) 0 = .ok (.iconst 1, 1) := by decide +kernel
theorem d_X5_countRings_1 : decode (mC 48) 1 = .ok (.aload_n 0, 1) := by decide +kernel
theorem d_X5_countRings_2 : decode (mC 48) 2 = .ok (.getfield 63, 3) := by decide +kernel
theorem d_X5_countRings_5 : decode (mC 48) 5 = .ok (.ishl, 1) := by decide +kernel
theorem d_X5_countRings_6 : decode (mC 48) 6 = .ok (.ireturn, 1) := by decide +kernel
theorem fi_48_63 : mn_fi 48 5 63 5 0 = true := by decide +kernel
theorem b_X5_countRings_0 {a0 : Nat} {h h' : mn_H} {r : Option Value} (ha0 : mn_isT a0) : mn_E 48 0 [.ref a0] [] h r h' ↔ r = some (.int (1 <<< ((h a0 0) &&& 31))) ∧ h' = h :=
  (mX_iconst d_X5_countRings_0 ci_1).trans <| (mX_aload_n d_X5_countRings_1 rfl).trans <| (mG_i d_X5_countRings_2 fi_48_63 (mn_shT0 ha0) (mn_ltT0 ha0)).trans <| (mX_ishl d_X5_countRings_5).trans <| mX_iret d_X5_countRings_6 rfl
-- X5_hearersOf
theorem mo_49 : mO 49 = 5 := rfl
theorem d_X5_hearersOf_0 : decode (mC 49) 0 = .ok (.iconst 0, 1) := by decide +kernel
theorem d_X5_hearersOf_1 : decode (mC 49) 1 = .ok (.istore_n 2, 1) := by decide +kernel
theorem d_X5_hearersOf_2 : decode (mC 49) 2 = .ok (.iconst 0, 1) := by decide +kernel
theorem d_X5_hearersOf_3 : decode (mC 49) 3 = .ok (.istore_n 3, 1) := by decide +kernel
theorem d_X5_hearersOf_4 : decode (mC 49) 4 = .ok (.iload_n 3, 1) := by decide +kernel
theorem d_X5_hearersOf_5 : decode (mC 49) 5 = .ok (.aload_n 0, 1) := by decide +kernel
theorem d_X5_hearersOf_6 : decode (mC 49) 6 = .ok (.getfield 67, 3) := by decide +kernel
theorem d_X5_hearersOf_9 : decode (mC 49) 9 = .ok (.if_icmp .ge 28, 3) := by decide +kernel
theorem d_X5_hearersOf_12 : decode (mC 49) 12 = .ok (.aload_n 0, 1) := by decide +kernel
theorem d_X5_hearersOf_13 : decode (mC 49) 13 = .ok (.getfield 24, 3) := by decide +kernel
theorem d_X5_hearersOf_16 : decode (mC 49) 16 = .ok (.iload_n 3, 1) := by decide +kernel
theorem d_X5_hearersOf_17 : decode (mC 49) 17 = .ok (.iaload, 1) := by decide +kernel
theorem d_X5_hearersOf_18 : decode (mC 49) 18 = .ok (.iload_n 1, 1) := by decide +kernel
theorem d_X5_hearersOf_19 : decode (mC 49) 19 = .ok (.if_icmp .ne 12, 3) := by decide +kernel
theorem d_X5_hearersOf_22 : decode (mC 49) 22 = .ok (.iload_n 2, 1) := by decide +kernel
theorem d_X5_hearersOf_23 : decode (mC 49) 23 = .ok (.aload_n 0, 1) := by decide +kernel
theorem d_X5_hearersOf_24 : decode (mC 49) 24 = .ok (.getfield 21, 3) := by decide +kernel
theorem d_X5_hearersOf_27 : decode (mC 49) 27 = .ok (.iload_n 3, 1) := by decide +kernel
theorem d_X5_hearersOf_28 : decode (mC 49) 28 = .ok (.iaload, 1) := by decide +kernel
theorem d_X5_hearersOf_29 : decode (mC 49) 29 = .ok (.iadd, 1) := by decide +kernel
theorem d_X5_hearersOf_30 : decode (mC 49) 30 = .ok (.istore_n 2, 1) := by decide +kernel
theorem d_X5_hearersOf_31 : decode (mC 49) 31 = .ok (.iinc 3 1, 3) := by decide +kernel
theorem d_X5_hearersOf_34 : decode (mC 49) 34 = .ok (.goto (-30), 3) := by decide +kernel
theorem d_X5_hearersOf_37 : decode (mC 49) 37 = .ok (.iload_n 2, 1) := by decide +kernel
theorem d_X5_hearersOf_38 : decode (mC 49) 38 = .ok (.ireturn, 1) := by decide +kernel
theorem fi_49_67 : mn_fi 49 5 67 5 4 = true := by decide +kernel
theorem fr_49_24 : mn_fr 49 5 24 5 6 = true := by decide +kernel
theorem fr_49_21 : mn_fr 49 5 21 5 5 = true := by decide +kernel
theorem b_X5_hearersOf_0 {x1 : Int32} {a0 : Nat} {h h' : mn_H} {r : Option Value} (ha0 : mn_isT a0) : mn_E 49 0 [.ref a0, .int x1, .null, .null] [] h r h' ↔ mn_E 49 4 [.ref a0, .int x1, .int 0, .int 0] [] h r h' :=
  (mX_iconst d_X5_hearersOf_0 ci_0).trans <| (mX_istore_n (ls' := [.ref a0, .int x1, .int 0, .null]) d_X5_hearersOf_1 rfl rfl).trans <| (mX_iconst d_X5_hearersOf_2 ci_0).trans <| mX_istore_n (ls' := [.ref a0, .int x1, .int 0, .int 0]) d_X5_hearersOf_3 rfl rfl
theorem b_X5_hearersOf_4 {x1 x2 x3 : Int32} {a0 : Nat} {h h' : mn_H} {r : Option Value} (ha0 : mn_isT a0) : mn_E 49 4 [.ref a0, .int x1, .int x2, .int x3] [] h r h' ↔ if (h a0 4) ≤ x3 then mn_E 49 37 [.ref a0, .int x1, .int x2, .int x3] [] h r h' else mn_E 49 12 [.ref a0, .int x1, .int x2, .int x3] [] h r h' :=
  (mX_iload_n d_X5_hearersOf_4 rfl).trans <| (mX_aload_n d_X5_hearersOf_5 rfl).trans <| (mG_i d_X5_hearersOf_6 fi_49_67 (mn_shT0 ha0) (mn_ltT0 ha0)).trans <| mX_icmp_ge d_X5_hearersOf_9 rfl
theorem b_X5_hearersOf_12 {x1 x2 x3 : Int32} {a0 : Nat} {h h' : mn_H} {r : Option Value} (ha0 : mn_isT a0) (hy1 : vp_in x3 6) : mn_E 49 12 [.ref a0, .int x1, .int x2, .int x3] [] h r h' ↔ if ¬ (h (a0 + 5) x3.toNatClampNeg) = x1 then mn_E 49 31 [.ref a0, .int x1, .int x2, .int x3] [] h r h' else mn_E 49 22 [.ref a0, .int x1, .int x2, .int x3] [] h r h' :=
  (mX_aload_n d_X5_hearersOf_12 rfl).trans <| (mG_r (b := (a0 + 5)) d_X5_hearersOf_13 fr_49_24 (mn_shT0 ha0) (mn_ltT0 ha0) (mn_rfT6 ha0 _)).trans <| (mX_iload_n d_X5_hearersOf_16 rfl).trans <| (mX_iaload d_X5_hearersOf_17 (mn_shT5 ha0) (mn_ltT ha0 (by decide)) hy1).trans <| (mX_iload_n d_X5_hearersOf_18 rfl).trans <| mX_icmp_ne d_X5_hearersOf_19 rfl
theorem b_X5_hearersOf_22 {x1 x2 x3 : Int32} {a0 : Nat} {h h' : mn_H} {r : Option Value} (ha0 : mn_isT a0) (hy1 : vp_in x3 6) : mn_E 49 22 [.ref a0, .int x1, .int x2, .int x3] [] h r h' ↔ mn_E 49 31 [.ref a0, .int x1, .int (x2 + (h (a0 + 4) x3.toNatClampNeg)), .int x3] [] h r h' :=
  (mX_iload_n d_X5_hearersOf_22 rfl).trans <| (mX_aload_n d_X5_hearersOf_23 rfl).trans <| (mG_r (b := (a0 + 4)) d_X5_hearersOf_24 fr_49_21 (mn_shT0 ha0) (mn_ltT0 ha0) (mn_rfT5 ha0 _)).trans <| (mX_iload_n d_X5_hearersOf_27 rfl).trans <| (mX_iaload d_X5_hearersOf_28 (mn_shT4 ha0) (mn_ltT ha0 (by decide)) hy1).trans <| (mX_iadd d_X5_hearersOf_29).trans <| mX_istore_n (ls' := [.ref a0, .int x1, .int (x2 + (h (a0 + 4) x3.toNatClampNeg)), .int x3]) d_X5_hearersOf_30 rfl rfl
theorem b_X5_hearersOf_31 {x1 x2 x3 : Int32} {a0 : Nat} {h h' : mn_H} {r : Option Value} (ha0 : mn_isT a0) : mn_E 49 31 [.ref a0, .int x1, .int x2, .int x3] [] h r h' ↔ mn_E 49 4 [.ref a0, .int x1, .int x2, .int (x3 + 1)] [] h r h' :=
  (mX_iinc (ls' := [.ref a0, .int x1, .int x2, .int (x3 + 1)]) d_X5_hearersOf_31 rfl ci_1 rfl rfl).trans <| mX_goto d_X5_hearersOf_34 rfl
theorem b_X5_hearersOf_37 {x1 x2 x3 : Int32} {a0 : Nat} {h h' : mn_H} {r : Option Value} (ha0 : mn_isT a0) : mn_E 49 37 [.ref a0, .int x1, .int x2, .int x3] [] h r h' ↔ r = some (.int x2) ∧ h' = h :=
  (mX_iload_n d_X5_hearersOf_37 rfl).trans <| mX_iret d_X5_hearersOf_38 rfl
-- X5_ringFor
theorem mo_50 : mO 50 = 5 := rfl
theorem d_X5_ringFor_0 : decode (mC 50) 0 = .ok (.iconst 0, 1) := by decide +kernel
theorem d_X5_ringFor_1 : decode (mC 50) 1 = .ok (.istore_n 3, 1) := by decide +kernel
theorem d_X5_ringFor_2 : decode (mC 50) 2 = .ok (.iconst 0, 1) := by decide +kernel
theorem d_X5_ringFor_3 : decode (mC 50) 3 = .ok (.istore 4, 2) := by decide +kernel
theorem d_X5_ringFor_5 : decode (mC 50) 5 = .ok (.iload 4, 2) := by decide +kernel
theorem d_X5_ringFor_7 : decode (mC 50) 7 = .ok (.aload_n 0, 1) := by decide +kernel
theorem d_X5_ringFor_8 : decode (mC 50) 8 = .ok (.getfield 63, 3) := by decide +kernel
theorem d_X5_ringFor_11 : decode (mC 50) 11 = .ok (.if_icmp .ge 45, 3) := by decide +kernel
theorem d_X5_ringFor_14 : decode (mC 50) 14 = .ok (.aload_n 0, 1) := by decide +kernel
theorem d_X5_ringFor_15 : decode (mC 50) 15 = .ok (.getfield 9, 3) := by decide +kernel
theorem d_X5_ringFor_18 : decode (mC 50) 18 = .ok (.iload 4, 2) := by decide +kernel
theorem d_X5_ringFor_20 : decode (mC 50) 20 = .ok (.iaload, 1) := by decide +kernel
theorem d_X5_ringFor_21 : decode (mC 50) 21 = .ok (.aload_n 0, 1) := by decide +kernel
theorem d_X5_ringFor_22 : decode (mC 50) 22 = .ok (.getfield 15, 3) := by decide +kernel
theorem d_X5_ringFor_25 : decode (mC 50) 25 = .ok (.iload 4, 2) := by decide +kernel
theorem d_X5_ringFor_27 : decode (mC 50) 27 = .ok (.iaload, 1) := by decide +kernel
theorem d_X5_ringFor_28 : decode (mC 50) 28 = .ok (.aload_n 0, 1) := by decide +kernel
theorem d_X5_ringFor_29 : decode (mC 50) 29 = .ok (.getfield 18, 3) := by decide +kernel
theorem d_X5_ringFor_32 : decode (mC 50) 32 = .ok (.iload 4, 2) := by decide +kernel
theorem d_X5_ringFor_34 : decode (mC 50) 34 = .ok (.iaload, 1) := by decide +kernel
theorem d_X5_ringFor_35 : decode (mC 50) 35 = .ok (.iload_n 1, 1) := by decide +kernel
theorem d_X5_ringFor_36 : decode (mC 50) 36 = .ok (.iload_n 2, 1) := by decide +kernel
theorem d_X5_ringFor_37 : decode (mC 50) 37 = .ok (.invokestatic 79, 3) := by decide +kernel
theorem d_X5_ringFor_40 : decode (mC 50) 40 = .ok (.ifCond .eq 10, 3) := by decide +kernel
theorem d_X5_ringFor_43 : decode (mC 50) 43 = .ok (.iload_n 3, 1) := by decide +kernel
theorem d_X5_ringFor_44 : decode (mC 50) 44 = .ok (.iconst 1, 1) := by decide +kernel
theorem d_X5_ringFor_45 : decode (mC 50) 45 = .ok (.iload 4, 2) := by decide +kernel
theorem d_X5_ringFor_47 : decode (mC 50) 47 = .ok (.ishl, 1) := by decide +kernel
theorem d_X5_ringFor_48 : decode (mC 50) 48 = .ok (.ior, 1) := by decide +kernel
theorem d_X5_ringFor_49 : decode (mC 50) 49 = .ok (.istore_n 3, 1) := by decide +kernel
theorem d_X5_ringFor_50 : decode (mC 50) 50 = .ok (.iinc 4 1, 3) := by decide +kernel
theorem d_X5_ringFor_53 : decode (mC 50) 53 = .ok (.goto (-48), 3) := by decide +kernel
theorem d_X5_ringFor_56 : decode (mC 50) 56 = .ok (.iload_n 3, 1) := by decide +kernel
theorem d_X5_ringFor_57 : decode (mC 50) 57 = .ok (.ireturn, 1) := by decide +kernel
theorem fi_50_63 : mn_fi 50 5 63 5 0 = true := by decide +kernel
theorem fr_50_9 : mn_fr 50 5 9 5 1 = true := by decide +kernel
theorem fr_50_15 : mn_fr 50 5 15 5 2 = true := by decide +kernel
theorem fr_50_18 : mn_fr 50 5 18 5 3 = true := by decide +kernel
theorem cs_50_79 : mn_cs 50 5 79 113 = true := by decide +kernel
theorem b_X5_ringFor_0 {x1 x2 : Int32} {a0 : Nat} {h h' : mn_H} {r : Option Value} (ha0 : mn_isT a0) : mn_E 50 0 [.ref a0, .int x1, .int x2, .null, .null] [] h r h' ↔ mn_E 50 5 [.ref a0, .int x1, .int x2, .int 0, .int 0] [] h r h' :=
  (mX_iconst d_X5_ringFor_0 ci_0).trans <| (mX_istore_n (ls' := [.ref a0, .int x1, .int x2, .int 0, .null]) d_X5_ringFor_1 rfl rfl).trans <| (mX_iconst d_X5_ringFor_2 ci_0).trans <| mX_istore (ls' := [.ref a0, .int x1, .int x2, .int 0, .int 0]) d_X5_ringFor_3 rfl rfl
theorem b_X5_ringFor_5 {x1 x2 x3 x4 : Int32} {a0 : Nat} {h h' : mn_H} {r : Option Value} (ha0 : mn_isT a0) : mn_E 50 5 [.ref a0, .int x1, .int x2, .int x3, .int x4] [] h r h' ↔ if (h a0 0) ≤ x4 then mn_E 50 56 [.ref a0, .int x1, .int x2, .int x3, .int x4] [] h r h' else mn_E 50 14 [.ref a0, .int x1, .int x2, .int x3, .int x4] [] h r h' :=
  (mX_iload d_X5_ringFor_5 rfl).trans <| (mX_aload_n d_X5_ringFor_7 rfl).trans <| (mG_i d_X5_ringFor_8 fi_50_63 (mn_shT0 ha0) (mn_ltT0 ha0)).trans <| mX_icmp_ge d_X5_ringFor_11 rfl
theorem b_X5_ringFor_14 {x1 x2 x3 x4 : Int32} {a0 : Nat} {h h' : mn_H} {r : Option Value} (ha0 : mn_isT a0) (hy1 : vp_in x4 5) : mn_E 50 14 [.ref a0, .int x1, .int x2, .int x3, .int x4] [] h r h' ↔ ∃ x h1, mn_X 113 [.int (h (a0 + 1) x4.toNatClampNeg), .int (h (a0 + 2) x4.toNatClampNeg), .int (h (a0 + 3) x4.toNatClampNeg), .int x1, .int x2] h (some (.int x)) h1 ∧ mn_E 50 40 [.ref a0, .int x1, .int x2, .int x3, .int x4] [.int x] h1 r h' :=
  (mX_aload_n d_X5_ringFor_14 rfl).trans <| (mG_r (b := (a0 + 1)) d_X5_ringFor_15 fr_50_9 (mn_shT0 ha0) (mn_ltT0 ha0) (mn_rfT1 ha0 _)).trans <| (mX_iload d_X5_ringFor_18 rfl).trans <| (mX_iaload d_X5_ringFor_20 (mn_shT1 ha0) (mn_ltT ha0 (by decide)) hy1).trans <| (mX_aload_n d_X5_ringFor_21 rfl).trans <| (mG_r (b := (a0 + 2)) d_X5_ringFor_22 fr_50_15 (mn_shT0 ha0) (mn_ltT0 ha0) (mn_rfT2 ha0 _)).trans <| (mX_iload d_X5_ringFor_25 rfl).trans <| (mX_iaload d_X5_ringFor_27 (mn_shT2 ha0) (mn_ltT ha0 (by decide)) hy1).trans <| (mX_aload_n d_X5_ringFor_28 rfl).trans <| (mG_r (b := (a0 + 3)) d_X5_ringFor_29 fr_50_18 (mn_shT0 ha0) (mn_ltT0 ha0) (mn_rfT3 ha0 _)).trans <| (mX_iload d_X5_ringFor_32 rfl).trans <| (mX_iaload d_X5_ringFor_34 (mn_shT3 ha0) (mn_ltT ha0 (by decide)) hy1).trans <| (mX_iload_n d_X5_ringFor_35 rfl).trans <| (mX_iload_n d_X5_ringFor_36 rfl).trans <| mS_i (vs := [.int (h (a0 + 1) x4.toNatClampNeg), .int (h (a0 + 2) x4.toNatClampNeg), .int (h (a0 + 3) x4.toNatClampNeg), .int x1, .int x2]) (st' := []) d_X5_ringFor_37 cs_50_79 (Or.inr (Or.inl rfl)) (Nat.le_of_ble_eq_true rfl) rfl rfl rfl
theorem b_X5_ringFor_40 {x1 x2 x3 x4 s0 : Int32} {a0 : Nat} {h h' : mn_H} {r : Option Value} (ha0 : mn_isT a0) : mn_E 50 40 [.ref a0, .int x1, .int x2, .int x3, .int x4] [.int s0] h r h' ↔ if s0 = 0 then mn_E 50 50 [.ref a0, .int x1, .int x2, .int x3, .int x4] [] h r h' else mn_E 50 43 [.ref a0, .int x1, .int x2, .int x3, .int x4] [] h r h' :=
  mX_if_eq d_X5_ringFor_40 rfl
theorem b_X5_ringFor_43 {x1 x2 x3 x4 : Int32} {a0 : Nat} {h h' : mn_H} {r : Option Value} (ha0 : mn_isT a0) : mn_E 50 43 [.ref a0, .int x1, .int x2, .int x3, .int x4] [] h r h' ↔ mn_E 50 50 [.ref a0, .int x1, .int x2, .int (x3 ||| (1 <<< (x4 &&& 31))), .int x4] [] h r h' :=
  (mX_iload_n d_X5_ringFor_43 rfl).trans <| (mX_iconst d_X5_ringFor_44 ci_1).trans <| (mX_iload d_X5_ringFor_45 rfl).trans <| (mX_ishl d_X5_ringFor_47).trans <| (mX_ior d_X5_ringFor_48).trans <| mX_istore_n (ls' := [.ref a0, .int x1, .int x2, .int (x3 ||| (1 <<< (x4 &&& 31))), .int x4]) d_X5_ringFor_49 rfl rfl
theorem b_X5_ringFor_50 {x1 x2 x3 x4 : Int32} {a0 : Nat} {h h' : mn_H} {r : Option Value} (ha0 : mn_isT a0) : mn_E 50 50 [.ref a0, .int x1, .int x2, .int x3, .int x4] [] h r h' ↔ mn_E 50 5 [.ref a0, .int x1, .int x2, .int x3, .int (x4 + 1)] [] h r h' :=
  (mX_iinc (ls' := [.ref a0, .int x1, .int x2, .int x3, .int (x4 + 1)]) d_X5_ringFor_50 rfl ci_1 rfl rfl).trans <| mX_goto d_X5_ringFor_53 rfl
theorem b_X5_ringFor_56 {x1 x2 x3 x4 : Int32} {a0 : Nat} {h h' : mn_H} {r : Option Value} (ha0 : mn_isT a0) : mn_E 50 56 [.ref a0, .int x1, .int x2, .int x3, .int x4] [] h r h' ↔ r = some (.int x3) ∧ h' = h :=
  (mX_iload_n d_X5_ringFor_56 rfl).trans <| mX_iret d_X5_ringFor_57 rfl
-- X5_deedOf
theorem mo_51 : mO 51 = 5 := rfl
theorem d_X5_deedOf_0 : decode (mC 51) 0 = .ok (.iload_n 2, 1) := by decide +kernel
theorem d_X5_deedOf_1 : decode (mC 51) 1 = .ok (.aload_n 0, 1) := by decide +kernel
theorem d_X5_deedOf_2 : decode (mC 51) 2 = .ok (.getfield 24, 3) := by decide +kernel
theorem d_X5_deedOf_5 : decode (mC 51) 5 = .ok (.iload_n 1, 1) := by decide +kernel
theorem d_X5_deedOf_6 : decode (mC 51) 6 = .ok (.iaload, 1) := by decide +kernel
theorem d_X5_deedOf_7 : decode (mC 51) 7 = .ok (.ishr, 1) := by decide +kernel
theorem d_X5_deedOf_8 : decode (mC 51) 8 = .ok (.iconst 1, 1) := by decide +kernel
theorem d_X5_deedOf_9 : decode (mC 51) 9 = .ok (.iand, 1) := by decide +kernel
theorem d_X5_deedOf_10 : decode (mC 51) 10 = .ok (.iconst 1, 1) := by decide +kernel
theorem d_X5_deedOf_11 : decode (mC 51) 11 = .ok (.if_icmp .ne 15, 3) := by decide +kernel
theorem d_X5_deedOf_14 : decode (mC 51) 14 = .ok (.iload_n 3, 1) := by decide +kernel
theorem d_X5_deedOf_15 : decode (mC 51) 15 = .ok (.iload_n 1, 1) := by decide +kernel
theorem d_X5_deedOf_16 : decode (mC 51) 16 = .ok (.ishr, 1) := by decide +kernel
theorem d_X5_deedOf_17 : decode (mC 51) 17 = .ok (.iconst 1, 1) := by decide +kernel
theorem d_X5_deedOf_18 : decode (mC 51) 18 = .ok (.iand, 1) := by decide +kernel
theorem d_X5_deedOf_19 : decode (mC 51) 19 = .ok (.ifCond .ne 7, 3) := by decide +kernel
theorem d_X5_deedOf_22 : decode (mC 51) 22 = .ok (.iconst 1, 1) := by decide +kernel
theorem d_X5_deedOf_23 : decode (mC 51) 23 = .ok (.goto 4, 3) := by decide +kernel
theorem d_X5_deedOf_26 : decode (mC 51) 26 = .ok (.iconst 0, 1) := by decide +kernel
theorem d_X5_deedOf_27 : decode (mC 51) 27 = .ok (.istore 5, 2) := by decide +kernel
theorem d_X5_deedOf_29 : decode (mC 51) 29 = .ok (.iload 5, 2) := by decide +kernel
theorem d_X5_deedOf_31 : decode (mC 51) 31 = .ok (.ifCond .ne 10, 3) := by decide +kernel
theorem d_X5_deedOf_34 : decode (mC 51) 34 = .ok (.aload_n 0, 1) := by decide +kernel
theorem d_X5_deedOf_35 : decode (mC 51) 35 = .ok (.getfield 30, 3) := by decide +kernel
theorem d_X5_deedOf_38 : decode (mC 51) 38 = .ok (.iload_n 1, 1) := by decide +kernel
theorem d_X5_deedOf_39 : decode (mC 51) 39 = .ok (.iaload, 1) := by decide +kernel
theorem d_X5_deedOf_40 : decode (mC 51) 40 = .ok (.ireturn, 1) := by decide +kernel
theorem d_X5_deedOf_41 : decode (mC 51) 41 = .ok (.iload 4, 2) := by decide +kernel
theorem d_X5_deedOf_43 : decode (mC 51) 43 = .ok (.iload_n 1, 1) := by decide +kernel
theorem d_X5_deedOf_44 : decode (mC 51) 44 = .ok (.ishr, 1) := by decide +kernel
theorem d_X5_deedOf_45 : decode (mC 51) 45 = .ok (.iconst 1, 1) := by decide +kernel
theorem d_X5_deedOf_46 : decode (mC 51) 46 = .ok (.iand, 1) := by decide +kernel
theorem d_X5_deedOf_47 : decode (mC 51) 47 = .ok (.iconst 1, 1) := by decide +kernel
theorem d_X5_deedOf_48 : decode (mC 51) 48 = .ok (.if_icmp .ne 12, 3) := by decide +kernel
theorem d_X5_deedOf_51 : decode (mC 51) 51 = .ok (.aload_n 0, 1) := by decide +kernel
theorem d_X5_deedOf_52 : decode (mC 51) 52 = .ok (.getfield 27, 3) := by decide +kernel
theorem d_X5_deedOf_55 : decode (mC 51) 55 = .ok (.iload_n 1, 1) := by decide +kernel
theorem d_X5_deedOf_56 : decode (mC 51) 56 = .ok (.iaload, 1) := by decide +kernel
theorem d_X5_deedOf_57 : decode (mC 51) 57 = .ok (.goto 5, 3) := by decide +kernel
theorem d_X5_deedOf_60 : decode (mC 51) 60 = .ok (.bipush 6, 2) := by decide +kernel
theorem d_X5_deedOf_62 : decode (mC 51) 62 = .ok (.ireturn, 1) := by decide +kernel
theorem fr_51_24 : mn_fr 51 5 24 5 6 = true := by decide +kernel
theorem fr_51_30 : mn_fr 51 5 30 5 8 = true := by decide +kernel
theorem fr_51_27 : mn_fr 51 5 27 5 7 = true := by decide +kernel
theorem b_X5_deedOf_0 {x1 x2 x3 x4 : Int32} {a0 : Nat} {h h' : mn_H} {r : Option Value} (ha0 : mn_isT a0) (hy1 : vp_in x1 6) : mn_E 51 0 [.ref a0, .int x1, .int x2, .int x3, .int x4, .null] [] h r h' ↔ if ¬ ((x2 >>> ((h (a0 + 5) x1.toNatClampNeg) &&& 31)) &&& 1) = 1 then mn_E 51 26 [.ref a0, .int x1, .int x2, .int x3, .int x4, .null] [] h r h' else mn_E 51 14 [.ref a0, .int x1, .int x2, .int x3, .int x4, .null] [] h r h' :=
  (mX_iload_n d_X5_deedOf_0 rfl).trans <| (mX_aload_n d_X5_deedOf_1 rfl).trans <| (mG_r (b := (a0 + 5)) d_X5_deedOf_2 fr_51_24 (mn_shT0 ha0) (mn_ltT0 ha0) (mn_rfT6 ha0 _)).trans <| (mX_iload_n d_X5_deedOf_5 rfl).trans <| (mX_iaload d_X5_deedOf_6 (mn_shT5 ha0) (mn_ltT ha0 (by decide)) hy1).trans <| (mX_ishr d_X5_deedOf_7).trans <| (mX_iconst d_X5_deedOf_8 ci_1).trans <| (mX_iand d_X5_deedOf_9).trans <| (mX_iconst d_X5_deedOf_10 ci_1).trans <| mX_icmp_ne d_X5_deedOf_11 rfl
theorem b_X5_deedOf_14 {x1 x2 x3 x4 : Int32} {a0 : Nat} {h h' : mn_H} {r : Option Value} (ha0 : mn_isT a0) : mn_E 51 14 [.ref a0, .int x1, .int x2, .int x3, .int x4, .null] [] h r h' ↔ if ¬ ((x3 >>> (x1 &&& 31)) &&& 1) = 0 then mn_E 51 26 [.ref a0, .int x1, .int x2, .int x3, .int x4, .null] [] h r h' else mn_E 51 22 [.ref a0, .int x1, .int x2, .int x3, .int x4, .null] [] h r h' :=
  (mX_iload_n d_X5_deedOf_14 rfl).trans <| (mX_iload_n d_X5_deedOf_15 rfl).trans <| (mX_ishr d_X5_deedOf_16).trans <| (mX_iconst d_X5_deedOf_17 ci_1).trans <| (mX_iand d_X5_deedOf_18).trans <| mX_if_ne d_X5_deedOf_19 rfl
theorem b_X5_deedOf_22 {x1 x2 x3 x4 : Int32} {a0 : Nat} {h h' : mn_H} {r : Option Value} (ha0 : mn_isT a0) : mn_E 51 22 [.ref a0, .int x1, .int x2, .int x3, .int x4, .null] [] h r h' ↔ mn_E 51 27 [.ref a0, .int x1, .int x2, .int x3, .int x4, .null] [.int 1] h r h' :=
  (mX_iconst d_X5_deedOf_22 ci_1).trans <| mX_goto d_X5_deedOf_23 rfl
theorem b_X5_deedOf_26 {x1 x2 x3 x4 : Int32} {a0 : Nat} {h h' : mn_H} {r : Option Value} (ha0 : mn_isT a0) : mn_E 51 26 [.ref a0, .int x1, .int x2, .int x3, .int x4, .null] [] h r h' ↔ mn_E 51 27 [.ref a0, .int x1, .int x2, .int x3, .int x4, .null] [.int 0] h r h' :=
  mX_iconst d_X5_deedOf_26 ci_0
theorem b_X5_deedOf_27 {x1 x2 x3 x4 s0 : Int32} {a0 : Nat} {h h' : mn_H} {r : Option Value} (ha0 : mn_isT a0) : mn_E 51 27 [.ref a0, .int x1, .int x2, .int x3, .int x4, .null] [.int s0] h r h' ↔ if ¬ s0 = 0 then mn_E 51 41 [.ref a0, .int x1, .int x2, .int x3, .int x4, .int s0] [] h r h' else mn_E 51 34 [.ref a0, .int x1, .int x2, .int x3, .int x4, .int s0] [] h r h' :=
  (mX_istore (ls' := [.ref a0, .int x1, .int x2, .int x3, .int x4, .int s0]) d_X5_deedOf_27 rfl rfl).trans <| (mX_iload d_X5_deedOf_29 rfl).trans <| mX_if_ne d_X5_deedOf_31 rfl
theorem b_X5_deedOf_34 {x1 x2 x3 x4 x5 : Int32} {a0 : Nat} {h h' : mn_H} {r : Option Value} (ha0 : mn_isT a0) (hy1 : vp_in x1 6) : mn_E 51 34 [.ref a0, .int x1, .int x2, .int x3, .int x4, .int x5] [] h r h' ↔ r = some (.int (h (a0 + 7) x1.toNatClampNeg)) ∧ h' = h :=
  (mX_aload_n d_X5_deedOf_34 rfl).trans <| (mG_r (b := (a0 + 7)) d_X5_deedOf_35 fr_51_30 (mn_shT0 ha0) (mn_ltT0 ha0) (mn_rfT8 ha0 _)).trans <| (mX_iload_n d_X5_deedOf_38 rfl).trans <| (mX_iaload d_X5_deedOf_39 (mn_shT7 ha0) (mn_ltT ha0 (by decide)) hy1).trans <| mX_iret d_X5_deedOf_40 rfl
theorem b_X5_deedOf_41 {x1 x2 x3 x4 x5 : Int32} {a0 : Nat} {h h' : mn_H} {r : Option Value} (ha0 : mn_isT a0) : mn_E 51 41 [.ref a0, .int x1, .int x2, .int x3, .int x4, .int x5] [] h r h' ↔ if ¬ ((x4 >>> (x1 &&& 31)) &&& 1) = 1 then mn_E 51 60 [.ref a0, .int x1, .int x2, .int x3, .int x4, .int x5] [] h r h' else mn_E 51 51 [.ref a0, .int x1, .int x2, .int x3, .int x4, .int x5] [] h r h' :=
  (mX_iload d_X5_deedOf_41 rfl).trans <| (mX_iload_n d_X5_deedOf_43 rfl).trans <| (mX_ishr d_X5_deedOf_44).trans <| (mX_iconst d_X5_deedOf_45 ci_1).trans <| (mX_iand d_X5_deedOf_46).trans <| (mX_iconst d_X5_deedOf_47 ci_1).trans <| mX_icmp_ne d_X5_deedOf_48 rfl
theorem b_X5_deedOf_51 {x1 x2 x3 x4 x5 : Int32} {a0 : Nat} {h h' : mn_H} {r : Option Value} (ha0 : mn_isT a0) (hy1 : vp_in x1 6) : mn_E 51 51 [.ref a0, .int x1, .int x2, .int x3, .int x4, .int x5] [] h r h' ↔ mn_E 51 62 [.ref a0, .int x1, .int x2, .int x3, .int x4, .int x5] [.int (h (a0 + 6) x1.toNatClampNeg)] h r h' :=
  (mX_aload_n d_X5_deedOf_51 rfl).trans <| (mG_r (b := (a0 + 6)) d_X5_deedOf_52 fr_51_27 (mn_shT0 ha0) (mn_ltT0 ha0) (mn_rfT7 ha0 _)).trans <| (mX_iload_n d_X5_deedOf_55 rfl).trans <| (mX_iaload d_X5_deedOf_56 (mn_shT6 ha0) (mn_ltT ha0 (by decide)) hy1).trans <| mX_goto d_X5_deedOf_57 rfl
theorem b_X5_deedOf_60 {x1 x2 x3 x4 x5 : Int32} {a0 : Nat} {h h' : mn_H} {r : Option Value} (ha0 : mn_isT a0) : mn_E 51 60 [.ref a0, .int x1, .int x2, .int x3, .int x4, .int x5] [] h r h' ↔ mn_E 51 62 [.ref a0, .int x1, .int x2, .int x3, .int x4, .int x5] [.int 6] h r h' :=
  mX_bipush d_X5_deedOf_60 cb_6
theorem b_X5_deedOf_62 {x1 x2 x3 x4 x5 s0 : Int32} {a0 : Nat} {h h' : mn_H} {r : Option Value} (ha0 : mn_isT a0) : mn_E 51 62 [.ref a0, .int x1, .int x2, .int x3, .int x4, .int x5] [.int s0] h r h' ↔ r = some (.int s0) ∧ h' = h :=
  mX_iret d_X5_deedOf_62 rfl
-- X5_selvesOn
theorem mo_52 : mO 52 = 5 := rfl
theorem d_X5_selvesOn_0 : decode (mC 52) 0 = .ok (.iconst 0, 1) := by decide +kernel
theorem d_X5_selvesOn_1 : decode (mC 52) 1 = .ok (.istore_n 2, 1) := by decide +kernel
theorem d_X5_selvesOn_2 : decode (mC 52) 2 = .ok (.iconst 0, 1) := by decide +kernel
theorem d_X5_selvesOn_3 : decode (mC 52) 3 = .ok (.istore_n 3, 1) := by decide +kernel
theorem d_X5_selvesOn_4 : decode (mC 52) 4 = .ok (.iload_n 3, 1) := by decide +kernel
theorem d_X5_selvesOn_5 : decode (mC 52) 5 = .ok (.aload_n 0, 1) := by decide +kernel
theorem d_X5_selvesOn_6 : decode (mC 52) 6 = .ok (.getfield 73, 3) := by decide +kernel
theorem d_X5_selvesOn_9 : decode (mC 52) 9 = .ok (.if_icmp .ge 41, 3) := by decide +kernel
theorem d_X5_selvesOn_12 : decode (mC 52) 12 = .ok (.aload_n 0, 1) := by decide +kernel
theorem d_X5_selvesOn_13 : decode (mC 52) 13 = .ok (.getfield 48, 3) := by decide +kernel
theorem d_X5_selvesOn_16 : decode (mC 52) 16 = .ok (.iload_n 3, 1) := by decide +kernel
theorem d_X5_selvesOn_17 : decode (mC 52) 17 = .ok (.iaload, 1) := by decide +kernel
theorem d_X5_selvesOn_18 : decode (mC 52) 18 = .ok (.ifCond .le 26, 3) := by decide +kernel
theorem d_X5_selvesOn_21 : decode (mC 52) 21 = .ok (.iload_n 1, 1) := by decide +kernel
theorem d_X5_selvesOn_22 : decode (mC 52) 22 = .ok (.aload_n 0, 1) := by decide +kernel
theorem d_X5_selvesOn_23 : decode (mC 52) 23 = .ok (.getfield 48, 3) := by decide +kernel
theorem d_X5_selvesOn_26 : decode (mC 52) 26 = .ok (.iload_n 3, 1) := by decide +kernel
theorem d_X5_selvesOn_27 : decode (mC 52) 27 = .ok (.iaload, 1) := by decide +kernel
theorem d_X5_selvesOn_28 : decode (mC 52) 28 = .ok (.irem, 1) := by decide +kernel
theorem d_X5_selvesOn_29 : decode (mC 52) 29 = .ok (.aload_n 0, 1) := by decide +kernel
theorem d_X5_selvesOn_30 : decode (mC 52) 30 = .ok (.getfield 51, 3) := by decide +kernel
theorem d_X5_selvesOn_33 : decode (mC 52) 33 = .ok (.iload_n 3, 1) := by decide +kernel
theorem d_X5_selvesOn_34 : decode (mC 52) 34 = .ok (.iaload, 1) := by decide +kernel
theorem d_X5_selvesOn_35 : decode (mC 52) 35 = .ok (.if_icmp .ne 9, 3) := by decide +kernel
theorem d_X5_selvesOn_38 : decode (mC 52) 38 = .ok (.iload_n 2, 1) := by decide +kernel
theorem d_X5_selvesOn_39 : decode (mC 52) 39 = .ok (.iconst 1, 1) := by decide +kernel
theorem d_X5_selvesOn_40 : decode (mC 52) 40 = .ok (.iload_n 3, 1) := by decide +kernel
theorem d_X5_selvesOn_41 : decode (mC 52) 41 = .ok (.ishl, 1) := by decide +kernel
theorem d_X5_selvesOn_42 : decode (mC 52) 42 = .ok (.ior, 1) := by decide +kernel
theorem d_X5_selvesOn_43 : decode (mC 52) 43 = .ok (.istore_n 2, 1) := by decide +kernel
theorem d_X5_selvesOn_44 : decode (mC 52) 44 = .ok (.iinc 3 1, 3) := by decide +kernel
theorem d_X5_selvesOn_47 : decode (mC 52) 47 = .ok (.goto (-43), 3) := by decide +kernel
theorem d_X5_selvesOn_50 : decode (mC 52) 50 = .ok (.iload_n 2, 1) := by decide +kernel
theorem d_X5_selvesOn_51 : decode (mC 52) 51 = .ok (.ireturn, 1) := by decide +kernel
theorem fi_52_73 : mn_fi 52 5 73 5 11 = true := by decide +kernel
theorem fr_52_48 : mn_fr 52 5 48 5 13 = true := by decide +kernel
theorem fr_52_51 : mn_fr 52 5 51 5 14 = true := by decide +kernel
theorem b_X5_selvesOn_0 {x1 : Int32} {a0 : Nat} {h h' : mn_H} {r : Option Value} (ha0 : mn_isT a0) : mn_E 52 0 [.ref a0, .int x1, .null, .null] [] h r h' ↔ mn_E 52 4 [.ref a0, .int x1, .int 0, .int 0] [] h r h' :=
  (mX_iconst d_X5_selvesOn_0 ci_0).trans <| (mX_istore_n (ls' := [.ref a0, .int x1, .int 0, .null]) d_X5_selvesOn_1 rfl rfl).trans <| (mX_iconst d_X5_selvesOn_2 ci_0).trans <| mX_istore_n (ls' := [.ref a0, .int x1, .int 0, .int 0]) d_X5_selvesOn_3 rfl rfl
theorem b_X5_selvesOn_4 {x1 x2 x3 : Int32} {a0 : Nat} {h h' : mn_H} {r : Option Value} (ha0 : mn_isT a0) : mn_E 52 4 [.ref a0, .int x1, .int x2, .int x3] [] h r h' ↔ if (h a0 11) ≤ x3 then mn_E 52 50 [.ref a0, .int x1, .int x2, .int x3] [] h r h' else mn_E 52 12 [.ref a0, .int x1, .int x2, .int x3] [] h r h' :=
  (mX_iload_n d_X5_selvesOn_4 rfl).trans <| (mX_aload_n d_X5_selvesOn_5 rfl).trans <| (mG_i d_X5_selvesOn_6 fi_52_73 (mn_shT0 ha0) (mn_ltT0 ha0)).trans <| mX_icmp_ge d_X5_selvesOn_9 rfl
theorem b_X5_selvesOn_12 {x1 x2 x3 : Int32} {a0 : Nat} {h h' : mn_H} {r : Option Value} (ha0 : mn_isT a0) (hy1 : vp_in x3 3) : mn_E 52 12 [.ref a0, .int x1, .int x2, .int x3] [] h r h' ↔ if (h (a0 + 17) x3.toNatClampNeg) ≤ 0 then mn_E 52 44 [.ref a0, .int x1, .int x2, .int x3] [] h r h' else mn_E 52 21 [.ref a0, .int x1, .int x2, .int x3] [] h r h' :=
  (mX_aload_n d_X5_selvesOn_12 rfl).trans <| (mG_r (b := (a0 + 17)) d_X5_selvesOn_13 fr_52_48 (mn_shT0 ha0) (mn_ltT0 ha0) (mn_rfT13 ha0 _)).trans <| (mX_iload_n d_X5_selvesOn_16 rfl).trans <| (mX_iaload d_X5_selvesOn_17 (mn_shT17 ha0) (mn_ltT ha0 (by decide)) hy1).trans <| mX_if_le d_X5_selvesOn_18 rfl
theorem b_X5_selvesOn_21 {x1 x2 x3 : Int32} {a0 : Nat} {h h' : mn_H} {r : Option Value} (ha0 : mn_isT a0) (hy1 : vp_in x3 3) (hy2 : ¬ (h (a0 + 17) x3.toNatClampNeg) = 0) : mn_E 52 21 [.ref a0, .int x1, .int x2, .int x3] [] h r h' ↔ if ¬ (x1 - x1 / (h (a0 + 17) x3.toNatClampNeg) * (h (a0 + 17) x3.toNatClampNeg)) = (h (a0 + 18) x3.toNatClampNeg) then mn_E 52 44 [.ref a0, .int x1, .int x2, .int x3] [] h r h' else mn_E 52 38 [.ref a0, .int x1, .int x2, .int x3] [] h r h' :=
  (mX_iload_n d_X5_selvesOn_21 rfl).trans <| (mX_aload_n d_X5_selvesOn_22 rfl).trans <| (mG_r (b := (a0 + 17)) d_X5_selvesOn_23 fr_52_48 (mn_shT0 ha0) (mn_ltT0 ha0) (mn_rfT13 ha0 _)).trans <| (mX_iload_n d_X5_selvesOn_26 rfl).trans <| (mX_iaload d_X5_selvesOn_27 (mn_shT17 ha0) (mn_ltT ha0 (by decide)) hy1).trans <| (mX_irem d_X5_selvesOn_28 hy2).trans <| (mX_aload_n d_X5_selvesOn_29 rfl).trans <| (mG_r (b := (a0 + 18)) d_X5_selvesOn_30 fr_52_51 (mn_shT0 ha0) (mn_ltT0 ha0) (mn_rfT14 ha0 _)).trans <| (mX_iload_n d_X5_selvesOn_33 rfl).trans <| (mX_iaload d_X5_selvesOn_34 (mn_shT18 ha0) (mn_ltT ha0 (by decide)) hy1).trans <| mX_icmp_ne d_X5_selvesOn_35 rfl
theorem b_X5_selvesOn_38 {x1 x2 x3 : Int32} {a0 : Nat} {h h' : mn_H} {r : Option Value} (ha0 : mn_isT a0) : mn_E 52 38 [.ref a0, .int x1, .int x2, .int x3] [] h r h' ↔ mn_E 52 44 [.ref a0, .int x1, .int (x2 ||| (1 <<< (x3 &&& 31))), .int x3] [] h r h' :=
  (mX_iload_n d_X5_selvesOn_38 rfl).trans <| (mX_iconst d_X5_selvesOn_39 ci_1).trans <| (mX_iload_n d_X5_selvesOn_40 rfl).trans <| (mX_ishl d_X5_selvesOn_41).trans <| (mX_ior d_X5_selvesOn_42).trans <| mX_istore_n (ls' := [.ref a0, .int x1, .int (x2 ||| (1 <<< (x3 &&& 31))), .int x3]) d_X5_selvesOn_43 rfl rfl
theorem b_X5_selvesOn_44 {x1 x2 x3 : Int32} {a0 : Nat} {h h' : mn_H} {r : Option Value} (ha0 : mn_isT a0) : mn_E 52 44 [.ref a0, .int x1, .int x2, .int x3] [] h r h' ↔ mn_E 52 4 [.ref a0, .int x1, .int x2, .int (x3 + 1)] [] h r h' :=
  (mX_iinc (ls' := [.ref a0, .int x1, .int x2, .int (x3 + 1)]) d_X5_selvesOn_44 rfl ci_1 rfl rfl).trans <| mX_goto d_X5_selvesOn_47 rfl
theorem b_X5_selvesOn_50 {x1 x2 x3 : Int32} {a0 : Nat} {h h' : mn_H} {r : Option Value} (ha0 : mn_isT a0) : mn_E 52 50 [.ref a0, .int x1, .int x2, .int x3] [] h r h' ↔ r = some (.int x2) ∧ h' = h :=
  (mX_iload_n d_X5_selvesOn_50 rfl).trans <| mX_iret d_X5_selvesOn_51 rfl
-- X5_comingOfItself
theorem mo_53 : mO 53 = 5 := rfl
theorem d_X5_comingOfItself_0 : decode (mC 53) 0 = .ok (.iconst 0, 1) := by decide +kernel
theorem d_X5_comingOfItself_1 : decode (mC 53) 1 = .ok (.istore_n 2, 1) := by decide +kernel
theorem d_X5_comingOfItself_2 : decode (mC 53) 2 = .ok (.iconst 0, 1) := by decide +kernel
theorem d_X5_comingOfItself_3 : decode (mC 53) 3 = .ok (.istore_n 3, 1) := by decide +kernel
theorem d_X5_comingOfItself_4 : decode (mC 53) 4 = .ok (.iload_n 3, 1) := by decide +kernel
theorem d_X5_comingOfItself_5 : decode (mC 53) 5 = .ok (.aload_n 0, 1) := by decide +kernel
theorem d_X5_comingOfItself_6 : decode (mC 53) 6 = .ok (.getfield 73, 3) := by decide +kernel
theorem d_X5_comingOfItself_9 : decode (mC 53) 9 = .ok (.if_icmp .ge 29, 3) := by decide +kernel
theorem d_X5_comingOfItself_12 : decode (mC 53) 12 = .ok (.iload_n 1, 1) := by decide +kernel
theorem d_X5_comingOfItself_13 : decode (mC 53) 13 = .ok (.iload_n 3, 1) := by decide +kernel
theorem d_X5_comingOfItself_14 : decode (mC 53) 14 = .ok (.ishr, 1) := by decide +kernel
theorem d_X5_comingOfItself_15 : decode (mC 53) 15 = .ok (.iconst 1, 1) := by decide +kernel
theorem d_X5_comingOfItself_16 : decode (mC 53) 16 = .ok (.iand, 1) := by decide +kernel
theorem d_X5_comingOfItself_17 : decode (mC 53) 17 = .ok (.iconst 1, 1) := by decide +kernel
theorem d_X5_comingOfItself_18 : decode (mC 53) 18 = .ok (.if_icmp .ne 14, 3) := by decide +kernel
theorem d_X5_comingOfItself_21 : decode (mC 53) 21 = .ok (.iload_n 2, 1) := by decide +kernel
theorem d_X5_comingOfItself_22 : decode (mC 53) 22 = .ok (.iconst 1, 1) := by decide +kernel
theorem d_X5_comingOfItself_23 : decode (mC 53) 23 = .ok (.aload_n 0, 1) := by decide +kernel
theorem d_X5_comingOfItself_24 : decode (mC 53) 24 = .ok (.getfield 45, 3) := by decide +kernel
theorem d_X5_comingOfItself_27 : decode (mC 53) 27 = .ok (.iload_n 3, 1) := by decide +kernel
theorem d_X5_comingOfItself_28 : decode (mC 53) 28 = .ok (.iaload, 1) := by decide +kernel
theorem d_X5_comingOfItself_29 : decode (mC 53) 29 = .ok (.ishl, 1) := by decide +kernel
theorem d_X5_comingOfItself_30 : decode (mC 53) 30 = .ok (.ior, 1) := by decide +kernel
theorem d_X5_comingOfItself_31 : decode (mC 53) 31 = .ok (.istore_n 2, 1) := by decide +kernel
theorem d_X5_comingOfItself_32 : decode (mC 53) 32 = .ok (.iinc 3 1, 3) := by decide +kernel
theorem d_X5_comingOfItself_35 : decode (mC 53) 35 = .ok (.goto (-31), 3) := by decide +kernel
theorem d_X5_comingOfItself_38 : decode (mC 53) 38 = .ok (.iload_n 2, 1) := by decide +kernel
theorem d_X5_comingOfItself_39 : decode (mC 53) 39 = .ok (.ireturn, 1) := by decide +kernel
theorem fi_53_73 : mn_fi 53 5 73 5 11 = true := by decide +kernel
theorem fr_53_45 : mn_fr 53 5 45 5 12 = true := by decide +kernel
theorem b_X5_comingOfItself_0 {x1 : Int32} {a0 : Nat} {h h' : mn_H} {r : Option Value} (ha0 : mn_isT a0) : mn_E 53 0 [.ref a0, .int x1, .null, .null] [] h r h' ↔ mn_E 53 4 [.ref a0, .int x1, .int 0, .int 0] [] h r h' :=
  (mX_iconst d_X5_comingOfItself_0 ci_0).trans <| (mX_istore_n (ls' := [.ref a0, .int x1, .int 0, .null]) d_X5_comingOfItself_1 rfl rfl).trans <| (mX_iconst d_X5_comingOfItself_2 ci_0).trans <| mX_istore_n (ls' := [.ref a0, .int x1, .int 0, .int 0]) d_X5_comingOfItself_3 rfl rfl
theorem b_X5_comingOfItself_4 {x1 x2 x3 : Int32} {a0 : Nat} {h h' : mn_H} {r : Option Value} (ha0 : mn_isT a0) : mn_E 53 4 [.ref a0, .int x1, .int x2, .int x3] [] h r h' ↔ if (h a0 11) ≤ x3 then mn_E 53 38 [.ref a0, .int x1, .int x2, .int x3] [] h r h' else mn_E 53 12 [.ref a0, .int x1, .int x2, .int x3] [] h r h' :=
  (mX_iload_n d_X5_comingOfItself_4 rfl).trans <| (mX_aload_n d_X5_comingOfItself_5 rfl).trans <| (mG_i d_X5_comingOfItself_6 fi_53_73 (mn_shT0 ha0) (mn_ltT0 ha0)).trans <| mX_icmp_ge d_X5_comingOfItself_9 rfl
theorem b_X5_comingOfItself_12 {x1 x2 x3 : Int32} {a0 : Nat} {h h' : mn_H} {r : Option Value} (ha0 : mn_isT a0) : mn_E 53 12 [.ref a0, .int x1, .int x2, .int x3] [] h r h' ↔ if ¬ ((x1 >>> (x3 &&& 31)) &&& 1) = 1 then mn_E 53 32 [.ref a0, .int x1, .int x2, .int x3] [] h r h' else mn_E 53 21 [.ref a0, .int x1, .int x2, .int x3] [] h r h' :=
  (mX_iload_n d_X5_comingOfItself_12 rfl).trans <| (mX_iload_n d_X5_comingOfItself_13 rfl).trans <| (mX_ishr d_X5_comingOfItself_14).trans <| (mX_iconst d_X5_comingOfItself_15 ci_1).trans <| (mX_iand d_X5_comingOfItself_16).trans <| (mX_iconst d_X5_comingOfItself_17 ci_1).trans <| mX_icmp_ne d_X5_comingOfItself_18 rfl
theorem b_X5_comingOfItself_21 {x1 x2 x3 : Int32} {a0 : Nat} {h h' : mn_H} {r : Option Value} (ha0 : mn_isT a0) (hy1 : vp_in x3 3) : mn_E 53 21 [.ref a0, .int x1, .int x2, .int x3] [] h r h' ↔ mn_E 53 32 [.ref a0, .int x1, .int (x2 ||| (1 <<< ((h (a0 + 16) x3.toNatClampNeg) &&& 31))), .int x3] [] h r h' :=
  (mX_iload_n d_X5_comingOfItself_21 rfl).trans <| (mX_iconst d_X5_comingOfItself_22 ci_1).trans <| (mX_aload_n d_X5_comingOfItself_23 rfl).trans <| (mG_r (b := (a0 + 16)) d_X5_comingOfItself_24 fr_53_45 (mn_shT0 ha0) (mn_ltT0 ha0) (mn_rfT12 ha0 _)).trans <| (mX_iload_n d_X5_comingOfItself_27 rfl).trans <| (mX_iaload d_X5_comingOfItself_28 (mn_shT16 ha0) (mn_ltT ha0 (by decide)) hy1).trans <| (mX_ishl d_X5_comingOfItself_29).trans <| (mX_ior d_X5_comingOfItself_30).trans <| mX_istore_n (ls' := [.ref a0, .int x1, .int (x2 ||| (1 <<< ((h (a0 + 16) x3.toNatClampNeg) &&& 31))), .int x3]) d_X5_comingOfItself_31 rfl rfl
theorem b_X5_comingOfItself_32 {x1 x2 x3 : Int32} {a0 : Nat} {h h' : mn_H} {r : Option Value} (ha0 : mn_isT a0) : mn_E 53 32 [.ref a0, .int x1, .int x2, .int x3] [] h r h' ↔ mn_E 53 4 [.ref a0, .int x1, .int x2, .int (x3 + 1)] [] h r h' :=
  (mX_iinc (ls' := [.ref a0, .int x1, .int x2, .int (x3 + 1)]) d_X5_comingOfItself_32 rfl ci_1 rfl rfl).trans <| mX_goto d_X5_comingOfItself_35 rfl
theorem b_X5_comingOfItself_38 {x1 x2 x3 : Int32} {a0 : Nat} {h h' : mn_H} {r : Option Value} (ha0 : mn_isT a0) : mn_E 53 38 [.ref a0, .int x1, .int x2, .int x3] [] h r h' ↔ r = some (.int x2) ∧ h' = h :=
  (mX_iload_n d_X5_comingOfItself_38 rfl).trans <| mX_iret d_X5_comingOfItself_39 rfl
-- X5_turn
theorem mo_54 : mO 54 = 5 := rfl
theorem d_X5_turn_0 : decode (mC 54) 0 = .ok (.iconst 1, 1) := by decide +kernel
theorem d_X5_turn_1 : decode (mC 54) 1 = .ok (.istore_n 1, 1) := by decide +kernel
theorem d_X5_turn_2 : decode (mC 54) 2 = .ok (.iconst 0, 1) := by decide +kernel
theorem d_X5_turn_3 : decode (mC 54) 3 = .ok (.istore_n 2, 1) := by decide +kernel
theorem d_X5_turn_4 : decode (mC 54) 4 = .ok (.iload_n 2, 1) := by decide +kernel
theorem d_X5_turn_5 : decode (mC 54) 5 = .ok (.aload_n 0, 1) := by decide +kernel
theorem d_X5_turn_6 : decode (mC 54) 6 = .ok (.getfield 73, 3) := by decide +kernel
theorem d_X5_turn_9 : decode (mC 54) 9 = .ok (.if_icmp .ge 35, 3) := by decide +kernel
theorem d_X5_turn_12 : decode (mC 54) 12 = .ok (.iconst 1, 1) := by decide +kernel
theorem d_X5_turn_13 : decode (mC 54) 13 = .ok (.iload_n 1, 1) := by decide +kernel
theorem d_X5_turn_14 : decode (mC 54) 14 = .ok (.aload_n 0, 1) := by decide +kernel
theorem d_X5_turn_15 : decode (mC 54) 15 = .ok (.getfield 48, 3) := by decide +kernel
theorem d_X5_turn_18 : decode (mC 54) 18 = .ok (.iload_n 2, 1) := by decide +kernel
theorem d_X5_turn_19 : decode (mC 54) 19 = .ok (.iaload, 1) := by decide +kernel
theorem d_X5_turn_20 : decode (mC 54) 20 = .ok (.invokestatic 83, 3) := by decide +kernel
theorem d_X5_turn_23 : decode (mC 54) 23 = .ok (.invokestatic 87, 3) := by decide +kernel
theorem d_X5_turn_26 : decode (mC 54) 26 = .ok (.istore_n 3, 1) := by decide +kernel
theorem d_X5_turn_27 : decode (mC 54) 27 = .ok (.iload_n 1, 1) := by decide +kernel
theorem d_X5_turn_28 : decode (mC 54) 28 = .ok (.iload_n 3, 1) := by decide +kernel
theorem d_X5_turn_29 : decode (mC 54) 29 = .ok (.idiv, 1) := by decide +kernel
theorem d_X5_turn_30 : decode (mC 54) 30 = .ok (.aload_n 0, 1) := by decide +kernel
theorem d_X5_turn_31 : decode (mC 54) 31 = .ok (.getfield 48, 3) := by decide +kernel
theorem d_X5_turn_34 : decode (mC 54) 34 = .ok (.iload_n 2, 1) := by decide +kernel
theorem d_X5_turn_35 : decode (mC 54) 35 = .ok (.iaload, 1) := by decide +kernel
theorem d_X5_turn_36 : decode (mC 54) 36 = .ok (.imul, 1) := by decide +kernel
theorem d_X5_turn_37 : decode (mC 54) 37 = .ok (.istore_n 1, 1) := by decide +kernel
theorem d_X5_turn_38 : decode (mC 54) 38 = .ok (.iinc 2 1, 3) := by decide +kernel
theorem d_X5_turn_41 : decode (mC 54) 41 = .ok (.goto (-37), 3) := by decide +kernel
theorem d_X5_turn_44 : decode (mC 54) 44 = .ok (.iload_n 1, 1) := by decide +kernel
theorem d_X5_turn_45 : decode (mC 54) 45 = .ok (.ireturn, 1) := by decide +kernel
theorem fi_54_73 : mn_fi 54 5 73 5 11 = true := by decide +kernel
theorem fr_54_48 : mn_fr 54 5 48 5 13 = true := by decide +kernel
theorem cs_54_83 : mn_cs 54 5 83 112 = true := by decide +kernel
theorem ma_5_87 : mn_ml 5 87 = none ∧ mn_nl 5 87 = none ∧ mn_ma 5 87 = some 0 := by decide +kernel
theorem b_X5_turn_0 {a0 : Nat} {h h' : mn_H} {r : Option Value} (ha0 : mn_isT a0) : mn_E 54 0 [.ref a0, .null, .null, .null] [] h r h' ↔ mn_E 54 4 [.ref a0, .int 1, .int 0, .null] [] h r h' :=
  (mX_iconst d_X5_turn_0 ci_1).trans <| (mX_istore_n (ls' := [.ref a0, .int 1, .null, .null]) d_X5_turn_1 rfl rfl).trans <| (mX_iconst d_X5_turn_2 ci_0).trans <| mX_istore_n (ls' := [.ref a0, .int 1, .int 0, .null]) d_X5_turn_3 rfl rfl
theorem b_X5_turn_4 {x1 x2 : Int32} {a0 : Nat} {w3 : Value} {h h' : mn_H} {r : Option Value} (ha0 : mn_isT a0) : mn_E 54 4 [.ref a0, .int x1, .int x2, w3] [] h r h' ↔ if (h a0 11) ≤ x2 then mn_E 54 44 [.ref a0, .int x1, .int x2, w3] [] h r h' else mn_E 54 12 [.ref a0, .int x1, .int x2, w3] [] h r h' :=
  (mX_iload_n d_X5_turn_4 rfl).trans <| (mX_aload_n d_X5_turn_5 rfl).trans <| (mG_i d_X5_turn_6 fi_54_73 (mn_shT0 ha0) (mn_ltT0 ha0)).trans <| mX_icmp_ge d_X5_turn_9 rfl
theorem b_X5_turn_12 {x1 x2 : Int32} {a0 : Nat} {w3 : Value} {h h' : mn_H} {r : Option Value} (ha0 : mn_isT a0) (hy1 : vp_in x2 3) : mn_E 54 12 [.ref a0, .int x1, .int x2, w3] [] h r h' ↔ ∃ x h1, mn_X 112 [.int x1, .int (h (a0 + 17) x2.toNatClampNeg)] h (some (.int x)) h1 ∧ mn_E 54 23 [.ref a0, .int x1, .int x2, w3] [.int x, .int 1] h1 r h' :=
  (mX_iconst d_X5_turn_12 ci_1).trans <| (mX_iload_n d_X5_turn_13 rfl).trans <| (mX_aload_n d_X5_turn_14 rfl).trans <| (mG_r (b := (a0 + 17)) d_X5_turn_15 fr_54_48 (mn_shT0 ha0) (mn_ltT0 ha0) (mn_rfT13 ha0 _)).trans <| (mX_iload_n d_X5_turn_18 rfl).trans <| (mX_iaload d_X5_turn_19 (mn_shT17 ha0) (mn_ltT ha0 (by decide)) hy1).trans <| mS_i (vs := [.int x1, .int (h (a0 + 17) x2.toNatClampNeg)]) (st' := [.int 1]) d_X5_turn_20 cs_54_83 (Or.inl rfl) (Nat.le_of_ble_eq_true rfl) rfl rfl rfl
theorem b_X5_turn_23 {x1 x2 s0 s1 : Int32} {a0 : Nat} {w3 : Value} {h h' : mn_H} {r : Option Value} (ha0 : mn_isT a0) (hy1 : ¬ (if s1 < s0 then s0 else s1) = 0) (hy2 : vp_in x2 3) : mn_E 54 23 [.ref a0, .int x1, .int x2, w3] [.int s0, .int s1] h r h' ↔ mn_E 54 4 [.ref a0, .int ((x1 / (if s1 < s0 then s0 else s1)) * (h (a0 + 17) x2.toNatClampNeg)), .int (x2 + 1), .int (if s1 < s0 then s0 else s1)] [] h r h' :=
  (mX_max d_X5_turn_23 mo_54 ma_5_87 (by decide)).trans <| (mX_istore_n (ls' := [.ref a0, .int x1, .int x2, .int (if s1 < s0 then s0 else s1)]) d_X5_turn_26 rfl rfl).trans <| (mX_iload_n d_X5_turn_27 rfl).trans <| (mX_iload_n d_X5_turn_28 rfl).trans <| (mX_idiv d_X5_turn_29 hy1).trans <| (mX_aload_n d_X5_turn_30 rfl).trans <| (mG_r (b := (a0 + 17)) d_X5_turn_31 fr_54_48 (mn_shT0 ha0) (mn_ltT0 ha0) (mn_rfT13 ha0 _)).trans <| (mX_iload_n d_X5_turn_34 rfl).trans <| (mX_iaload d_X5_turn_35 (mn_shT17 ha0) (mn_ltT ha0 (by decide)) hy2).trans <| (mX_imul d_X5_turn_36).trans <| (mX_istore_n (ls' := [.ref a0, .int ((x1 / (if s1 < s0 then s0 else s1)) * (h (a0 + 17) x2.toNatClampNeg)), .int x2, .int (if s1 < s0 then s0 else s1)]) d_X5_turn_37 rfl rfl).trans <| (mX_iinc (ls' := [.ref a0, .int ((x1 / (if s1 < s0 then s0 else s1)) * (h (a0 + 17) x2.toNatClampNeg)), .int (x2 + 1), .int (if s1 < s0 then s0 else s1)]) d_X5_turn_38 rfl ci_1 rfl rfl).trans <| mX_goto d_X5_turn_41 rfl
theorem b_X5_turn_44 {x1 x2 : Int32} {a0 : Nat} {w3 : Value} {h h' : mn_H} {r : Option Value} (ha0 : mn_isT a0) : mn_E 54 44 [.ref a0, .int x1, .int x2, w3] [] h r h' ↔ r = some (.int x1) ∧ h' = h :=
  (mX_iload_n d_X5_turn_44 rfl).trans <| mX_iret d_X5_turn_45 rfl
-- X5_harmOf
theorem mo_55 : mO 55 = 5 := rfl
theorem d_X5_harmOf_0 : decode (mC 55) 0 = .ok (.iconst 0, 1) := by decide +kernel
theorem d_X5_harmOf_1 : decode (mC 55) 1 = .ok (.istore_n 2, 1) := by decide +kernel
theorem d_X5_harmOf_2 : decode (mC 55) 2 = .ok (.iconst 0, 1) := by decide +kernel
theorem d_X5_harmOf_3 : decode (mC 55) 3 = .ok (.istore_n 3, 1) := by decide +kernel
theorem d_X5_harmOf_4 : decode (mC 55) 4 = .ok (.iload_n 3, 1) := by decide +kernel
theorem d_X5_harmOf_5 : decode (mC 55) 5 = .ok (.bipush 6, 2) := by decide +kernel
theorem d_X5_harmOf_7 : decode (mC 55) 7 = .ok (.if_icmp .ge 27, 3) := by decide +kernel
theorem d_X5_harmOf_10 : decode (mC 55) 10 = .ok (.iload_n 1, 1) := by decide +kernel
theorem d_X5_harmOf_11 : decode (mC 55) 11 = .ok (.iload_n 3, 1) := by decide +kernel
theorem d_X5_harmOf_12 : decode (mC 55) 12 = .ok (.ishr, 1) := by decide +kernel
theorem d_X5_harmOf_13 : decode (mC 55) 13 = .ok (.iconst 1, 1) := by decide +kernel
theorem d_X5_harmOf_14 : decode (mC 55) 14 = .ok (.iand, 1) := by decide +kernel
theorem d_X5_harmOf_15 : decode (mC 55) 15 = .ok (.iconst 1, 1) := by decide +kernel
theorem d_X5_harmOf_16 : decode (mC 55) 16 = .ok (.if_icmp .ne 12, 3) := by decide +kernel
theorem d_X5_harmOf_19 : decode (mC 55) 19 = .ok (.iload_n 2, 1) := by decide +kernel
theorem d_X5_harmOf_20 : decode (mC 55) 20 = .ok (.aload_n 0, 1) := by decide +kernel
theorem d_X5_harmOf_21 : decode (mC 55) 21 = .ok (.getfield 54, 3) := by decide +kernel
theorem d_X5_harmOf_24 : decode (mC 55) 24 = .ok (.iload_n 3, 1) := by decide +kernel
theorem d_X5_harmOf_25 : decode (mC 55) 25 = .ok (.iaload, 1) := by decide +kernel
theorem d_X5_harmOf_26 : decode (mC 55) 26 = .ok (.iadd, 1) := by decide +kernel
theorem d_X5_harmOf_27 : decode (mC 55) 27 = .ok (.istore_n 2, 1) := by decide +kernel
theorem d_X5_harmOf_28 : decode (mC 55) 28 = .ok (.iinc 3 1, 3) := by decide +kernel
theorem d_X5_harmOf_31 : decode (mC 55) 31 = .ok (.goto (-27), 3) := by decide +kernel
theorem d_X5_harmOf_34 : decode (mC 55) 34 = .ok (.iload_n 2, 1) := by decide +kernel
theorem d_X5_harmOf_35 : decode (mC 55) 35 = .ok (.ireturn, 1) := by decide +kernel
theorem fr_55_54 : mn_fr 55 5 54 5 15 = true := by decide +kernel
theorem b_X5_harmOf_0 {x1 : Int32} {a0 : Nat} {h h' : mn_H} {r : Option Value} (ha0 : mn_isT a0) : mn_E 55 0 [.ref a0, .int x1, .null, .null] [] h r h' ↔ mn_E 55 4 [.ref a0, .int x1, .int 0, .int 0] [] h r h' :=
  (mX_iconst d_X5_harmOf_0 ci_0).trans <| (mX_istore_n (ls' := [.ref a0, .int x1, .int 0, .null]) d_X5_harmOf_1 rfl rfl).trans <| (mX_iconst d_X5_harmOf_2 ci_0).trans <| mX_istore_n (ls' := [.ref a0, .int x1, .int 0, .int 0]) d_X5_harmOf_3 rfl rfl
theorem b_X5_harmOf_4 {x1 x2 x3 : Int32} {a0 : Nat} {h h' : mn_H} {r : Option Value} (ha0 : mn_isT a0) : mn_E 55 4 [.ref a0, .int x1, .int x2, .int x3] [] h r h' ↔ if (6 : Int32) ≤ x3 then mn_E 55 34 [.ref a0, .int x1, .int x2, .int x3] [] h r h' else mn_E 55 10 [.ref a0, .int x1, .int x2, .int x3] [] h r h' :=
  (mX_iload_n d_X5_harmOf_4 rfl).trans <| (mX_bipush d_X5_harmOf_5 cb_6).trans <| mX_icmp_ge d_X5_harmOf_7 rfl
theorem b_X5_harmOf_10 {x1 x2 x3 : Int32} {a0 : Nat} {h h' : mn_H} {r : Option Value} (ha0 : mn_isT a0) : mn_E 55 10 [.ref a0, .int x1, .int x2, .int x3] [] h r h' ↔ if ¬ ((x1 >>> (x3 &&& 31)) &&& 1) = 1 then mn_E 55 28 [.ref a0, .int x1, .int x2, .int x3] [] h r h' else mn_E 55 19 [.ref a0, .int x1, .int x2, .int x3] [] h r h' :=
  (mX_iload_n d_X5_harmOf_10 rfl).trans <| (mX_iload_n d_X5_harmOf_11 rfl).trans <| (mX_ishr d_X5_harmOf_12).trans <| (mX_iconst d_X5_harmOf_13 ci_1).trans <| (mX_iand d_X5_harmOf_14).trans <| (mX_iconst d_X5_harmOf_15 ci_1).trans <| mX_icmp_ne d_X5_harmOf_16 rfl
theorem b_X5_harmOf_19 {x1 x2 x3 : Int32} {a0 : Nat} {h h' : mn_H} {r : Option Value} (ha0 : mn_isT a0) (hy1 : vp_in x3 6) : mn_E 55 19 [.ref a0, .int x1, .int x2, .int x3] [] h r h' ↔ mn_E 55 28 [.ref a0, .int x1, .int (x2 + (h (a0 + 19) x3.toNatClampNeg)), .int x3] [] h r h' :=
  (mX_iload_n d_X5_harmOf_19 rfl).trans <| (mX_aload_n d_X5_harmOf_20 rfl).trans <| (mG_r (b := (a0 + 19)) d_X5_harmOf_21 fr_55_54 (mn_shT0 ha0) (mn_ltT0 ha0) (mn_rfT15 ha0 _)).trans <| (mX_iload_n d_X5_harmOf_24 rfl).trans <| (mX_iaload d_X5_harmOf_25 (mn_shT19 ha0) (mn_ltT ha0 (by decide)) hy1).trans <| (mX_iadd d_X5_harmOf_26).trans <| mX_istore_n (ls' := [.ref a0, .int x1, .int (x2 + (h (a0 + 19) x3.toNatClampNeg)), .int x3]) d_X5_harmOf_27 rfl rfl
theorem b_X5_harmOf_28 {x1 x2 x3 : Int32} {a0 : Nat} {h h' : mn_H} {r : Option Value} (ha0 : mn_isT a0) : mn_E 55 28 [.ref a0, .int x1, .int x2, .int x3] [] h r h' ↔ mn_E 55 4 [.ref a0, .int x1, .int x2, .int (x3 + 1)] [] h r h' :=
  (mX_iinc (ls' := [.ref a0, .int x1, .int x2, .int (x3 + 1)]) d_X5_harmOf_28 rfl ci_1 rfl rfl).trans <| mX_goto d_X5_harmOf_31 rfl
theorem b_X5_harmOf_34 {x1 x2 x3 : Int32} {a0 : Nat} {h h' : mn_H} {r : Option Value} (ha0 : mn_isT a0) : mn_E 55 34 [.ref a0, .int x1, .int x2, .int x3] [] h r h' ↔ r = some (.int x2) ∧ h' = h :=
  (mX_iload_n d_X5_harmOf_34 rfl).trans <| mX_iret d_X5_harmOf_35 rfl
-- X5_greatestHarm
theorem mo_56 : mO 56 = 5 := rfl
theorem d_X5_greatestHarm_0 : decode (mC 56) 0 = .ok (.sipush (-300), 3) := by decide +kernel
theorem d_X5_greatestHarm_3 : decode (mC 56) 3 = .ok (.istore_n 3, 1) := by decide +kernel
theorem d_X5_greatestHarm_4 : decode (mC 56) 4 = .ok (.iconst 0, 1) := by decide +kernel
theorem d_X5_greatestHarm_5 : decode (mC 56) 5 = .ok (.istore 4, 2) := by decide +kernel
theorem d_X5_greatestHarm_7 : decode (mC 56) 7 = .ok (.iload 4, 2) := by decide +kernel
theorem d_X5_greatestHarm_9 : decode (mC 56) 9 = .ok (.bipush 64, 2) := by decide +kernel
theorem d_X5_greatestHarm_11 : decode (mC 56) 11 = .ok (.if_icmp .ge 31, 3) := by decide +kernel
theorem d_X5_greatestHarm_14 : decode (mC 56) 14 = .ok (.lload_n 1, 1) := by decide +kernel
theorem d_X5_greatestHarm_15 : decode (mC 56) 15 = .ok (.iload 4, 2) := by decide +kernel
theorem d_X5_greatestHarm_17 : decode (mC 56) 17 = .ok (.lushr, 1) := by decide +kernel
theorem d_X5_greatestHarm_18 : decode (mC 56) 18 = .ok (.lconst 1, 1) := by decide +kernel
theorem d_X5_greatestHarm_19 : decode (mC 56) 19 = .ok (.land, 1) := by decide +kernel
theorem d_X5_greatestHarm_20 : decode (mC 56) 20 = .ok (.lconst 1, 1) := by decide +kernel
theorem d_X5_greatestHarm_21 : decode (mC 56) 21 = .ok (.lcmp, 1) := by decide +kernel
theorem d_X5_greatestHarm_22 : decode (mC 56) 22 = .ok (.ifCond .ne 14, 3) := by decide +kernel
theorem d_X5_greatestHarm_25 : decode (mC 56) 25 = .ok (.iload_n 3, 1) := by decide +kernel
theorem d_X5_greatestHarm_26 : decode (mC 56) 26 = .ok (.aload_n 0, 1) := by decide +kernel
theorem d_X5_greatestHarm_27 : decode (mC 56) 27 = .ok (.iload 4, 2) := by decide +kernel
theorem d_X5_greatestHarm_29 : decode (mC 56) 29 = .ok (.invokevirtual 92, 3) := by decide +kernel
theorem d_X5_greatestHarm_32 : decode (mC 56) 32 = .ok (.invokestatic 87, 3) := by decide +kernel
theorem d_X5_greatestHarm_35 : decode (mC 56) 35 = .ok (.istore_n 3, 1) := by decide +kernel
theorem d_X5_greatestHarm_36 : decode (mC 56) 36 = .ok (.iinc 4 1, 3) := by decide +kernel
theorem d_X5_greatestHarm_39 : decode (mC 56) 39 = .ok (.goto (-32), 3) := by decide +kernel
theorem d_X5_greatestHarm_42 : decode (mC 56) 42 = .ok (.iload_n 3, 1) := by decide +kernel
theorem d_X5_greatestHarm_43 : decode (mC 56) 43 = .ok (.ireturn, 1) := by decide +kernel
theorem cv_56_92 : mn_cvt 56 5 92 55 = true := by decide +kernel
theorem b_X5_greatestHarm_0 {l1 : Int64} {a0 : Nat} {h h' : mn_H} {r : Option Value} (ha0 : mn_isT a0) : mn_E 56 0 [.ref a0, .long l1, .null, .null, .null] [] h r h' ↔ mn_E 56 7 [.ref a0, .long l1, .null, .int (-300), .int 0] [] h r h' :=
  (mX_sipush d_X5_greatestHarm_0 cs_m300).trans <| (mX_istore_n (ls' := [.ref a0, .long l1, .null, .int (-300), .null]) d_X5_greatestHarm_3 rfl rfl).trans <| (mX_iconst d_X5_greatestHarm_4 ci_0).trans <| mX_istore (ls' := [.ref a0, .long l1, .null, .int (-300), .int 0]) d_X5_greatestHarm_5 rfl rfl
theorem b_X5_greatestHarm_7 {x3 x4 : Int32} {l1 : Int64} {a0 : Nat} {h h' : mn_H} {r : Option Value} (ha0 : mn_isT a0) : mn_E 56 7 [.ref a0, .long l1, .null, .int x3, .int x4] [] h r h' ↔ if (64 : Int32) ≤ x4 then mn_E 56 42 [.ref a0, .long l1, .null, .int x3, .int x4] [] h r h' else mn_E 56 14 [.ref a0, .long l1, .null, .int x3, .int x4] [] h r h' :=
  (mX_iload d_X5_greatestHarm_7 rfl).trans <| (mX_bipush d_X5_greatestHarm_9 cb_64).trans <| mX_icmp_ge d_X5_greatestHarm_11 rfl
theorem b_X5_greatestHarm_14 {x3 x4 : Int32} {l1 : Int64} {a0 : Nat} {h h' : mn_H} {r : Option Value} (ha0 : mn_isT a0) : mn_E 56 14 [.ref a0, .long l1, .null, .int x3, .int x4] [] h r h' ↔ if ¬ (lg_cmp (((l1).toUInt64 >>> (x4.toInt64.toUInt64 &&& Int64.toUInt64 63)).toInt64 &&& 1) 1) = 0 then mn_E 56 36 [.ref a0, .long l1, .null, .int x3, .int x4] [] h r h' else mn_E 56 25 [.ref a0, .long l1, .null, .int x3, .int x4] [] h r h' :=
  (mX_lload_n d_X5_greatestHarm_14 rfl).trans <| (mX_iload d_X5_greatestHarm_15 rfl).trans <| (mX_lushr d_X5_greatestHarm_17).trans <| (mX_lconst d_X5_greatestHarm_18 cl_1).trans <| (mX_land d_X5_greatestHarm_19).trans <| (mX_lconst d_X5_greatestHarm_20 cl_1).trans <| (mX_lcmp d_X5_greatestHarm_21).trans <| mX_if_ne d_X5_greatestHarm_22 rfl
theorem b_X5_greatestHarm_25 {x3 x4 : Int32} {l1 : Int64} {a0 : Nat} {h h' : mn_H} {r : Option Value} (ha0 : mn_isT a0) : mn_E 56 25 [.ref a0, .long l1, .null, .int x3, .int x4] [] h r h' ↔ ∃ x h1, mn_X 55 [.ref a0, .int x4] h (some (.int x)) h1 ∧ mn_E 56 32 [.ref a0, .long l1, .null, .int x3, .int x4] [.int x, .int x3] h1 r h' :=
  (mX_iload_n d_X5_greatestHarm_25 rfl).trans <| (mX_aload_n d_X5_greatestHarm_26 rfl).trans <| (mX_iload d_X5_greatestHarm_27 rfl).trans <| mV_i (a := a0) (vs := [.int x4]) (st' := [.int x3]) d_X5_greatestHarm_29 cv_56_92 (Or.inl rfl) (Nat.le_of_ble_eq_true rfl) rfl rfl (mn_shT0 ha0) rfl
theorem b_X5_greatestHarm_32 {x3 x4 s0 s1 : Int32} {l1 : Int64} {a0 : Nat} {h h' : mn_H} {r : Option Value} (ha0 : mn_isT a0) : mn_E 56 32 [.ref a0, .long l1, .null, .int x3, .int x4] [.int s0, .int s1] h r h' ↔ mn_E 56 36 [.ref a0, .long l1, .null, .int (if s1 < s0 then s0 else s1), .int x4] [] h r h' :=
  (mX_max d_X5_greatestHarm_32 mo_56 ma_5_87 (by decide)).trans <| mX_istore_n (ls' := [.ref a0, .long l1, .null, .int (if s1 < s0 then s0 else s1), .int x4]) d_X5_greatestHarm_35 rfl rfl
theorem b_X5_greatestHarm_36 {x3 x4 : Int32} {l1 : Int64} {a0 : Nat} {h h' : mn_H} {r : Option Value} (ha0 : mn_isT a0) : mn_E 56 36 [.ref a0, .long l1, .null, .int x3, .int x4] [] h r h' ↔ mn_E 56 7 [.ref a0, .long l1, .null, .int x3, .int (x4 + 1)] [] h r h' :=
  (mX_iinc (ls' := [.ref a0, .long l1, .null, .int x3, .int (x4 + 1)]) d_X5_greatestHarm_36 rfl ci_1 rfl rfl).trans <| mX_goto d_X5_greatestHarm_39 rfl
theorem b_X5_greatestHarm_42 {x3 x4 : Int32} {l1 : Int64} {a0 : Nat} {h h' : mn_H} {r : Option Value} (ha0 : mn_isT a0) : mn_E 56 42 [.ref a0, .long l1, .null, .int x3, .int x4] [] h r h' ↔ r = some (.int x3) ∧ h' = h :=
  (mX_iload_n d_X5_greatestHarm_42 rfl).trans <| mX_iret d_X5_greatestHarm_43 rfl
-- J0_indexOf_0f7a4
theorem mo_182 : mO 182 = 9 := rfl
theorem d_J0_indexOf_0f7a4_0 : decode (mC 182) 0 = .ok (.aload_n 0, 1) := by decide +kernel
theorem d_J0_indexOf_0f7a4_1 : decode (mC 182) 1 = .ok (.iload_n 1, 1) := by decide +kernel
theorem d_J0_indexOf_0f7a4_2 : decode (mC 182) 2 = .ok (.iconst 0, 1) := by decide +kernel
theorem d_J0_indexOf_0f7a4_3 : decode (mC 182) 3 = .ok (.invokevirtual 633, 3) := by decide +kernel
theorem d_J0_indexOf_0f7a4_6 : decode (mC 182) 6 = .ok (.ireturn, 1) := by decide +kernel
theorem cv_182_633 : mn_cvt 182 9 633 183 = true := by decide +kernel
theorem b_J0_indexOf_0f7a4_0 {x1 : Int32} {h h' : mn_H} {r : Option Value} : mn_E 182 0 [.ref 75, .int x1] [] h r h' ↔ ∃ x h1, mn_X 183 [.ref 75, .int x1, .int 0] h (some (.int x)) h1 ∧ mn_E 182 6 [.ref 75, .int x1] [.int x] h1 r h' :=
  (mX_aload_n d_J0_indexOf_0f7a4_0 rfl).trans <| (mX_iload_n d_J0_indexOf_0f7a4_1 rfl).trans <| (mX_iconst d_J0_indexOf_0f7a4_2 ci_0).trans <| mV_i (a := 75) (vs := [.int x1, .int 0]) (st' := []) d_J0_indexOf_0f7a4_3 cv_182_633 (Or.inl rfl) (Nat.le_of_ble_eq_true rfl) rfl rfl rfl rfl
theorem b_J0_indexOf_0f7a4_6 {x1 s0 : Int32} {h h' : mn_H} {r : Option Value} : mn_E 182 6 [.ref 75, .int x1] [.int s0] h r h' ↔ r = some (.int s0) ∧ h' = h :=
  mX_iret d_J0_indexOf_0f7a4_6 rfl
-- J0_indexOf_7cf53
theorem mo_183 : mO 183 = 9 := rfl
theorem d_J0_indexOf_7cf53_0 : decode (mC 183) 0 = .ok (.aload_n 0, 1) := by decide +kernel
theorem d_J0_indexOf_7cf53_1 : decode (mC 183) 1 = .ok (.invokevirtual 492, 3) := by decide +kernel
theorem d_J0_indexOf_7cf53_4 : decode (mC 183) 4 = .ok (.ifCond .eq 19, 3) := by decide +kernel
theorem d_J0_indexOf_7cf53_7 : decode (mC 183) 7 = .ok (.aload_n 0, 1) := by decide +kernel
theorem d_J0_indexOf_7cf53_8 : decode (mC 183) 8 = .ok (.getfield 9, 3) := by decide +kernel
theorem d_J0_indexOf_7cf53_11 : decode (mC 183) 11 = .ok (.iload_n 1, 1) := by decide +kernel
theorem d_J0_indexOf_7cf53_12 : decode (mC 183) 12 = .ok (.iload_n 2, 1) := by decide +kernel
theorem d_J0_indexOf_7cf53_13 : decode (mC 183) 13 = .ok (.aload_n 0, 1) := by decide +kernel
theorem d_J0_indexOf_7cf53_14 : decode (mC 183) 14 = .ok (.invokevirtual 505, 3) := by decide +kernel
theorem d_J0_indexOf_7cf53_17 : decode (mC 183) 17 = .ok (.invokestatic 637, 3) := by decide +kernel
theorem d_J0_indexOf_7cf53_20 : decode (mC 183) 20 = .ok (.goto 16, 3) := by decide +kernel
theorem d_J0_indexOf_7cf53_23 : decode (mC 183) 23 = .ok (.aload_n 0, 1) := by decide +kernel
theorem d_J0_indexOf_7cf53_24 : decode (mC 183) 24 = .ok (.getfield 9, 3) := by decide +kernel
theorem d_J0_indexOf_7cf53_27 : decode (mC 183) 27 = .ok (.iload_n 1, 1) := by decide +kernel
theorem d_J0_indexOf_7cf53_28 : decode (mC 183) 28 = .ok (.iload_n 2, 1) := by decide +kernel
theorem d_J0_indexOf_7cf53_29 : decode (mC 183) 29 = .ok (.aload_n 0, 1) := by decide +kernel
theorem d_J0_indexOf_7cf53_30 : decode (mC 183) 30 = .ok (.invokevirtual 505, 3) := by decide +kernel
theorem d_J0_indexOf_7cf53_33 : decode (mC 183) 33 = .ok (.invokestatic 640, 3) := by decide +kernel
theorem d_J0_indexOf_7cf53_36 : decode (mC 183) 36 = .ok (.ireturn, 1) := by decide +kernel
theorem cv_183_492 : mn_cvt 183 9 492 184 = true := by decide +kernel
theorem cv_183_505 : mn_cvt 183 9 505 185 = true := by decide +kernel
theorem cs_183_637 : mn_cs 183 9 637 188 = true := by decide +kernel
theorem b_J0_indexOf_7cf53_0 {x1 x2 : Int32} {h h' : mn_H} {r : Option Value} : mn_E 183 0 [.ref 75, .int x1, .int x2] [] h r h' ↔ ∃ x h1, mn_X 184 [.ref 75] h (some (.int x)) h1 ∧ mn_E 183 4 [.ref 75, .int x1, .int x2] [.int x] h1 r h' :=
  (mX_aload_n d_J0_indexOf_7cf53_0 rfl).trans <| mV_i (a := 75) (vs := []) (st' := []) d_J0_indexOf_7cf53_1 cv_183_492 (Or.inr (Or.inl rfl)) (Nat.le_of_ble_eq_true rfl) rfl rfl rfl rfl
theorem b_J0_indexOf_7cf53_4 {x1 x2 s0 : Int32} {h h' : mn_H} {r : Option Value} : mn_E 183 4 [.ref 75, .int x1, .int x2] [.int s0] h r h' ↔ if s0 = 0 then mn_E 183 23 [.ref 75, .int x1, .int x2] [] h r h' else mn_E 183 7 [.ref 75, .int x1, .int x2] [] h r h' :=
  mX_if_eq d_J0_indexOf_7cf53_4 rfl
theorem b_J0_indexOf_7cf53_7 {x1 x2 : Int32} {h h' : mn_H} {r : Option Value} : mn_E 183 7 [.ref 75, .int x1, .int x2] [] h r h' ↔ ∃ x h1, mn_X 185 [.ref 75] h (some (.int x)) h1 ∧ mn_E 183 17 [.ref 75, .int x1, .int x2] [.int x, .int x2, .int x1, .ref 76] h1 r h' :=
  (mX_aload_n d_J0_indexOf_7cf53_7 rfl).trans <| (mX_getv d_J0_indexOf_7cf53_8 mo_183 fs_0).trans <| (mX_iload_n d_J0_indexOf_7cf53_11 rfl).trans <| (mX_iload_n d_J0_indexOf_7cf53_12 rfl).trans <| (mX_aload_n d_J0_indexOf_7cf53_13 rfl).trans <| mV_i (a := 75) (vs := []) (st' := [.int x2, .int x1, .ref 76]) d_J0_indexOf_7cf53_14 cv_183_505 (Or.inl rfl) (Nat.le_of_ble_eq_true rfl) rfl rfl rfl rfl
theorem b_J0_indexOf_7cf53_17 {x1 x2 s0 s1 s2 : Int32} {h h' : mn_H} {r : Option Value} : mn_E 183 17 [.ref 75, .int x1, .int x2] [.int s0, .int s1, .int s2, .ref 76] h r h' ↔ ∃ x h1, mn_X 188 [.ref 76, .int s2, .int s1, .int s0] h (some (.int x)) h1 ∧ mn_E 183 20 [.ref 75, .int x1, .int x2] [.int x] h1 r h' :=
  mS_i (vs := [.ref 76, .int s2, .int s1, .int s0]) (st' := []) d_J0_indexOf_7cf53_17 cs_183_637 (Or.inl rfl) (Nat.le_of_ble_eq_true rfl) rfl rfl rfl
theorem b_J0_indexOf_7cf53_20 {x1 x2 s0 : Int32} {h h' : mn_H} {r : Option Value} : mn_E 183 20 [.ref 75, .int x1, .int x2] [.int s0] h r h' ↔ mn_E 183 36 [.ref 75, .int x1, .int x2] [.int s0] h r h' :=
  mX_goto d_J0_indexOf_7cf53_20 rfl
theorem b_J0_indexOf_7cf53_23 {x1 x2 : Int32} {h h' : mn_H} {r : Option Value} : mn_E 183 23 [.ref 75, .int x1, .int x2] [] h r h' ↔ ∃ x h1, mn_X 185 [.ref 75] h (some (.int x)) h1 ∧ mn_E 183 33 [.ref 75, .int x1, .int x2] [.int x, .int x2, .int x1, .ref 76] h1 r h' :=
  (mX_aload_n d_J0_indexOf_7cf53_23 rfl).trans <| (mX_getv d_J0_indexOf_7cf53_24 mo_183 fs_0).trans <| (mX_iload_n d_J0_indexOf_7cf53_27 rfl).trans <| (mX_iload_n d_J0_indexOf_7cf53_28 rfl).trans <| (mX_aload_n d_J0_indexOf_7cf53_29 rfl).trans <| mV_i (a := 75) (vs := []) (st' := [.int x2, .int x1, .ref 76]) d_J0_indexOf_7cf53_30 cv_183_505 (Or.inl rfl) (Nat.le_of_ble_eq_true rfl) rfl rfl rfl rfl
theorem b_J0_indexOf_7cf53_36 {x1 x2 s0 : Int32} {h h' : mn_H} {r : Option Value} : mn_E 183 36 [.ref 75, .int x1, .int x2] [.int s0] h r h' ↔ r = some (.int s0) ∧ h' = h :=
  mX_iret d_J0_indexOf_7cf53_36 rfl
-- J0_isLatin1_aae02
theorem mo_184 : mO 184 = 9 := rfl
theorem d_J0_isLatin1_aae02_0 : decode (mC 184) 0 = .ok (.getstatic 38, 3) := by decide +kernel
theorem d_J0_isLatin1_aae02_3 : decode (mC 184) 3 = .ok (.ifCond .eq 14, 3) := by decide +kernel
theorem d_J0_isLatin1_aae02_6 : decode (mC 184) 6 = .ok (.aload_n 0, 1) := by decide +kernel
theorem d_J0_isLatin1_aae02_7 : decode (mC 184) 7 = .ok (.getfield 15, 3) := by decide +kernel
theorem d_J0_isLatin1_aae02_10 : decode (mC 184) 10 = .ok (.ifCond .ne 7, 3) := by decide +kernel
theorem d_J0_isLatin1_aae02_13 : decode (mC 184) 13 = .ok (.iconst 1, 1) := by decide +kernel
theorem d_J0_isLatin1_aae02_14 : decode (mC 184) 14 = .ok (.goto 4, 3) := by decide +kernel
theorem d_J0_isLatin1_aae02_17 : decode (mC 184) 17 = .ok (.iconst 0, 1) := by decide +kernel
theorem d_J0_isLatin1_aae02_18 : decode (mC 184) 18 = .ok (.ireturn, 1) := by decide +kernel
theorem b_J0_isLatin1_aae02_0 {h h' : mn_H} {r : Option Value} : mn_E 184 0 [.ref 75] [] h r h' ↔ if (1 : Int32) = 0 then mn_E 184 17 [.ref 75] [] h r h' else mn_E 184 6 [.ref 75] [] h r h' :=
  (mX_gstC d_J0_isLatin1_aae02_0 mo_184 ⟨rfl, rfl⟩).trans <| mX_if_eq d_J0_isLatin1_aae02_3 rfl
theorem b_J0_isLatin1_aae02_6 {h h' : mn_H} {r : Option Value} : mn_E 184 6 [.ref 75] [] h r h' ↔ if ¬ (0 : Int32) = 0 then mn_E 184 17 [.ref 75] [] h r h' else mn_E 184 13 [.ref 75] [] h r h' :=
  (mX_aload_n d_J0_isLatin1_aae02_6 rfl).trans <| (mX_getc d_J0_isLatin1_aae02_7 mo_184 fs_1).trans <| mX_if_ne d_J0_isLatin1_aae02_10 rfl
theorem b_J0_isLatin1_aae02_13 {h h' : mn_H} {r : Option Value} : mn_E 184 13 [.ref 75] [] h r h' ↔ mn_E 184 18 [.ref 75] [.int 1] h r h' :=
  (mX_iconst d_J0_isLatin1_aae02_13 ci_1).trans <| mX_goto d_J0_isLatin1_aae02_14 rfl
theorem b_J0_isLatin1_aae02_17 {h h' : mn_H} {r : Option Value} : mn_E 184 17 [.ref 75] [] h r h' ↔ mn_E 184 18 [.ref 75] [.int 0] h r h' :=
  mX_iconst d_J0_isLatin1_aae02_17 ci_0
theorem b_J0_isLatin1_aae02_18 {s0 : Int32} {h h' : mn_H} {r : Option Value} (hy0 : s0 = 0 ∨ s0 = 1) : mn_E 184 18 [.ref 75] [.int s0] h r h' ↔ r = some (.int s0) ∧ h' = h :=
  mX_zret d_J0_isLatin1_aae02_18 rfl hy0
-- J0_length_8abf5
theorem mo_185 : mO 185 = 9 := rfl
theorem d_J0_length_8abf5_0 : decode (mC 185) 0 = .ok (.aload_n 0, 1) := by decide +kernel
theorem d_J0_length_8abf5_1 : decode (mC 185) 1 = .ok (.getfield 9, 3) := by decide +kernel
theorem d_J0_length_8abf5_4 : decode (mC 185) 4 = .ok (.arraylength, 1) := by decide +kernel
theorem d_J0_length_8abf5_5 : decode (mC 185) 5 = .ok (.aload_n 0, 1) := by decide +kernel
theorem d_J0_length_8abf5_6 : decode (mC 185) 6 = .ok (.invokevirtual 335, 3) := by decide +kernel
theorem d_J0_length_8abf5_9 : decode (mC 185) 9 = .ok (.ishr, 1) := by decide +kernel
theorem d_J0_length_8abf5_10 : decode (mC 185) 10 = .ok (.ireturn, 1) := by decide +kernel
theorem cv_185_335 : mn_cvt 185 9 335 186 = true := by decide +kernel
theorem b_J0_length_8abf5_0 {h h' : mn_H} {r : Option Value} : mn_E 185 0 [.ref 75] [] h r h' ↔ ∃ x h1, mn_X 186 [.ref 75] h (some (.int x)) h1 ∧ mn_E 185 9 [.ref 75] [.int x, .int 5] h1 r h' :=
  (mX_aload_n d_J0_length_8abf5_0 rfl).trans <| (mX_getv d_J0_length_8abf5_1 mo_185 fs_0).trans <| (mX_alen (n := 5) (v := 5) d_J0_length_8abf5_4 rfl (Or.inr rfl) rfl).trans <| (mX_aload_n d_J0_length_8abf5_5 rfl).trans <| mV_i (a := 75) (vs := []) (st' := [.int 5]) d_J0_length_8abf5_6 cv_185_335 (Or.inr (Or.inr rfl)) (Nat.le_of_ble_eq_true rfl) rfl rfl rfl rfl
theorem b_J0_length_8abf5_9 {s0 s1 : Int32} {h h' : mn_H} {r : Option Value} : mn_E 185 9 [.ref 75] [.int s0, .int s1] h r h' ↔ r = some (.int (s1 >>> (s0 &&& 31))) ∧ h' = h :=
  (mX_ishr d_J0_length_8abf5_9).trans <| mX_iret d_J0_length_8abf5_10 rfl
-- J0_coder_7d493
theorem mo_186 : mO 186 = 9 := rfl
theorem d_J0_coder_7d493_0 : decode (mC 186) 0 = .ok (.getstatic 38, 3) := by decide +kernel
theorem d_J0_coder_7d493_3 : decode (mC 186) 3 = .ok (.ifCond .eq 10, 3) := by decide +kernel
theorem d_J0_coder_7d493_6 : decode (mC 186) 6 = .ok (.aload_n 0, 1) := by decide +kernel
theorem d_J0_coder_7d493_7 : decode (mC 186) 7 = .ok (.getfield 15, 3) := by decide +kernel
theorem d_J0_coder_7d493_10 : decode (mC 186) 10 = .ok (.goto 4, 3) := by decide +kernel
theorem d_J0_coder_7d493_13 : decode (mC 186) 13 = .ok (.iconst 1, 1) := by decide +kernel
theorem d_J0_coder_7d493_14 : decode (mC 186) 14 = .ok (.ireturn, 1) := by decide +kernel
theorem b_J0_coder_7d493_0 {h h' : mn_H} {r : Option Value} : mn_E 186 0 [.ref 75] [] h r h' ↔ if (1 : Int32) = 0 then mn_E 186 13 [.ref 75] [] h r h' else mn_E 186 6 [.ref 75] [] h r h' :=
  (mX_gstC d_J0_coder_7d493_0 mo_186 ⟨rfl, rfl⟩).trans <| mX_if_eq d_J0_coder_7d493_3 rfl
theorem b_J0_coder_7d493_6 {h h' : mn_H} {r : Option Value} : mn_E 186 6 [.ref 75] [] h r h' ↔ mn_E 186 14 [.ref 75] [.int 0] h r h' :=
  (mX_aload_n d_J0_coder_7d493_6 rfl).trans <| (mX_getc d_J0_coder_7d493_7 mo_186 fs_1).trans <| mX_goto d_J0_coder_7d493_10 rfl
theorem b_J0_coder_7d493_13 {h h' : mn_H} {r : Option Value} : mn_E 186 13 [.ref 75] [] h r h' ↔ mn_E 186 14 [.ref 75] [.int 1] h r h' :=
  mX_iconst d_J0_coder_7d493_13 ci_1
theorem b_J0_coder_7d493_14 {s0 : Int32} {h h' : mn_H} {r : Option Value} (hy0 : s0 = 0) : mn_E 186 14 [.ref 75] [.int s0] h r h' ↔ r = some (.int s0) ∧ h' = h :=
  mX_bret d_J0_coder_7d493_14 rfl hy0
-- J1_canEncode_9a6ad
theorem mo_187 : mO 187 = 10 := rfl
theorem d_J1_canEncode_9a6ad_0 : decode (mC 187) 0 = .ok (.iload_n 0, 1) := by decide +kernel
theorem d_J1_canEncode_9a6ad_1 : decode (mC 187) 1 = .ok (.ifCond .lt 14, 3) := by decide +kernel
theorem d_J1_canEncode_9a6ad_4 : decode (mC 187) 4 = .ok (.iload_n 0, 1) := by decide +kernel
theorem d_J1_canEncode_9a6ad_5 : decode (mC 187) 5 = .ok (.sipush 255, 3) := by decide +kernel
theorem d_J1_canEncode_9a6ad_8 : decode (mC 187) 8 = .ok (.if_icmp .gt 7, 3) := by decide +kernel
theorem d_J1_canEncode_9a6ad_11 : decode (mC 187) 11 = .ok (.iconst 1, 1) := by decide +kernel
theorem d_J1_canEncode_9a6ad_12 : decode (mC 187) 12 = .ok (.goto 4, 3) := by decide +kernel
theorem d_J1_canEncode_9a6ad_15 : decode (mC 187) 15 = .ok (.iconst 0, 1) := by decide +kernel
theorem d_J1_canEncode_9a6ad_16 : decode (mC 187) 16 = .ok (.ireturn, 1) := by decide +kernel
theorem b_J1_canEncode_9a6ad_0 {x0 : Int32} {h h' : mn_H} {r : Option Value} : mn_E 187 0 [.int x0] [] h r h' ↔ if x0 < 0 then mn_E 187 15 [.int x0] [] h r h' else mn_E 187 4 [.int x0] [] h r h' :=
  (mX_iload_n d_J1_canEncode_9a6ad_0 rfl).trans <| mX_if_lt d_J1_canEncode_9a6ad_1 rfl
theorem b_J1_canEncode_9a6ad_4 {x0 : Int32} {h h' : mn_H} {r : Option Value} : mn_E 187 4 [.int x0] [] h r h' ↔ if (255 : Int32) < x0 then mn_E 187 15 [.int x0] [] h r h' else mn_E 187 11 [.int x0] [] h r h' :=
  (mX_iload_n d_J1_canEncode_9a6ad_4 rfl).trans <| (mX_sipush d_J1_canEncode_9a6ad_5 cs_255).trans <| mX_icmp_gt d_J1_canEncode_9a6ad_8 rfl
theorem b_J1_canEncode_9a6ad_11 {x0 : Int32} {h h' : mn_H} {r : Option Value} : mn_E 187 11 [.int x0] [] h r h' ↔ mn_E 187 16 [.int x0] [.int 1] h r h' :=
  (mX_iconst d_J1_canEncode_9a6ad_11 ci_1).trans <| mX_goto d_J1_canEncode_9a6ad_12 rfl
theorem b_J1_canEncode_9a6ad_15 {x0 : Int32} {h h' : mn_H} {r : Option Value} : mn_E 187 15 [.int x0] [] h r h' ↔ mn_E 187 16 [.int x0] [.int 0] h r h' :=
  mX_iconst d_J1_canEncode_9a6ad_15 ci_0
theorem b_J1_canEncode_9a6ad_16 {x0 s0 : Int32} {h h' : mn_H} {r : Option Value} (hy0 : s0 = 0 ∨ s0 = 1) : mn_E 187 16 [.int x0] [.int s0] h r h' ↔ r = some (.int s0) ∧ h' = h :=
  mX_zret d_J1_canEncode_9a6ad_16 rfl hy0
-- J1_indexOf_4cfef
theorem mo_188 : mO 188 = 10 := rfl
theorem d_J1_indexOf_4cfef_0 : decode (mC 188) 0 = .ok (.iload_n 1, 1) := by decide +kernel
theorem d_J1_indexOf_4cfef_1 : decode (mC 188) 1 = .ok (.invokestatic 88, 3) := by decide +kernel
theorem d_J1_indexOf_4cfef_4 : decode (mC 188) 4 = .ok (.ifCond .ne 5, 3) := by decide +kernel
theorem d_J1_indexOf_4cfef_7 : decode (mC 188) 7 = .ok (.iconst (-1), 1) := by decide +kernel
theorem d_J1_indexOf_4cfef_8 : decode (mC 188) 8 = .ok (.ireturn, 1) := by decide +kernel
theorem d_J1_indexOf_4cfef_9 : decode (mC 188) 9 = .ok (.iload_n 2, 1) := by decide +kernel
theorem d_J1_indexOf_4cfef_10 : decode (mC 188) 10 = .ok (.iconst 0, 1) := by decide +kernel
theorem d_J1_indexOf_4cfef_11 : decode (mC 188) 11 = .ok (.invokestatic 92, 3) := by decide +kernel
theorem d_J1_indexOf_4cfef_14 : decode (mC 188) 14 = .ok (.istore_n 2, 1) := by decide +kernel
theorem d_J1_indexOf_4cfef_15 : decode (mC 188) 15 = .ok (.iload_n 3, 1) := by decide +kernel
theorem d_J1_indexOf_4cfef_16 : decode (mC 188) 16 = .ok (.aload_n 0, 1) := by decide +kernel
theorem d_J1_indexOf_4cfef_17 : decode (mC 188) 17 = .ok (.arraylength, 1) := by decide +kernel
theorem d_J1_indexOf_4cfef_18 : decode (mC 188) 18 = .ok (.invokestatic 38, 3) := by decide +kernel
theorem d_J1_indexOf_4cfef_21 : decode (mC 188) 21 = .ok (.istore_n 3, 1) := by decide +kernel
theorem d_J1_indexOf_4cfef_22 : decode (mC 188) 22 = .ok (.iload_n 2, 1) := by decide +kernel
theorem d_J1_indexOf_4cfef_23 : decode (mC 188) 23 = .ok (.iload_n 3, 1) := by decide +kernel
theorem d_J1_indexOf_4cfef_24 : decode (mC 188) 24 = .ok (.if_icmp .lt 5, 3) := by decide +kernel
theorem d_J1_indexOf_4cfef_27 : decode (mC 188) 27 = .ok (.iconst (-1), 1) := by decide +kernel
theorem d_J1_indexOf_4cfef_28 : decode (mC 188) 28 = .ok (.ireturn, 1) := by decide +kernel
theorem d_J1_indexOf_4cfef_29 : decode (mC 188) 29 = .ok (.aload_n 0, 1) := by decide +kernel
theorem d_J1_indexOf_4cfef_30 : decode (mC 188) 30 = .ok (.iload_n 1, 1) := by decide +kernel
theorem d_J1_indexOf_4cfef_31 : decode (mC 188) 31 = .ok (.iload_n 2, 1) := by decide +kernel
theorem d_J1_indexOf_4cfef_32 : decode (mC 188) 32 = .ok (.iload_n 3, 1) := by decide +kernel
theorem d_J1_indexOf_4cfef_33 : decode (mC 188) 33 = .ok (.invokestatic 95, 3) := by decide +kernel
theorem d_J1_indexOf_4cfef_36 : decode (mC 188) 36 = .ok (.ireturn, 1) := by decide +kernel
theorem cs_188_88 : mn_cs 188 10 88 187 = true := by decide +kernel
theorem ma_10_92 : mn_ml 10 92 = none ∧ mn_nl 10 92 = none ∧ mn_ma 10 92 = some 0 := by decide +kernel
theorem ma_10_38 : mn_ml 10 38 = none ∧ mn_nl 10 38 = none ∧ mn_ma 10 38 = some 1 := by decide +kernel
theorem cs_188_95 : mn_cs 188 10 95 189 = true := by decide +kernel
theorem b_J1_indexOf_4cfef_0 {x1 x2 x3 : Int32} {h h' : mn_H} {r : Option Value} : mn_E 188 0 [.ref 76, .int x1, .int x2, .int x3] [] h r h' ↔ ∃ x h1, mn_X 187 [.int x1] h (some (.int x)) h1 ∧ mn_E 188 4 [.ref 76, .int x1, .int x2, .int x3] [.int x] h1 r h' :=
  (mX_iload_n d_J1_indexOf_4cfef_0 rfl).trans <| mS_i (vs := [.int x1]) (st' := []) d_J1_indexOf_4cfef_1 cs_188_88 (Or.inr (Or.inl rfl)) (Nat.le_of_ble_eq_true rfl) rfl rfl rfl
theorem b_J1_indexOf_4cfef_4 {x1 x2 x3 s0 : Int32} {h h' : mn_H} {r : Option Value} : mn_E 188 4 [.ref 76, .int x1, .int x2, .int x3] [.int s0] h r h' ↔ if ¬ s0 = 0 then mn_E 188 9 [.ref 76, .int x1, .int x2, .int x3] [] h r h' else mn_E 188 7 [.ref 76, .int x1, .int x2, .int x3] [] h r h' :=
  mX_if_ne d_J1_indexOf_4cfef_4 rfl
theorem b_J1_indexOf_4cfef_7 {x1 x2 x3 : Int32} {h h' : mn_H} {r : Option Value} : mn_E 188 7 [.ref 76, .int x1, .int x2, .int x3] [] h r h' ↔ r = some (.int (-1)) ∧ h' = h :=
  (mX_iconst d_J1_indexOf_4cfef_7 ci_m1).trans <| mX_iret d_J1_indexOf_4cfef_8 rfl
theorem b_J1_indexOf_4cfef_9 {x1 x2 x3 : Int32} {h h' : mn_H} {r : Option Value} : mn_E 188 9 [.ref 76, .int x1, .int x2, .int x3] [] h r h' ↔ if (if x2 < 0 then 0 else x2) < (if (5 : Int32) < x3 then 5 else x3) then mn_E 188 29 [.ref 76, .int x1, .int (if x2 < 0 then 0 else x2), .int (if (5 : Int32) < x3 then 5 else x3)] [] h r h' else mn_E 188 27 [.ref 76, .int x1, .int (if x2 < 0 then 0 else x2), .int (if (5 : Int32) < x3 then 5 else x3)] [] h r h' :=
  (mX_iload_n d_J1_indexOf_4cfef_9 rfl).trans <| (mX_iconst d_J1_indexOf_4cfef_10 ci_0).trans <| (mX_max d_J1_indexOf_4cfef_11 mo_188 ma_10_92 (by decide)).trans <| (mX_istore_n (ls' := [.ref 76, .int x1, .int (if x2 < 0 then 0 else x2), .int x3]) d_J1_indexOf_4cfef_14 rfl rfl).trans <| (mX_iload_n d_J1_indexOf_4cfef_15 rfl).trans <| (mX_aload_n d_J1_indexOf_4cfef_16 rfl).trans <| (mX_alen (n := 5) (v := 5) d_J1_indexOf_4cfef_17 rfl (Or.inr rfl) rfl).trans <| (mX_min d_J1_indexOf_4cfef_18 mo_188 ma_10_38 (by decide)).trans <| (mX_istore_n (ls' := [.ref 76, .int x1, .int (if x2 < 0 then 0 else x2), .int (if (5 : Int32) < x3 then 5 else x3)]) d_J1_indexOf_4cfef_21 rfl rfl).trans <| (mX_iload_n d_J1_indexOf_4cfef_22 rfl).trans <| (mX_iload_n d_J1_indexOf_4cfef_23 rfl).trans <| mX_icmp_lt d_J1_indexOf_4cfef_24 rfl
theorem b_J1_indexOf_4cfef_27 {x1 x2 x3 : Int32} {h h' : mn_H} {r : Option Value} : mn_E 188 27 [.ref 76, .int x1, .int x2, .int x3] [] h r h' ↔ r = some (.int (-1)) ∧ h' = h :=
  (mX_iconst d_J1_indexOf_4cfef_27 ci_m1).trans <| mX_iret d_J1_indexOf_4cfef_28 rfl
theorem b_J1_indexOf_4cfef_29 {x1 x2 x3 : Int32} {h h' : mn_H} {r : Option Value} : mn_E 188 29 [.ref 76, .int x1, .int x2, .int x3] [] h r h' ↔ ∃ x h1, mn_X 189 [.ref 76, .int x1, .int x2, .int x3] h (some (.int x)) h1 ∧ mn_E 188 36 [.ref 76, .int x1, .int x2, .int x3] [.int x] h1 r h' :=
  (mX_aload_n d_J1_indexOf_4cfef_29 rfl).trans <| (mX_iload_n d_J1_indexOf_4cfef_30 rfl).trans <| (mX_iload_n d_J1_indexOf_4cfef_31 rfl).trans <| (mX_iload_n d_J1_indexOf_4cfef_32 rfl).trans <| mS_i (vs := [.ref 76, .int x1, .int x2, .int x3]) (st' := []) d_J1_indexOf_4cfef_33 cs_188_95 (Or.inl rfl) (Nat.le_of_ble_eq_true rfl) rfl rfl rfl
theorem b_J1_indexOf_4cfef_36 {x1 x2 x3 s0 : Int32} {h h' : mn_H} {r : Option Value} : mn_E 188 36 [.ref 76, .int x1, .int x2, .int x3] [.int s0] h r h' ↔ r = some (.int s0) ∧ h' = h :=
  mX_iret d_J1_indexOf_4cfef_36 rfl
-- J1_indexOfChar_4cfef
theorem mo_189 : mO 189 = 10 := rfl
theorem d_J1_indexOfChar_4cfef_0 : decode (mC 189) 0 = .ok (.iload_n 1, 1) := by decide +kernel
theorem d_J1_indexOfChar_4cfef_1 : decode (mC 189) 1 = .ok (.i2b, 1) := by decide +kernel
theorem d_J1_indexOfChar_4cfef_2 : decode (mC 189) 2 = .ok (.istore 4, 2) := by decide +kernel
theorem d_J1_indexOfChar_4cfef_4 : decode (mC 189) 4 = .ok (.iload_n 2, 1) := by decide +kernel
theorem d_J1_indexOfChar_4cfef_5 : decode (mC 189) 5 = .ok (.istore 5, 2) := by decide +kernel
theorem d_J1_indexOfChar_4cfef_7 : decode (mC 189) 7 = .ok (.iload 5, 2) := by decide +kernel
theorem d_J1_indexOfChar_4cfef_9 : decode (mC 189) 9 = .ok (.iload_n 3, 1) := by decide +kernel
theorem d_J1_indexOfChar_4cfef_10 : decode (mC 189) 10 = .ok (.if_icmp .ge 21, 3) := by decide +kernel
theorem d_J1_indexOfChar_4cfef_13 : decode (mC 189) 13 = .ok (.aload_n 0, 1) := by decide +kernel
theorem d_J1_indexOfChar_4cfef_14 : decode (mC 189) 14 = .ok (.iload 5, 2) := by decide +kernel
theorem d_J1_indexOfChar_4cfef_16 : decode (mC 189) 16 = .ok (.baload, 1) := by decide +kernel
theorem d_J1_indexOfChar_4cfef_17 : decode (mC 189) 17 = .ok (.iload 4, 2) := by decide +kernel
theorem d_J1_indexOfChar_4cfef_19 : decode (mC 189) 19 = .ok (.if_icmp .ne 6, 3) := by decide +kernel
theorem d_J1_indexOfChar_4cfef_22 : decode (mC 189) 22 = .ok (.iload 5, 2) := by decide +kernel
theorem d_J1_indexOfChar_4cfef_24 : decode (mC 189) 24 = .ok (.ireturn, 1) := by decide +kernel
theorem d_J1_indexOfChar_4cfef_25 : decode (mC 189) 25 = .ok (.iinc 5 1, 3) := by decide +kernel
theorem d_J1_indexOfChar_4cfef_28 : decode (mC 189) 28 = .ok (.goto (-21), 3) := by decide +kernel
theorem d_J1_indexOfChar_4cfef_31 : decode (mC 189) 31 = .ok (.iconst (-1), 1) := by decide +kernel
theorem d_J1_indexOfChar_4cfef_32 : decode (mC 189) 32 = .ok (.ireturn, 1) := by decide +kernel
theorem b_J1_indexOfChar_4cfef_0 {x1 x2 x3 : Int32} {h h' : mn_H} {r : Option Value} : mn_E 189 0 [.ref 76, .int x1, .int x2, .int x3, .null, .null] [] h r h' ↔ mn_E 189 7 [.ref 76, .int x1, .int x2, .int x3, .int (x1).toInt8.toInt32, .int x2] [] h r h' :=
  (mX_iload_n d_J1_indexOfChar_4cfef_0 rfl).trans <| (mX_i2b d_J1_indexOfChar_4cfef_1).trans <| (mX_istore (ls' := [.ref 76, .int x1, .int x2, .int x3, .int (x1).toInt8.toInt32, .null]) d_J1_indexOfChar_4cfef_2 rfl rfl).trans <| (mX_iload_n d_J1_indexOfChar_4cfef_4 rfl).trans <| mX_istore (ls' := [.ref 76, .int x1, .int x2, .int x3, .int (x1).toInt8.toInt32, .int x2]) d_J1_indexOfChar_4cfef_5 rfl rfl
theorem b_J1_indexOfChar_4cfef_7 {x1 x2 x3 x4 x5 : Int32} {h h' : mn_H} {r : Option Value} : mn_E 189 7 [.ref 76, .int x1, .int x2, .int x3, .int x4, .int x5] [] h r h' ↔ if x3 ≤ x5 then mn_E 189 31 [.ref 76, .int x1, .int x2, .int x3, .int x4, .int x5] [] h r h' else mn_E 189 13 [.ref 76, .int x1, .int x2, .int x3, .int x4, .int x5] [] h r h' :=
  (mX_iload d_J1_indexOfChar_4cfef_7 rfl).trans <| (mX_iload_n d_J1_indexOfChar_4cfef_9 rfl).trans <| mX_icmp_ge d_J1_indexOfChar_4cfef_10 rfl
theorem b_J1_indexOfChar_4cfef_13 {x1 x2 x3 x4 x5 : Int32} {h h' : mn_H} {r : Option Value} (hy0 : vp_in x5 5) : mn_E 189 13 [.ref 76, .int x1, .int x2, .int x3, .int x4, .int x5] [] h r h' ↔ if ¬ (mn_byt x5.toNatClampNeg) = x4 then mn_E 189 25 [.ref 76, .int x1, .int x2, .int x3, .int x4, .int x5] [] h r h' else mn_E 189 22 [.ref 76, .int x1, .int x2, .int x3, .int x4, .int x5] [] h r h' :=
  (mX_aload_n d_J1_indexOfChar_4cfef_13 rfl).trans <| (mX_iload d_J1_indexOfChar_4cfef_14 rfl).trans <| (mX_baloadB d_J1_indexOfChar_4cfef_16 hy0).trans <| (mX_iload d_J1_indexOfChar_4cfef_17 rfl).trans <| mX_icmp_ne d_J1_indexOfChar_4cfef_19 rfl
theorem b_J1_indexOfChar_4cfef_22 {x1 x2 x3 x4 x5 : Int32} {h h' : mn_H} {r : Option Value} : mn_E 189 22 [.ref 76, .int x1, .int x2, .int x3, .int x4, .int x5] [] h r h' ↔ r = some (.int x5) ∧ h' = h :=
  (mX_iload d_J1_indexOfChar_4cfef_22 rfl).trans <| mX_iret d_J1_indexOfChar_4cfef_24 rfl
theorem b_J1_indexOfChar_4cfef_25 {x1 x2 x3 x4 x5 : Int32} {h h' : mn_H} {r : Option Value} : mn_E 189 25 [.ref 76, .int x1, .int x2, .int x3, .int x4, .int x5] [] h r h' ↔ mn_E 189 7 [.ref 76, .int x1, .int x2, .int x3, .int x4, .int (x5 + 1)] [] h r h' :=
  (mX_iinc (ls' := [.ref 76, .int x1, .int x2, .int x3, .int x4, .int (x5 + 1)]) d_J1_indexOfChar_4cfef_25 rfl ci_1 rfl rfl).trans <| mX_goto d_J1_indexOfChar_4cfef_28 rfl
theorem b_J1_indexOfChar_4cfef_31 {x1 x2 x3 x4 x5 : Int32} {h h' : mn_H} {r : Option Value} : mn_E 189 31 [.ref 76, .int x1, .int x2, .int x3, .int x4, .int x5] [] h r h' ↔ r = some (.int (-1)) ∧ h' = h :=
  (mX_iconst d_J1_indexOfChar_4cfef_31 ci_m1).trans <| mX_iret d_J1_indexOfChar_4cfef_32 rfl
-- J6_bitCount_0f7a4
theorem mo_190 : mO 190 = 11 := rfl
theorem d_J6_bitCount_0f7a4_0 : decode (mC 190) 0 = .ok (.iload_n 0, 1) := by decide +kernel
theorem d_J6_bitCount_0f7a4_1 : decode (mC 190) 1 = .ok (.iload_n 0, 1) := by decide +kernel
theorem d_J6_bitCount_0f7a4_2 : decode (mC 190) 2 = .ok (.iconst 1, 1) := by decide +kernel
theorem d_J6_bitCount_0f7a4_3 : decode (mC 190) 3 = .ok (.iushr, 1) := by decide +kernel
theorem d_J6_bitCount_0f7a4_4 : decode (mC 190) 4 = .ok (.ldc_w 265, 3) := by decide +kernel
theorem d_J6_bitCount_0f7a4_7 : decode (mC 190) 7 = .ok (.iand, 1) := by decide +kernel
theorem d_J6_bitCount_0f7a4_8 : decode (mC 190) 8 = .ok (.isub, 1) := by decide +kernel
theorem d_J6_bitCount_0f7a4_9 : decode (mC 190) 9 = .ok (.istore_n 0, 1) := by decide +kernel
theorem d_J6_bitCount_0f7a4_10 : decode (mC 190) 10 = .ok (.iload_n 0, 1) := by decide +kernel
theorem d_J6_bitCount_0f7a4_11 : decode (mC 190) 11 = .ok (.ldc_w 266, 3) := by decide +kernel
theorem d_J6_bitCount_0f7a4_14 : decode (mC 190) 14 = .ok (.iand, 1) := by decide +kernel
theorem d_J6_bitCount_0f7a4_15 : decode (mC 190) 15 = .ok (.iload_n 0, 1) := by decide +kernel
theorem d_J6_bitCount_0f7a4_16 : decode (mC 190) 16 = .ok (.iconst 2, 1) := by decide +kernel
theorem d_J6_bitCount_0f7a4_17 : decode (mC 190) 17 = .ok (.iushr, 1) := by decide +kernel
theorem d_J6_bitCount_0f7a4_18 : decode (mC 190) 18 = .ok (.ldc_w 266, 3) := by decide +kernel
theorem d_J6_bitCount_0f7a4_21 : decode (mC 190) 21 = .ok (.iand, 1) := by decide +kernel
theorem d_J6_bitCount_0f7a4_22 : decode (mC 190) 22 = .ok (.iadd, 1) := by decide +kernel
theorem d_J6_bitCount_0f7a4_23 : decode (mC 190) 23 = .ok (.istore_n 0, 1) := by decide +kernel
theorem d_J6_bitCount_0f7a4_24 : decode (mC 190) 24 = .ok (.iload_n 0, 1) := by decide +kernel
theorem d_J6_bitCount_0f7a4_25 : decode (mC 190) 25 = .ok (.iload_n 0, 1) := by decide +kernel
theorem d_J6_bitCount_0f7a4_26 : decode (mC 190) 26 = .ok (.iconst 4, 1) := by decide +kernel
theorem d_J6_bitCount_0f7a4_27 : decode (mC 190) 27 = .ok (.iushr, 1) := by decide +kernel
theorem d_J6_bitCount_0f7a4_28 : decode (mC 190) 28 = .ok (.iadd, 1) := by decide +kernel
theorem d_J6_bitCount_0f7a4_29 : decode (mC 190) 29 = .ok (.ldc_w 267, 3) := by decide +kernel
theorem d_J6_bitCount_0f7a4_32 : decode (mC 190) 32 = .ok (.iand, 1) := by decide +kernel
theorem d_J6_bitCount_0f7a4_33 : decode (mC 190) 33 = .ok (.istore_n 0, 1) := by decide +kernel
theorem d_J6_bitCount_0f7a4_34 : decode (mC 190) 34 = .ok (.iload_n 0, 1) := by decide +kernel
theorem d_J6_bitCount_0f7a4_35 : decode (mC 190) 35 = .ok (.iload_n 0, 1) := by decide +kernel
theorem d_J6_bitCount_0f7a4_36 : decode (mC 190) 36 = .ok (.bipush 8, 2) := by decide +kernel
theorem d_J6_bitCount_0f7a4_38 : decode (mC 190) 38 = .ok (.iushr, 1) := by decide +kernel
theorem d_J6_bitCount_0f7a4_39 : decode (mC 190) 39 = .ok (.iadd, 1) := by decide +kernel
theorem d_J6_bitCount_0f7a4_40 : decode (mC 190) 40 = .ok (.istore_n 0, 1) := by decide +kernel
theorem d_J6_bitCount_0f7a4_41 : decode (mC 190) 41 = .ok (.iload_n 0, 1) := by decide +kernel
theorem d_J6_bitCount_0f7a4_42 : decode (mC 190) 42 = .ok (.iload_n 0, 1) := by decide +kernel
theorem d_J6_bitCount_0f7a4_43 : decode (mC 190) 43 = .ok (.bipush 16, 2) := by decide +kernel
theorem d_J6_bitCount_0f7a4_45 : decode (mC 190) 45 = .ok (.iushr, 1) := by decide +kernel
theorem d_J6_bitCount_0f7a4_46 : decode (mC 190) 46 = .ok (.iadd, 1) := by decide +kernel
theorem d_J6_bitCount_0f7a4_47 : decode (mC 190) 47 = .ok (.istore_n 0, 1) := by decide +kernel
theorem d_J6_bitCount_0f7a4_48 : decode (mC 190) 48 = .ok (.iload_n 0, 1) := by decide +kernel
theorem d_J6_bitCount_0f7a4_49 : decode (mC 190) 49 = .ok (.bipush 63, 2) := by decide +kernel
theorem d_J6_bitCount_0f7a4_51 : decode (mC 190) 51 = .ok (.iand, 1) := by decide +kernel
theorem d_J6_bitCount_0f7a4_52 : decode (mC 190) 52 = .ok (.ireturn, 1) := by decide +kernel
theorem b_J6_bitCount_0f7a4_0 {x0 : Int32} {h h' : mn_H} {r : Option Value} : mn_E 190 0 [.int x0] [] h r h' ↔ mn_E 190 10 [.int (x0 - (((x0).toUInt32 >>> ((1 : Int32).toUInt32 &&& Int32.toUInt32 31)).toInt32 &&& 1431655765))] [] h r h' :=
  (mX_iload_n d_J6_bitCount_0f7a4_0 rfl).trans <| (mX_iload_n d_J6_bitCount_0f7a4_1 rfl).trans <| (mX_iconst d_J6_bitCount_0f7a4_2 ci_1).trans <| (mX_iushr d_J6_bitCount_0f7a4_3).trans <| (mX_ldcw d_J6_bitCount_0f7a4_4 mo_190 kc_11_265).trans <| (mX_iand d_J6_bitCount_0f7a4_7).trans <| (mX_isub d_J6_bitCount_0f7a4_8).trans <| mX_istore_n (ls' := [.int (x0 - (((x0).toUInt32 >>> ((1 : Int32).toUInt32 &&& Int32.toUInt32 31)).toInt32 &&& 1431655765))]) d_J6_bitCount_0f7a4_9 rfl rfl
theorem b_J6_bitCount_0f7a4_10 {x0 : Int32} {h h' : mn_H} {r : Option Value} : mn_E 190 10 [.int x0] [] h r h' ↔ mn_E 190 24 [.int ((x0 &&& 858993459) + (((x0).toUInt32 >>> ((2 : Int32).toUInt32 &&& Int32.toUInt32 31)).toInt32 &&& 858993459))] [] h r h' :=
  (mX_iload_n d_J6_bitCount_0f7a4_10 rfl).trans <| (mX_ldcw d_J6_bitCount_0f7a4_11 mo_190 kc_11_266).trans <| (mX_iand d_J6_bitCount_0f7a4_14).trans <| (mX_iload_n d_J6_bitCount_0f7a4_15 rfl).trans <| (mX_iconst d_J6_bitCount_0f7a4_16 ci_2).trans <| (mX_iushr d_J6_bitCount_0f7a4_17).trans <| (mX_ldcw d_J6_bitCount_0f7a4_18 mo_190 kc_11_266).trans <| (mX_iand d_J6_bitCount_0f7a4_21).trans <| (mX_iadd d_J6_bitCount_0f7a4_22).trans <| mX_istore_n (ls' := [.int ((x0 &&& 858993459) + (((x0).toUInt32 >>> ((2 : Int32).toUInt32 &&& Int32.toUInt32 31)).toInt32 &&& 858993459))]) d_J6_bitCount_0f7a4_23 rfl rfl
theorem b_J6_bitCount_0f7a4_24 {x0 : Int32} {h h' : mn_H} {r : Option Value} : mn_E 190 24 [.int x0] [] h r h' ↔ mn_E 190 34 [.int ((x0 + ((x0).toUInt32 >>> ((4 : Int32).toUInt32 &&& Int32.toUInt32 31)).toInt32) &&& 252645135)] [] h r h' :=
  (mX_iload_n d_J6_bitCount_0f7a4_24 rfl).trans <| (mX_iload_n d_J6_bitCount_0f7a4_25 rfl).trans <| (mX_iconst d_J6_bitCount_0f7a4_26 ci_4).trans <| (mX_iushr d_J6_bitCount_0f7a4_27).trans <| (mX_iadd d_J6_bitCount_0f7a4_28).trans <| (mX_ldcw d_J6_bitCount_0f7a4_29 mo_190 kc_11_267).trans <| (mX_iand d_J6_bitCount_0f7a4_32).trans <| mX_istore_n (ls' := [.int ((x0 + ((x0).toUInt32 >>> ((4 : Int32).toUInt32 &&& Int32.toUInt32 31)).toInt32) &&& 252645135)]) d_J6_bitCount_0f7a4_33 rfl rfl
theorem b_J6_bitCount_0f7a4_34 {x0 : Int32} {h h' : mn_H} {r : Option Value} : mn_E 190 34 [.int x0] [] h r h' ↔ mn_E 190 41 [.int (x0 + ((x0).toUInt32 >>> ((8 : Int32).toUInt32 &&& Int32.toUInt32 31)).toInt32)] [] h r h' :=
  (mX_iload_n d_J6_bitCount_0f7a4_34 rfl).trans <| (mX_iload_n d_J6_bitCount_0f7a4_35 rfl).trans <| (mX_bipush d_J6_bitCount_0f7a4_36 cb_8).trans <| (mX_iushr d_J6_bitCount_0f7a4_38).trans <| (mX_iadd d_J6_bitCount_0f7a4_39).trans <| mX_istore_n (ls' := [.int (x0 + ((x0).toUInt32 >>> ((8 : Int32).toUInt32 &&& Int32.toUInt32 31)).toInt32)]) d_J6_bitCount_0f7a4_40 rfl rfl
theorem b_J6_bitCount_0f7a4_41 {x0 : Int32} {h h' : mn_H} {r : Option Value} : mn_E 190 41 [.int x0] [] h r h' ↔ mn_E 190 48 [.int (x0 + ((x0).toUInt32 >>> ((16 : Int32).toUInt32 &&& Int32.toUInt32 31)).toInt32)] [] h r h' :=
  (mX_iload_n d_J6_bitCount_0f7a4_41 rfl).trans <| (mX_iload_n d_J6_bitCount_0f7a4_42 rfl).trans <| (mX_bipush d_J6_bitCount_0f7a4_43 cb_16).trans <| (mX_iushr d_J6_bitCount_0f7a4_45).trans <| (mX_iadd d_J6_bitCount_0f7a4_46).trans <| mX_istore_n (ls' := [.int (x0 + ((x0).toUInt32 >>> ((16 : Int32).toUInt32 &&& Int32.toUInt32 31)).toInt32)]) d_J6_bitCount_0f7a4_47 rfl rfl
theorem b_J6_bitCount_0f7a4_48 {x0 : Int32} {h h' : mn_H} {r : Option Value} : mn_E 190 48 [.int x0] [] h r h' ↔ r = some (.int (x0 &&& 63)) ∧ h' = h :=
  (mX_iload_n d_J6_bitCount_0f7a4_48 rfl).trans <| (mX_bipush d_J6_bitCount_0f7a4_49 cb_63).trans <| (mX_iand d_J6_bitCount_0f7a4_51).trans <| mX_iret d_J6_bitCount_0f7a4_52 rfl
-- J13_bitCount_95d88
theorem mo_191 : mO 191 = 12 := rfl
theorem d_J13_bitCount_95d88_0 : decode (mC 191) 0 = .ok (.lload_n 0, 1) := by decide +kernel
theorem d_J13_bitCount_95d88_1 : decode (mC 191) 1 = .ok (.lload_n 0, 1) := by decide +kernel
theorem d_J13_bitCount_95d88_2 : decode (mC 191) 2 = .ok (.iconst 1, 1) := by decide +kernel
theorem d_J13_bitCount_95d88_3 : decode (mC 191) 3 = .ok (.lushr, 1) := by decide +kernel
theorem d_J13_bitCount_95d88_4 : decode (mC 191) 4 = .ok (.ldc2_w 314, 3) := by decide +kernel
theorem d_J13_bitCount_95d88_7 : decode (mC 191) 7 = .ok (.land, 1) := by decide +kernel
theorem d_J13_bitCount_95d88_8 : decode (mC 191) 8 = .ok (.lsub, 1) := by decide +kernel
theorem d_J13_bitCount_95d88_9 : decode (mC 191) 9 = .ok (.lstore_n 0, 1) := by decide +kernel
theorem d_J13_bitCount_95d88_10 : decode (mC 191) 10 = .ok (.lload_n 0, 1) := by decide +kernel
theorem d_J13_bitCount_95d88_11 : decode (mC 191) 11 = .ok (.ldc2_w 316, 3) := by decide +kernel
theorem d_J13_bitCount_95d88_14 : decode (mC 191) 14 = .ok (.land, 1) := by decide +kernel
theorem d_J13_bitCount_95d88_15 : decode (mC 191) 15 = .ok (.lload_n 0, 1) := by decide +kernel
theorem d_J13_bitCount_95d88_16 : decode (mC 191) 16 = .ok (.iconst 2, 1) := by decide +kernel
theorem d_J13_bitCount_95d88_17 : decode (mC 191) 17 = .ok (.lushr, 1) := by decide +kernel
theorem d_J13_bitCount_95d88_18 : decode (mC 191) 18 = .ok (.ldc2_w 316, 3) := by decide +kernel
theorem d_J13_bitCount_95d88_21 : decode (mC 191) 21 = .ok (.land, 1) := by decide +kernel
theorem d_J13_bitCount_95d88_22 : decode (mC 191) 22 = .ok (.ladd, 1) := by decide +kernel
theorem d_J13_bitCount_95d88_23 : decode (mC 191) 23 = .ok (.lstore_n 0, 1) := by decide +kernel
theorem d_J13_bitCount_95d88_24 : decode (mC 191) 24 = .ok (.lload_n 0, 1) := by decide +kernel
theorem d_J13_bitCount_95d88_25 : decode (mC 191) 25 = .ok (.lload_n 0, 1) := by decide +kernel
theorem d_J13_bitCount_95d88_26 : decode (mC 191) 26 = .ok (.iconst 4, 1) := by decide +kernel
theorem d_J13_bitCount_95d88_27 : decode (mC 191) 27 = .ok (.lushr, 1) := by decide +kernel
theorem d_J13_bitCount_95d88_28 : decode (mC 191) 28 = .ok (.ladd, 1) := by decide +kernel
theorem d_J13_bitCount_95d88_29 : decode (mC 191) 29 = .ok (.ldc2_w 318, 3) := by decide +kernel
theorem d_J13_bitCount_95d88_32 : decode (mC 191) 32 = .ok (.land, 1) := by decide +kernel
theorem d_J13_bitCount_95d88_33 : decode (mC 191) 33 = .ok (.lstore_n 0, 1) := by decide +kernel
theorem d_J13_bitCount_95d88_34 : decode (mC 191) 34 = .ok (.lload_n 0, 1) := by decide +kernel
theorem d_J13_bitCount_95d88_35 : decode (mC 191) 35 = .ok (.lload_n 0, 1) := by decide +kernel
theorem d_J13_bitCount_95d88_36 : decode (mC 191) 36 = .ok (.bipush 8, 2) := by decide +kernel
theorem d_J13_bitCount_95d88_38 : decode (mC 191) 38 = .ok (.lushr, 1) := by decide +kernel
theorem d_J13_bitCount_95d88_39 : decode (mC 191) 39 = .ok (.ladd, 1) := by decide +kernel
theorem d_J13_bitCount_95d88_40 : decode (mC 191) 40 = .ok (.lstore_n 0, 1) := by decide +kernel
theorem d_J13_bitCount_95d88_41 : decode (mC 191) 41 = .ok (.lload_n 0, 1) := by decide +kernel
theorem d_J13_bitCount_95d88_42 : decode (mC 191) 42 = .ok (.lload_n 0, 1) := by decide +kernel
theorem d_J13_bitCount_95d88_43 : decode (mC 191) 43 = .ok (.bipush 16, 2) := by decide +kernel
theorem d_J13_bitCount_95d88_45 : decode (mC 191) 45 = .ok (.lushr, 1) := by decide +kernel
theorem d_J13_bitCount_95d88_46 : decode (mC 191) 46 = .ok (.ladd, 1) := by decide +kernel
theorem d_J13_bitCount_95d88_47 : decode (mC 191) 47 = .ok (.lstore_n 0, 1) := by decide +kernel
theorem d_J13_bitCount_95d88_48 : decode (mC 191) 48 = .ok (.lload_n 0, 1) := by decide +kernel
theorem d_J13_bitCount_95d88_49 : decode (mC 191) 49 = .ok (.lload_n 0, 1) := by decide +kernel
theorem d_J13_bitCount_95d88_50 : decode (mC 191) 50 = .ok (.bipush 32, 2) := by decide +kernel
theorem d_J13_bitCount_95d88_52 : decode (mC 191) 52 = .ok (.lushr, 1) := by decide +kernel
theorem d_J13_bitCount_95d88_53 : decode (mC 191) 53 = .ok (.ladd, 1) := by decide +kernel
theorem d_J13_bitCount_95d88_54 : decode (mC 191) 54 = .ok (.lstore_n 0, 1) := by decide +kernel
theorem d_J13_bitCount_95d88_55 : decode (mC 191) 55 = .ok (.lload_n 0, 1) := by decide +kernel
theorem d_J13_bitCount_95d88_56 : decode (mC 191) 56 = .ok (.l2i, 1) := by decide +kernel
theorem d_J13_bitCount_95d88_57 : decode (mC 191) 57 = .ok (.bipush 127, 2) := by decide +kernel
theorem d_J13_bitCount_95d88_59 : decode (mC 191) 59 = .ok (.iand, 1) := by decide +kernel
theorem d_J13_bitCount_95d88_60 : decode (mC 191) 60 = .ok (.ireturn, 1) := by decide +kernel
theorem b_J13_bitCount_95d88_0 {l0 : Int64} {h h' : mn_H} {r : Option Value} : mn_E 191 0 [.long l0, .null] [] h r h' ↔ mn_E 191 10 [.long (l0 - (((l0).toUInt64 >>> ((1 : Int32).toInt64.toUInt64 &&& Int64.toUInt64 63)).toInt64 &&& 6148914691236517205)), .null] [] h r h' :=
  (mX_lload_n d_J13_bitCount_95d88_0 rfl).trans <| (mX_lload_n d_J13_bitCount_95d88_1 rfl).trans <| (mX_iconst d_J13_bitCount_95d88_2 ci_1).trans <| (mX_lushr d_J13_bitCount_95d88_3).trans <| (mX_ldc2 d_J13_bitCount_95d88_4 mo_191 kl_12_314).trans <| (mX_land d_J13_bitCount_95d88_7).trans <| (mX_lsub d_J13_bitCount_95d88_8).trans <| mX_lstore_n (ls' := [.long (l0 - (((l0).toUInt64 >>> ((1 : Int32).toInt64.toUInt64 &&& Int64.toUInt64 63)).toInt64 &&& 6148914691236517205)), .null]) d_J13_bitCount_95d88_9 rfl rfl
theorem b_J13_bitCount_95d88_10 {l0 : Int64} {h h' : mn_H} {r : Option Value} : mn_E 191 10 [.long l0, .null] [] h r h' ↔ mn_E 191 24 [.long ((l0 &&& 3689348814741910323) + (((l0).toUInt64 >>> ((2 : Int32).toInt64.toUInt64 &&& Int64.toUInt64 63)).toInt64 &&& 3689348814741910323)), .null] [] h r h' :=
  (mX_lload_n d_J13_bitCount_95d88_10 rfl).trans <| (mX_ldc2 d_J13_bitCount_95d88_11 mo_191 kl_12_316).trans <| (mX_land d_J13_bitCount_95d88_14).trans <| (mX_lload_n d_J13_bitCount_95d88_15 rfl).trans <| (mX_iconst d_J13_bitCount_95d88_16 ci_2).trans <| (mX_lushr d_J13_bitCount_95d88_17).trans <| (mX_ldc2 d_J13_bitCount_95d88_18 mo_191 kl_12_316).trans <| (mX_land d_J13_bitCount_95d88_21).trans <| (mX_ladd d_J13_bitCount_95d88_22).trans <| mX_lstore_n (ls' := [.long ((l0 &&& 3689348814741910323) + (((l0).toUInt64 >>> ((2 : Int32).toInt64.toUInt64 &&& Int64.toUInt64 63)).toInt64 &&& 3689348814741910323)), .null]) d_J13_bitCount_95d88_23 rfl rfl
theorem b_J13_bitCount_95d88_24 {l0 : Int64} {h h' : mn_H} {r : Option Value} : mn_E 191 24 [.long l0, .null] [] h r h' ↔ mn_E 191 34 [.long ((l0 + ((l0).toUInt64 >>> ((4 : Int32).toInt64.toUInt64 &&& Int64.toUInt64 63)).toInt64) &&& 1085102592571150095), .null] [] h r h' :=
  (mX_lload_n d_J13_bitCount_95d88_24 rfl).trans <| (mX_lload_n d_J13_bitCount_95d88_25 rfl).trans <| (mX_iconst d_J13_bitCount_95d88_26 ci_4).trans <| (mX_lushr d_J13_bitCount_95d88_27).trans <| (mX_ladd d_J13_bitCount_95d88_28).trans <| (mX_ldc2 d_J13_bitCount_95d88_29 mo_191 kl_12_318).trans <| (mX_land d_J13_bitCount_95d88_32).trans <| mX_lstore_n (ls' := [.long ((l0 + ((l0).toUInt64 >>> ((4 : Int32).toInt64.toUInt64 &&& Int64.toUInt64 63)).toInt64) &&& 1085102592571150095), .null]) d_J13_bitCount_95d88_33 rfl rfl
theorem b_J13_bitCount_95d88_34 {l0 : Int64} {h h' : mn_H} {r : Option Value} : mn_E 191 34 [.long l0, .null] [] h r h' ↔ mn_E 191 41 [.long (l0 + ((l0).toUInt64 >>> ((8 : Int32).toInt64.toUInt64 &&& Int64.toUInt64 63)).toInt64), .null] [] h r h' :=
  (mX_lload_n d_J13_bitCount_95d88_34 rfl).trans <| (mX_lload_n d_J13_bitCount_95d88_35 rfl).trans <| (mX_bipush d_J13_bitCount_95d88_36 cb_8).trans <| (mX_lushr d_J13_bitCount_95d88_38).trans <| (mX_ladd d_J13_bitCount_95d88_39).trans <| mX_lstore_n (ls' := [.long (l0 + ((l0).toUInt64 >>> ((8 : Int32).toInt64.toUInt64 &&& Int64.toUInt64 63)).toInt64), .null]) d_J13_bitCount_95d88_40 rfl rfl
theorem b_J13_bitCount_95d88_41 {l0 : Int64} {h h' : mn_H} {r : Option Value} : mn_E 191 41 [.long l0, .null] [] h r h' ↔ mn_E 191 48 [.long (l0 + ((l0).toUInt64 >>> ((16 : Int32).toInt64.toUInt64 &&& Int64.toUInt64 63)).toInt64), .null] [] h r h' :=
  (mX_lload_n d_J13_bitCount_95d88_41 rfl).trans <| (mX_lload_n d_J13_bitCount_95d88_42 rfl).trans <| (mX_bipush d_J13_bitCount_95d88_43 cb_16).trans <| (mX_lushr d_J13_bitCount_95d88_45).trans <| (mX_ladd d_J13_bitCount_95d88_46).trans <| mX_lstore_n (ls' := [.long (l0 + ((l0).toUInt64 >>> ((16 : Int32).toInt64.toUInt64 &&& Int64.toUInt64 63)).toInt64), .null]) d_J13_bitCount_95d88_47 rfl rfl
theorem b_J13_bitCount_95d88_48 {l0 : Int64} {h h' : mn_H} {r : Option Value} : mn_E 191 48 [.long l0, .null] [] h r h' ↔ mn_E 191 55 [.long (l0 + ((l0).toUInt64 >>> ((32 : Int32).toInt64.toUInt64 &&& Int64.toUInt64 63)).toInt64), .null] [] h r h' :=
  (mX_lload_n d_J13_bitCount_95d88_48 rfl).trans <| (mX_lload_n d_J13_bitCount_95d88_49 rfl).trans <| (mX_bipush d_J13_bitCount_95d88_50 cb_32).trans <| (mX_lushr d_J13_bitCount_95d88_52).trans <| (mX_ladd d_J13_bitCount_95d88_53).trans <| mX_lstore_n (ls' := [.long (l0 + ((l0).toUInt64 >>> ((32 : Int32).toInt64.toUInt64 &&& Int64.toUInt64 63)).toInt64), .null]) d_J13_bitCount_95d88_54 rfl rfl
theorem b_J13_bitCount_95d88_55 {l0 : Int64} {h h' : mn_H} {r : Option Value} : mn_E 191 55 [.long l0, .null] [] h r h' ↔ r = some (.int ((l0).toInt32 &&& 127)) ∧ h' = h :=
  (mX_lload_n d_J13_bitCount_95d88_55 rfl).trans <| (mX_l2i d_J13_bitCount_95d88_56).trans <| (mX_bipush d_J13_bitCount_95d88_57 cb_127).trans <| (mX_iand d_J13_bitCount_95d88_59).trans <| mX_iret d_J13_bitCount_95d88_60 rfl
-- J7_fill_53178
theorem mo_192 : mO 192 = 14 := rfl
theorem d_J7_fill_53178_0 : decode (mC 192) 0 = .ok (.iconst 0, 1) := by decide +kernel
theorem d_J7_fill_53178_1 : decode (mC 192) 1 = .ok (.istore_n 2, 1) := by decide +kernel
theorem d_J7_fill_53178_2 : decode (mC 192) 2 = .ok (.aload_n 0, 1) := by decide +kernel
theorem d_J7_fill_53178_3 : decode (mC 192) 3 = .ok (.arraylength, 1) := by decide +kernel
theorem d_J7_fill_53178_4 : decode (mC 192) 4 = .ok (.istore_n 3, 1) := by decide +kernel
theorem d_J7_fill_53178_5 : decode (mC 192) 5 = .ok (.iload_n 2, 1) := by decide +kernel
theorem d_J7_fill_53178_6 : decode (mC 192) 6 = .ok (.iload_n 3, 1) := by decide +kernel
theorem d_J7_fill_53178_7 : decode (mC 192) 7 = .ok (.if_icmp .ge 13, 3) := by decide +kernel
theorem d_J7_fill_53178_10 : decode (mC 192) 10 = .ok (.aload_n 0, 1) := by decide +kernel
theorem d_J7_fill_53178_11 : decode (mC 192) 11 = .ok (.iload_n 2, 1) := by decide +kernel
theorem d_J7_fill_53178_12 : decode (mC 192) 12 = .ok (.iload_n 1, 1) := by decide +kernel
theorem d_J7_fill_53178_13 : decode (mC 192) 13 = .ok (.iastore, 1) := by decide +kernel
theorem d_J7_fill_53178_14 : decode (mC 192) 14 = .ok (.iinc 2 1, 3) := by decide +kernel
theorem d_J7_fill_53178_17 : decode (mC 192) 17 = .ok (.goto (-12), 3) := by decide +kernel
theorem d_J7_fill_53178_20 : decode (mC 192) 20 = .ok (.return_, 1) := by decide +kernel
theorem b_J7_fill_53178_0 {x1 : Int32} {a0 n0 : Nat} {h h' : mn_H} {r : Option Value} (hs0 : mn_sh a0 = (1, n0)) (hl0 : a0 < 74) : mn_E 192 0 [.ref a0, .int x1, .null, .null] [] h r h' ↔ mn_E 192 5 [.ref a0, .int x1, .int 0, .int (nI n0)] [] h r h' :=
  (mX_iconst d_J7_fill_53178_0 ci_0).trans <| (mX_istore_n (ls' := [.ref a0, .int x1, .int 0, .null]) d_J7_fill_53178_1 rfl rfl).trans <| (mX_aload_n d_J7_fill_53178_2 rfl).trans <| (mX_alen (n := n0) (v := nI n0) d_J7_fill_53178_3 (by rw [hs0]) (Or.inl ⟨hl0, by rw [hs0]⟩) rfl).trans <| mX_istore_n (ls' := [.ref a0, .int x1, .int 0, .int (nI n0)]) d_J7_fill_53178_4 rfl rfl
theorem b_J7_fill_53178_5 {x1 x2 x3 : Int32} {a0 n0 : Nat} {h h' : mn_H} {r : Option Value} (hs0 : mn_sh a0 = (1, n0)) (hl0 : a0 < 74) : mn_E 192 5 [.ref a0, .int x1, .int x2, .int x3] [] h r h' ↔ if x3 ≤ x2 then mn_E 192 20 [.ref a0, .int x1, .int x2, .int x3] [] h r h' else mn_E 192 10 [.ref a0, .int x1, .int x2, .int x3] [] h r h' :=
  (mX_iload_n d_J7_fill_53178_5 rfl).trans <| (mX_iload_n d_J7_fill_53178_6 rfl).trans <| mX_icmp_ge d_J7_fill_53178_7 rfl
theorem b_J7_fill_53178_10 {x1 x2 x3 : Int32} {a0 n0 : Nat} {h h' : mn_H} {r : Option Value} (hs0 : mn_sh a0 = (1, n0)) (hl0 : a0 < 74) (hy2 : vp_in x2 n0) : mn_E 192 10 [.ref a0, .int x1, .int x2, .int x3] [] h r h' ↔ mn_E 192 5 [.ref a0, .int x1, .int (x2 + 1), .int x3] [] (mn_up h a0 (x2.toNatClampNeg) x1) r h' :=
  (mX_aload_n d_J7_fill_53178_10 rfl).trans <| (mX_iload_n d_J7_fill_53178_11 rfl).trans <| (mX_iload_n d_J7_fill_53178_12 rfl).trans <| (mX_iastore d_J7_fill_53178_13 hs0 hl0 hy2).trans <| (mX_iinc (ls' := [.ref a0, .int x1, .int (x2 + 1), .int x3]) d_J7_fill_53178_14 rfl ci_1 rfl rfl).trans <| mX_goto d_J7_fill_53178_17 rfl
theorem b_J7_fill_53178_20 {x1 x2 x3 : Int32} {a0 n0 : Nat} {h h' : mn_H} {r : Option Value} (hs0 : mn_sh a0 = (1, n0)) (hl0 : a0 < 74) : mn_E 192 20 [.ref a0, .int x1, .int x2, .int x3] [] h r h' ↔ r = none ∧ h' = h :=
  mX_vret d_J7_fill_53178_20 rfl
