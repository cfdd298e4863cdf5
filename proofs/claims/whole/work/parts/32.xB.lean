section XR
variable {sv : am_V} {h : am_H} {σ : am_S} {Q : Option Value → am_H → Prop} {r : List Value} {x y n x0 x1 x2 x3 x4 x5 : Int32} {u w u0 u1 u2 : Int64} {a b b0 b1 b2 b3 b4 : Nat} {v z v0 v1 v2 v3 v4 v5 v6 v7 v8 v9 v10 v11 v12 v13 v14 v15 : Value}
theorem x61_0 : AW sv 61 0 [v0, .int x, v2, v3, v4, v5] r h 0 0 Q = AW sv 61 1 [v0, .int x, v2, v3, v4, v5] (.int x :: r) h 0 0 Q := e_pv am_h61 dX8_act_0 rfl rfl rfl rfl
theorem x61_1 : AW sv 61 1 [v0, v1, v2, v3, v4, v5] r h 0 0 Q = AW sv 61 3 [v0, v1, v2, v3, v4, v5] (.int (16) :: r) h 0 0 Q := e_bipushv am_h61 dX8_act_1 c_bipush_16
theorem x61_3 (h8 : am_cs r ≤ 8) : AW sv 61 3 [v0, v1, v2, v3, v4, v5] (.int x1 :: .int x0 :: r) h 0 0 Q = AM sv 97 [.int x0, .int x1] h (fun v h1 => AW sv 61 6 [v0, v1, v2, v3, v4, v5] (v.toList ++ r) h1 0 0 Q) := e_cS (as := [.int x0, .int x1]) am_h61 dX8_act_3 ml_8_40 (by decide) am_h97 rfl rfl rfl ⟨by decide, Nat.le_of_ble_eq_true rfl, am_rc_of (by decide) h8⟩
theorem x61_6 : AW sv 61 6 [v0, v1, v2, v3, v4, v5] (.int x :: r) h 0 0 Q = if x = 0 then AW sv 61 35 [v0, v1, v2, v3, v4, v5] r h 0 0 Q else AW sv 61 9 [v0, v1, v2, v3, v4, v5] r h 0 0 Q := e_z_eq am_h61 dX8_act_6 rfl
theorem x61_9 : AW sv 61 9 [v0, v1, .int x, v3, v4, v5] r h 0 0 Q = AW sv 61 10 [v0, v1, .int x, v3, v4, v5] (.int x :: r) h 0 0 Q := e_pv am_h61 dX8_act_9 rfl rfl rfl rfl
theorem x61_10 : AW sv 61 10 [v0, v1, v2, v3, v4, v5] r h 0 0 Q = AW sv 61 11 [v0, v1, v2, v3, v4, v5] (.int (2) :: r) h 0 0 Q := e_iconstv am_h61 dX8_act_10 c_iconst_2
theorem x61_11 (h8 : am_cs r ≤ 8) : AW sv 61 11 [v0, v1, v2, v3, v4, v5] (.int x1 :: .int x0 :: r) h 0 0 Q = AM sv 97 [.int x0, .int x1] h (fun v h1 => AW sv 61 14 [v0, v1, v2, v3, v4, v5] (v.toList ++ r) h1 0 0 Q) := e_cS (as := [.int x0, .int x1]) am_h61 dX8_act_11 ml_8_40 (by decide) am_h97 rfl rfl rfl ⟨by decide, Nat.le_of_ble_eq_true rfl, am_rc_of (by decide) h8⟩
theorem x61_14 : AW sv 61 14 [v0, v1, v2, v3, v4, v5] (.int x :: r) h 0 0 Q = if x = 0 then AW sv 61 35 [v0, v1, v2, v3, v4, v5] r h 0 0 Q else AW sv 61 17 [v0, v1, v2, v3, v4, v5] r h 0 0 Q := e_z_eq am_h61 dX8_act_14 rfl
theorem x61_17 : AW sv 61 17 [v0, v1, v2, .int x, v4, v5] r h 0 0 Q = AW sv 61 18 [v0, v1, v2, .int x, v4, v5] (.int x :: r) h 0 0 Q := e_pv am_h61 dX8_act_17 rfl rfl rfl rfl
theorem x61_18 : AW sv 61 18 [v0, v1, v2, v3, v4, v5] r h 0 0 Q = AW sv 61 19 [v0, v1, v2, v3, v4, v5] (.int (4) :: r) h 0 0 Q := e_iconstv am_h61 dX8_act_18 c_iconst_4
theorem x61_19 (h8 : am_cs r ≤ 8) : AW sv 61 19 [v0, v1, v2, v3, v4, v5] (.int x1 :: .int x0 :: r) h 0 0 Q = AM sv 97 [.int x0, .int x1] h (fun v h1 => AW sv 61 22 [v0, v1, v2, v3, v4, v5] (v.toList ++ r) h1 0 0 Q) := e_cS (as := [.int x0, .int x1]) am_h61 dX8_act_19 ml_8_40 (by decide) am_h97 rfl rfl rfl ⟨by decide, Nat.le_of_ble_eq_true rfl, am_rc_of (by decide) h8⟩
theorem x61_22 : AW sv 61 22 [v0, v1, v2, v3, v4, v5] (.int x :: r) h 0 0 Q = if x = 0 then AW sv 61 35 [v0, v1, v2, v3, v4, v5] r h 0 0 Q else AW sv 61 25 [v0, v1, v2, v3, v4, v5] r h 0 0 Q := e_z_eq am_h61 dX8_act_22 rfl
theorem x61_25 : AW sv 61 25 [v0, v1, v2, v3, .int x, v5] r h 0 0 Q = AW sv 61 27 [v0, v1, v2, v3, .int x, v5] (.int x :: r) h 0 0 Q := e_pv am_h61 dX8_act_25 rfl rfl rfl rfl
theorem x61_27 : AW sv 61 27 [v0, v1, v2, v3, v4, v5] r h 0 0 Q = AW sv 61 29 [v0, v1, v2, v3, v4, v5] (.int (10) :: r) h 0 0 Q := e_bipushv am_h61 dX8_act_27 c_bipush_10
theorem x61_29 (h8 : am_cs r ≤ 8) : AW sv 61 29 [v0, v1, v2, v3, v4, v5] (.int x1 :: .int x0 :: r) h 0 0 Q = AM sv 97 [.int x0, .int x1] h (fun v h1 => AW sv 61 32 [v0, v1, v2, v3, v4, v5] (v.toList ++ r) h1 0 0 Q) := e_cS (as := [.int x0, .int x1]) am_h61 dX8_act_29 ml_8_40 (by decide) am_h97 rfl rfl rfl ⟨by decide, Nat.le_of_ble_eq_true rfl, am_rc_of (by decide) h8⟩
theorem x61_32 : AW sv 61 32 [v0, v1, v2, v3, v4, v5] (.int x :: r) h 0 0 Q = if ¬ x = 0 then AW sv 61 37 [v0, v1, v2, v3, v4, v5] r h 0 0 Q else AW sv 61 35 [v0, v1, v2, v3, v4, v5] r h 0 0 Q := e_z_ne am_h61 dX8_act_32 rfl
theorem x61_35 : AW sv 61 35 [v0, v1, v2, v3, v4, v5] r h 0 0 Q = AW sv 61 36 [v0, v1, v2, v3, v4, v5] (.int (-1) :: r) h 0 0 Q := e_iconstv am_h61 dX8_act_35 c_iconst_m1
theorem x61_36 : AW sv 61 36 [v0, v1, v2, v3, v4, v5] [.int x] h 0 0 Q = Q (some (.int x)) h := e_iret am_h61 dX8_act_36 rfl ⟨rfl, rfl⟩
theorem x61_37 : AW sv 61 37 [v0, v1, v2, v3, .int x, v5] r h 0 0 Q = AW sv 61 39 [v0, v1, v2, v3, .int x, v5] (.int x :: r) h 0 0 Q := e_pv am_h61 dX8_act_37 rfl rfl rfl rfl
theorem x61_39 : AW sv 61 39 [v0, v1, v2, v3, v4, v5] (.int x :: r) h 0 0 Q = if ¬ x = 0 then AW sv 61 46 [v0, v1, v2, v3, v4, v5] r h 0 0 Q else AW sv 61 42 [v0, v1, v2, v3, v4, v5] r h 0 0 Q := e_z_ne am_h61 dX8_act_39 rfl
theorem x61_42 : AW sv 61 42 [v0, v1, v2, v3, v4, v5] r h 0 0 Q = AW sv 61 43 [v0, v1, v2, v3, v4, v5] (.int (0) :: r) h 0 0 Q := e_iconstv am_h61 dX8_act_42 c_iconst_0
theorem x61_43 : AW sv 61 43 [v0, v1, v2, v3, v4, v5] r h 0 0 Q = AW sv 61 53 [v0, v1, v2, v3, v4, v5] r h 0 0 Q := e_goto am_h61 dX8_act_43 rfl
theorem x61_46 : AW sv 61 46 [v0, v1, v2, v3, v4, v5] r h 0 0 Q = AW sv 61 48 [v0, v1, v2, v3, v4, v5] (.int (10) :: r) h 0 0 Q := e_bipushv am_h61 dX8_act_46 c_bipush_10
theorem x61_48 : AW sv 61 48 [v0, v1, v2, .int x, v4, v5] r h 0 0 Q = AW sv 61 49 [v0, v1, v2, .int x, v4, v5] (.int x :: r) h 0 0 Q := e_pv am_h61 dX8_act_48 rfl rfl rfl rfl
theorem x61_49 : AW sv 61 49 [v0, v1, v2, v3, v4, v5] (.int y :: .int x :: r) h 0 0 Q = AW sv 61 50 [v0, v1, v2, v3, v4, v5] (.int (x * y) :: r) h 0 0 Q := e_imul am_h61 dX8_act_49
theorem x61_50 : AW sv 61 50 [v0, v1, v2, v3, .int x, v5] r h 0 0 Q = AW sv 61 52 [v0, v1, v2, v3, .int x, v5] (.int x :: r) h 0 0 Q := e_pv am_h61 dX8_act_50 rfl rfl rfl rfl
theorem x61_52 : AW sv 61 52 [v0, v1, v2, v3, v4, v5] (.int y :: .int x :: r) h 0 0 Q = AW sv 61 53 [v0, v1, v2, v3, v4, v5] (.int (x + y) :: r) h 0 0 Q := e_iadd am_h61 dX8_act_52
theorem x61_53 (hc : v4.category = 1) : AW sv 61 53 [v0, v1, v2, v3, v4, v5] (.int x :: r) h 0 0 Q = AW sv 61 55 [v0, v1, v2, v3, v4, .int x] r h 0 0 Q := e_pv am_h61 dX8_act_53 rfl rfl rfl (am_sti_of (Nat.le_of_ble_eq_true rfl) (am_c1_of rfl hc))
theorem x61_55 : AW sv 61 55 [v0, v1, .int x, v3, v4, v5] r h 0 0 Q = AW sv 61 56 [v0, v1, .int x, v3, v4, v5] (.int x :: r) h 0 0 Q := e_pv am_h61 dX8_act_55 rfl rfl rfl rfl
theorem x61_56 : AW sv 61 56 [v0, v1, v2, v3, v4, v5] (.int x :: r) h 0 0 Q = if ¬ x = 0 then AW sv 61 72 [v0, v1, v2, v3, v4, v5] r h 0 0 Q else AW sv 61 59 [v0, v1, v2, v3, v4, v5] r h 0 0 Q := e_z_ne am_h61 dX8_act_56 rfl
theorem x61_59 : AW sv 61 59 [.ref a, v1, v2, v3, v4, v5] r h 0 0 Q = AW sv 61 60 [.ref a, v1, v2, v3, v4, v5] (.ref a :: r) h 0 0 Q := e_pv am_h61 dX8_act_59 rfl rfl rfl rfl
theorem x61_60 : AW sv 61 60 [v0, v1, v2, v3, v4, v5] (.ref 0 :: r) (am_toH σ) 0 0 Q = AW sv 61 63 [v0, v1, v2, v3, v4, v5] (.ref 1 :: r) (am_toH σ) 0 0 Q := e_getR am_h61 dX8_act_60 fl_8_10 is8 rfl
theorem x61_63 (hr : am_St a) : AW sv 61 63 [v0, v1, v2, v3, v4, v5] (.ref a :: r) (am_toH σ) 0 0 Q = AW sv 61 66 [v0, v1, v2, v3, v4, v5] (.ref (a + 1) :: r) (am_toH σ) 0 0 Q := e_getR am_h61 dX8_act_63 fl_8_44 (is5 hr) rfl
theorem x61_66 (hr : am_St a) : AW sv 61 66 [v0, v1, v2, v3, v4, v5] (.ref (a + 1) :: r) (am_toH σ) 0 0 Q = AW sv 61 69 [v0, v1, v2, v3, v4, v5] (.ref (a + 2) :: r) (am_toH σ) 0 0 Q := e_getR am_h61 dX8_act_66 fl_8_48 (is3 hr) rfl
theorem x61_69 : AW sv 61 69 [v0, v1, v2, v3, v4, v5] r h 0 0 Q = AW sv 61 82 [v0, v1, v2, v3, v4, v5] r h 0 0 Q := e_goto am_h61 dX8_act_69 rfl
theorem x61_72 : AW sv 61 72 [.ref a, v1, v2, v3, v4, v5] r h 0 0 Q = AW sv 61 73 [.ref a, v1, v2, v3, v4, v5] (.ref a :: r) h 0 0 Q := e_pv am_h61 dX8_act_72 rfl rfl rfl rfl
theorem x61_73 : AW sv 61 73 [v0, v1, v2, v3, v4, v5] (.ref 0 :: r) (am_toH σ) 0 0 Q = AW sv 61 76 [v0, v1, v2, v3, v4, v5] (.ref 1 :: r) (am_toH σ) 0 0 Q := e_getR am_h61 dX8_act_73 fl_8_10 is8 rfl
theorem x61_76 (hr : am_St a) : AW sv 61 76 [v0, v1, v2, v3, v4, v5] (.ref a :: r) (am_toH σ) 0 0 Q = AW sv 61 79 [v0, v1, v2, v3, v4, v5] (.ref (a + 1) :: r) (am_toH σ) 0 0 Q := e_getR am_h61 dX8_act_76 fl_8_44 (is5 hr) rfl
theorem x61_79 (hr : am_St a) : AW sv 61 79 [v0, v1, v2, v3, v4, v5] (.ref (a + 1) :: r) (am_toH σ) 0 0 Q = AW sv 61 82 [v0, v1, v2, v3, v4, v5] (.ref (a + 3) :: r) (am_toH σ) 0 0 Q := e_getR am_h61 dX8_act_79 fl_8_54 (is3 hr) rfl
theorem x61_82 : AW sv 61 82 [v0, .int x, v2, v3, v4, v5] r h 0 0 Q = AW sv 61 83 [v0, .int x, v2, v3, v4, v5] (.int x :: r) h 0 0 Q := e_pv am_h61 dX8_act_82 rfl rfl rfl rfl
theorem x61_83 : AW sv 61 83 [v0, v1, v2, v3, v4, .int x] r h 0 0 Q = AW sv 61 85 [v0, v1, v2, v3, v4, .int x] (.int x :: r) h 0 0 Q := e_pv am_h61 dX8_act_83 rfl rfl rfl rfl
theorem x61_85 (h8 : am_cs r ≤ 8) : AW sv 61 85 [v0, v1, v2, v3, v4, v5] (.int x2 :: .int x1 :: .ref b0 :: r) h 0 0 Q = AM sv 99 [.ref b0, .int x1, .int x2] h (fun v h1 => AW sv 61 88 [v0, v1, v2, v3, v4, v5] (v.toList ++ r) h1 0 0 Q) := e_cS (as := [.ref b0, .int x1, .int x2]) am_h61 dX8_act_85 ml_8_57 (by decide) am_h99 rfl rfl rfl ⟨by decide, Nat.le_of_ble_eq_true rfl, am_rc_of (by decide) h8⟩
theorem x61_88 : AW sv 61 88 [v0, v1, v2, v3, v4, v5] [.int x] h 0 0 Q = Q (some (.int x)) h := e_iret am_h61 dX8_act_88 rfl ⟨rfl, rfl⟩
theorem n61 : AM sv 61 [.ref a, .int x0, .int x1, .int x2, .int x3] h Q = AW sv 61 0 [.ref a, .int x0, .int x1, .int x2, .int x3, .null] [] h 0 0 Q := rfl
theorem x62_0 : AW sv 62 0 [v0, .int x, v2, v3] r h 0 0 Q = AW sv 62 1 [v0, .int x, v2, v3] (.int x :: r) h 0 0 Q := e_pv am_h62 dX8_cue_0 rfl rfl rfl rfl
theorem x62_1 : AW sv 62 1 [v0, v1, v2, v3] r h 0 0 Q = AW sv 62 3 [v0, v1, v2, v3] (.int (16) :: r) h 0 0 Q := e_bipushv am_h62 dX8_cue_1 c_bipush_16
theorem x62_3 (h8 : am_cs r ≤ 8) : AW sv 62 3 [v0, v1, v2, v3] (.int x1 :: .int x0 :: r) h 0 0 Q = AM sv 97 [.int x0, .int x1] h (fun v h1 => AW sv 62 6 [v0, v1, v2, v3] (v.toList ++ r) h1 0 0 Q) := e_cS (as := [.int x0, .int x1]) am_h62 dX8_cue_3 ml_8_40 (by decide) am_h97 rfl rfl rfl ⟨by decide, Nat.le_of_ble_eq_true rfl, am_rc_of (by decide) h8⟩
theorem x62_6 : AW sv 62 6 [v0, v1, v2, v3] (.int x :: r) h 0 0 Q = if x = 0 then AW sv 62 17 [v0, v1, v2, v3] r h 0 0 Q else AW sv 62 9 [v0, v1, v2, v3] r h 0 0 Q := e_z_eq am_h62 dX8_cue_6 rfl
theorem x62_9 : AW sv 62 9 [v0, v1, .int x, v3] r h 0 0 Q = AW sv 62 10 [v0, v1, .int x, v3] (.int x :: r) h 0 0 Q := e_pv am_h62 dX8_cue_9 rfl rfl rfl rfl
theorem x62_10 : AW sv 62 10 [v0, v1, v2, v3] r h 0 0 Q = AW sv 62 11 [v0, v1, v2, v3] (.int (3) :: r) h 0 0 Q := e_iconstv am_h62 dX8_cue_10 c_iconst_3
theorem x62_11 (h8 : am_cs r ≤ 8) : AW sv 62 11 [v0, v1, v2, v3] (.int x1 :: .int x0 :: r) h 0 0 Q = AM sv 97 [.int x0, .int x1] h (fun v h1 => AW sv 62 14 [v0, v1, v2, v3] (v.toList ++ r) h1 0 0 Q) := e_cS (as := [.int x0, .int x1]) am_h62 dX8_cue_11 ml_8_40 (by decide) am_h97 rfl rfl rfl ⟨by decide, Nat.le_of_ble_eq_true rfl, am_rc_of (by decide) h8⟩
theorem x62_14 : AW sv 62 14 [v0, v1, v2, v3] (.int x :: r) h 0 0 Q = if ¬ x = 0 then AW sv 62 19 [v0, v1, v2, v3] r h 0 0 Q else AW sv 62 17 [v0, v1, v2, v3] r h 0 0 Q := e_z_ne am_h62 dX8_cue_14 rfl
theorem x62_17 : AW sv 62 17 [v0, v1, v2, v3] r h 0 0 Q = AW sv 62 18 [v0, v1, v2, v3] (.int (-1) :: r) h 0 0 Q := e_iconstv am_h62 dX8_cue_17 c_iconst_m1
theorem x62_18 : AW sv 62 18 [v0, v1, v2, v3] [.int x] h 0 0 Q = Q (some (.int x)) h := e_iret am_h62 dX8_cue_18 rfl ⟨rfl, rfl⟩
theorem x62_19 : AW sv 62 19 [v0, v1, .int x, v3] r h 0 0 Q = AW sv 62 20 [v0, v1, .int x, v3] (.int x :: r) h 0 0 Q := e_pv am_h62 dX8_cue_19 rfl rfl rfl rfl
theorem x62_20 : AW sv 62 20 [v0, v1, v2, v3] r h 0 0 Q = AW sv 62 21 [v0, v1, v2, v3] (.int (2) :: r) h 0 0 Q := e_iconstv am_h62 dX8_cue_20 c_iconst_2
theorem x62_21 : AW sv 62 21 [v0, v1, v2, v3] (.int y :: .int x :: r) h 0 0 Q = if ¬ x = y then AW sv 62 54 [v0, v1, v2, v3] r h 0 0 Q else AW sv 62 24 [v0, v1, v2, v3] r h 0 0 Q := e_c_ne am_h62 dX8_cue_21 rfl
theorem x62_24 : AW sv 62 24 [v0, v1, v2, .int x] r h 0 0 Q = AW sv 62 25 [v0, v1, v2, .int x] (.int x :: r) h 0 0 Q := e_pv am_h62 dX8_cue_24 rfl rfl rfl rfl
theorem x62_25 : AW sv 62 25 [v0, v1, v2, v3] r h 0 0 Q = AW sv 62 26 [v0, v1, v2, v3] (.int (2) :: r) h 0 0 Q := e_iconstv am_h62 dX8_cue_25 c_iconst_2
theorem x62_26 (h8 : am_cs r ≤ 8) : AW sv 62 26 [v0, v1, v2, v3] (.int x1 :: .int x0 :: r) h 0 0 Q = AM sv 97 [.int x0, .int x1] h (fun v h1 => AW sv 62 29 [v0, v1, v2, v3] (v.toList ++ r) h1 0 0 Q) := e_cS (as := [.int x0, .int x1]) am_h62 dX8_cue_26 ml_8_40 (by decide) am_h97 rfl rfl rfl ⟨by decide, Nat.le_of_ble_eq_true rfl, am_rc_of (by decide) h8⟩
theorem x62_29 : AW sv 62 29 [v0, v1, v2, v3] (.int x :: r) h 0 0 Q = if x = 0 then AW sv 62 52 [v0, v1, v2, v3] r h 0 0 Q else AW sv 62 32 [v0, v1, v2, v3] r h 0 0 Q := e_z_eq am_h62 dX8_cue_29 rfl
theorem x62_32 : AW sv 62 32 [v0, v1, v2, v3] r h 0 0 Q = AW sv 62 33 [v0, v1, v2, v3] (.int (1) :: r) h 0 0 Q := e_iconstv am_h62 dX8_cue_32 c_iconst_1
theorem x62_33 : AW sv 62 33 [.ref a, v1, v2, v3] r h 0 0 Q = AW sv 62 34 [.ref a, v1, v2, v3] (.ref a :: r) h 0 0 Q := e_pv am_h62 dX8_cue_33 rfl rfl rfl rfl
theorem x62_34 : AW sv 62 34 [v0, v1, v2, v3] (.ref 0 :: r) (am_toH σ) 0 0 Q = AW sv 62 37 [v0, v1, v2, v3] (.ref 1 :: r) (am_toH σ) 0 0 Q := e_getR am_h62 dX8_cue_34 fl_8_10 is8 rfl
theorem x62_37 (hr : am_St a) : AW sv 62 37 [v0, v1, v2, v3] (.ref a :: r) (am_toH σ) 0 0 Q = AW sv 62 40 [v0, v1, v2, v3] (.ref (a + 1) :: r) (am_toH σ) 0 0 Q := e_getR am_h62 dX8_cue_37 fl_8_44 (is5 hr) rfl
theorem x62_40 (hr : am_St a) : AW sv 62 40 [v0, v1, v2, v3] (.ref (a + 1) :: r) (am_toH σ) 0 0 Q = AW sv 62 43 [v0, v1, v2, v3] (.ref (a + 6) :: r) (am_toH σ) 0 0 Q := e_getR am_h62 dX8_cue_40 fl_8_61 (is3 hr) rfl
theorem x62_43 : AW sv 62 43 [v0, .int x, v2, v3] r h 0 0 Q = AW sv 62 44 [v0, .int x, v2, v3] (.int x :: r) h 0 0 Q := e_pv am_h62 dX8_cue_43 rfl rfl rfl rfl
theorem x62_44 : AW sv 62 44 [v0, v1, v2, .int x] r h 0 0 Q = AW sv 62 45 [v0, v1, v2, .int x] (.int x :: r) h 0 0 Q := e_pv am_h62 dX8_cue_44 rfl rfl rfl rfl
theorem x62_45 (h8 : am_cs r ≤ 8) : AW sv 62 45 [v0, v1, v2, v3] (.int x2 :: .int x1 :: .ref b0 :: r) h 0 0 Q = AM sv 99 [.ref b0, .int x1, .int x2] h (fun v h1 => AW sv 62 48 [v0, v1, v2, v3] (v.toList ++ r) h1 0 0 Q) := e_cS (as := [.ref b0, .int x1, .int x2]) am_h62 dX8_cue_45 ml_8_57 (by decide) am_h99 rfl rfl rfl ⟨by decide, Nat.le_of_ble_eq_true rfl, am_rc_of (by decide) h8⟩
theorem x62_48 : AW sv 62 48 [v0, v1, v2, v3] (.int y :: .int x :: r) h 0 0 Q = AW sv 62 49 [v0, v1, v2, v3] (.int (x + y) :: r) h 0 0 Q := e_iadd am_h62 dX8_cue_48
theorem x62_49 : AW sv 62 49 [v0, v1, v2, v3] r h 0 0 Q = AW sv 62 53 [v0, v1, v2, v3] r h 0 0 Q := e_goto am_h62 dX8_cue_49 rfl
theorem x62_52 : AW sv 62 52 [v0, v1, v2, v3] r h 0 0 Q = AW sv 62 53 [v0, v1, v2, v3] (.int (-1) :: r) h 0 0 Q := e_iconstv am_h62 dX8_cue_52 c_iconst_m1
theorem x62_53 : AW sv 62 53 [v0, v1, v2, v3] [.int x] h 0 0 Q = Q (some (.int x)) h := e_iret am_h62 dX8_cue_53 rfl ⟨rfl, rfl⟩
theorem x62_54 : AW sv 62 54 [v0, v1, v2, .int x] r h 0 0 Q = AW sv 62 55 [v0, v1, v2, .int x] (.int x :: r) h 0 0 Q := e_pv am_h62 dX8_cue_54 rfl rfl rfl rfl
theorem x62_55 : AW sv 62 55 [v0, v1, v2, v3] r h 0 0 Q = AW sv 62 56 [v0, v1, v2, v3] (.int (-1) :: r) h 0 0 Q := e_iconstv am_h62 dX8_cue_55 c_iconst_m1
theorem x62_56 : AW sv 62 56 [v0, v1, v2, v3] (.int y :: .int x :: r) h 0 0 Q = if x < y then AW sv 62 64 [v0, v1, v2, v3] r h 0 0 Q else AW sv 62 59 [v0, v1, v2, v3] r h 0 0 Q := e_c_lt am_h62 dX8_cue_56 rfl
theorem x62_59 : AW sv 62 59 [v0, v1, v2, .int x] r h 0 0 Q = AW sv 62 60 [v0, v1, v2, .int x] (.int x :: r) h 0 0 Q := e_pv am_h62 dX8_cue_59 rfl rfl rfl rfl
theorem x62_60 : AW sv 62 60 [v0, v1, v2, v3] r h 0 0 Q = AW sv 62 61 [v0, v1, v2, v3] (.int (4) :: r) h 0 0 Q := e_iconstv am_h62 dX8_cue_60 c_iconst_4
theorem x62_61 : AW sv 62 61 [v0, v1, v2, v3] (.int y :: .int x :: r) h 0 0 Q = if x < y then AW sv 62 66 [v0, v1, v2, v3] r h 0 0 Q else AW sv 62 64 [v0, v1, v2, v3] r h 0 0 Q := e_c_lt am_h62 dX8_cue_61 rfl
theorem x62_64 : AW sv 62 64 [v0, v1, v2, v3] r h 0 0 Q = AW sv 62 65 [v0, v1, v2, v3] (.int (-1) :: r) h 0 0 Q := e_iconstv am_h62 dX8_cue_64 c_iconst_m1
theorem x62_65 : AW sv 62 65 [v0, v1, v2, v3] [.int x] h 0 0 Q = Q (some (.int x)) h := e_iret am_h62 dX8_cue_65 rfl ⟨rfl, rfl⟩
theorem x62_66 : AW sv 62 66 [v0, v1, .int x, v3] r h 0 0 Q = AW sv 62 67 [v0, v1, .int x, v3] (.int x :: r) h 0 0 Q := e_pv am_h62 dX8_cue_66 rfl rfl rfl rfl
theorem x62_67 : AW sv 62 67 [v0, v1, v2, v3] (.int x :: r) h 0 0 Q = if ¬ x = 0 then AW sv 62 83 [v0, v1, v2, v3] r h 0 0 Q else AW sv 62 70 [v0, v1, v2, v3] r h 0 0 Q := e_z_ne am_h62 dX8_cue_67 rfl
theorem x62_70 : AW sv 62 70 [.ref a, v1, v2, v3] r h 0 0 Q = AW sv 62 71 [.ref a, v1, v2, v3] (.ref a :: r) h 0 0 Q := e_pv am_h62 dX8_cue_70 rfl rfl rfl rfl
theorem x62_71 : AW sv 62 71 [v0, v1, v2, v3] (.ref 0 :: r) (am_toH σ) 0 0 Q = AW sv 62 74 [v0, v1, v2, v3] (.ref 1 :: r) (am_toH σ) 0 0 Q := e_getR am_h62 dX8_cue_71 fl_8_10 is8 rfl
theorem x62_74 (hr : am_St a) : AW sv 62 74 [v0, v1, v2, v3] (.ref a :: r) (am_toH σ) 0 0 Q = AW sv 62 77 [v0, v1, v2, v3] (.ref (a + 1) :: r) (am_toH σ) 0 0 Q := e_getR am_h62 dX8_cue_74 fl_8_44 (is5 hr) rfl
theorem x62_77 (hr : am_St a) : AW sv 62 77 [v0, v1, v2, v3] (.ref (a + 1) :: r) (am_toH σ) 0 0 Q = AW sv 62 80 [v0, v1, v2, v3] (.ref (a + 4) :: r) (am_toH σ) 0 0 Q := e_getR am_h62 dX8_cue_77 fl_8_64 (is3 hr) rfl
theorem x62_80 : AW sv 62 80 [v0, v1, v2, v3] r h 0 0 Q = AW sv 62 93 [v0, v1, v2, v3] r h 0 0 Q := e_goto am_h62 dX8_cue_80 rfl
theorem x62_83 : AW sv 62 83 [.ref a, v1, v2, v3] r h 0 0 Q = AW sv 62 84 [.ref a, v1, v2, v3] (.ref a :: r) h 0 0 Q := e_pv am_h62 dX8_cue_83 rfl rfl rfl rfl
theorem x62_84 : AW sv 62 84 [v0, v1, v2, v3] (.ref 0 :: r) (am_toH σ) 0 0 Q = AW sv 62 87 [v0, v1, v2, v3] (.ref 1 :: r) (am_toH σ) 0 0 Q := e_getR am_h62 dX8_cue_84 fl_8_10 is8 rfl
theorem x62_87 (hr : am_St a) : AW sv 62 87 [v0, v1, v2, v3] (.ref a :: r) (am_toH σ) 0 0 Q = AW sv 62 90 [v0, v1, v2, v3] (.ref (a + 1) :: r) (am_toH σ) 0 0 Q := e_getR am_h62 dX8_cue_87 fl_8_44 (is5 hr) rfl
theorem x62_90 (hr : am_St a) : AW sv 62 90 [v0, v1, v2, v3] (.ref (a + 1) :: r) (am_toH σ) 0 0 Q = AW sv 62 93 [v0, v1, v2, v3] (.ref (a + 5) :: r) (am_toH σ) 0 0 Q := e_getR am_h62 dX8_cue_90 fl_8_67 (is3 hr) rfl
theorem x62_93 : AW sv 62 93 [v0, .int x, v2, v3] r h 0 0 Q = AW sv 62 94 [v0, .int x, v2, v3] (.int x :: r) h 0 0 Q := e_pv am_h62 dX8_cue_93 rfl rfl rfl rfl
theorem x62_94 : AW sv 62 94 [v0, v1, v2, v3] r h 0 0 Q = AW sv 62 95 [v0, v1, v2, v3] (.int (1) :: r) h 0 0 Q := e_iconstv am_h62 dX8_cue_94 c_iconst_1
theorem x62_95 : AW sv 62 95 [v0, v1, v2, .int x] r h 0 0 Q = AW sv 62 96 [v0, v1, v2, .int x] (.int x :: r) h 0 0 Q := e_pv am_h62 dX8_cue_95 rfl rfl rfl rfl
theorem x62_96 : AW sv 62 96 [v0, v1, v2, v3] (.int y :: .int x :: r) h 0 0 Q = AW sv 62 97 [v0, v1, v2, v3] (.int (x + y) :: r) h 0 0 Q := e_iadd am_h62 dX8_cue_96
theorem x62_97 (h8 : am_cs r ≤ 8) : AW sv 62 97 [v0, v1, v2, v3] (.int x2 :: .int x1 :: .ref b0 :: r) h 0 0 Q = AM sv 99 [.ref b0, .int x1, .int x2] h (fun v h1 => AW sv 62 100 [v0, v1, v2, v3] (v.toList ++ r) h1 0 0 Q) := e_cS (as := [.ref b0, .int x1, .int x2]) am_h62 dX8_cue_97 ml_8_57 (by decide) am_h99 rfl rfl rfl ⟨by decide, Nat.le_of_ble_eq_true rfl, am_rc_of (by decide) h8⟩
theorem x62_100 : AW sv 62 100 [v0, v1, v2, v3] [.int x] h 0 0 Q = Q (some (.int x)) h := e_iret am_h62 dX8_cue_100 rfl ⟨rfl, rfl⟩
theorem n62 : AM sv 62 [.ref a, .int x0, .int x1, .int x2] h Q = AW sv 62 0 [.ref a, .int x0, .int x1, .int x2] [] h 0 0 Q := rfl
theorem x63_0 : AW sv 63 0 [v0, .int x, v2] r h 0 0 Q = AW sv 63 1 [v0, .int x, v2] (.int x :: r) h 0 0 Q := e_pv am_h63 dX8_stand_0 rfl rfl rfl rfl
theorem x63_1 : AW sv 63 1 [v0, v1, v2] r h 0 0 Q = AW sv 63 2 [v0, v1, v2] (.int (4) :: r) h 0 0 Q := e_iconstv am_h63 dX8_stand_1 c_iconst_4
theorem x63_2 (h8 : am_cs r ≤ 8) : AW sv 63 2 [v0, v1, v2] (.int x1 :: .int x0 :: r) h 0 0 Q = AM sv 97 [.int x0, .int x1] h (fun v h1 => AW sv 63 5 [v0, v1, v2] (v.toList ++ r) h1 0 0 Q) := e_cS (as := [.int x0, .int x1]) am_h63 dX8_stand_2 ml_8_40 (by decide) am_h97 rfl rfl rfl ⟨by decide, Nat.le_of_ble_eq_true rfl, am_rc_of (by decide) h8⟩
theorem x63_5 : AW sv 63 5 [v0, v1, v2] (.int x :: r) h 0 0 Q = if ¬ x = 0 then AW sv 63 10 [v0, v1, v2] r h 0 0 Q else AW sv 63 8 [v0, v1, v2] r h 0 0 Q := e_z_ne am_h63 dX8_stand_5 rfl
theorem x63_8 : AW sv 63 8 [v0, v1, v2] r h 0 0 Q = AW sv 63 9 [v0, v1, v2] (.int (-1) :: r) h 0 0 Q := e_iconstv am_h63 dX8_stand_8 c_iconst_m1
theorem x63_9 : AW sv 63 9 [v0, v1, v2] [.int x] h 0 0 Q = Q (some (.int x)) h := e_iret am_h63 dX8_stand_9 rfl ⟨rfl, rfl⟩
theorem x63_10 : AW sv 63 10 [.ref a, v1, v2] r h 0 0 Q = AW sv 63 11 [.ref a, v1, v2] (.ref a :: r) h 0 0 Q := e_pv am_h63 dX8_stand_10 rfl rfl rfl rfl
theorem x63_11 : AW sv 63 11 [v0, v1, v2] (.ref 0 :: r) (am_toH σ) 0 0 Q = AW sv 63 14 [v0, v1, v2] (.ref 1 :: r) (am_toH σ) 0 0 Q := e_getR am_h63 dX8_stand_11 fl_8_10 is8 rfl
theorem x63_14 (hr : am_St a) : AW sv 63 14 [v0, v1, v2] (.ref a :: r) (am_toH σ) 0 0 Q = AW sv 63 17 [v0, v1, v2] (.int (σ.1 a 5) :: r) (am_toH σ) 0 0 Q := e_getI am_h63 dX8_stand_14 fl_8_70 (is5 hr) rfl
theorem x63_17 (hc : v1.category = 1) : AW sv 63 17 [v0, v1, v2] (.int x :: r) h 0 0 Q = AW sv 63 18 [v0, v1, .int x] r h 0 0 Q := e_pv am_h63 dX8_stand_17 rfl rfl rfl (am_sti_of (Nat.le_of_ble_eq_true rfl) (am_c1_of rfl hc))
theorem x63_18 : AW sv 63 18 [.ref a, v1, v2] r h 0 0 Q = AW sv 63 19 [.ref a, v1, v2] (.ref a :: r) h 0 0 Q := e_pv am_h63 dX8_stand_18 rfl rfl rfl rfl
theorem x63_19 : AW sv 63 19 [v0, v1, v2] (.ref 0 :: r) (am_toH σ) 0 0 Q = AW sv 63 22 [v0, v1, v2] (.ref 1 :: r) (am_toH σ) 0 0 Q := e_getR am_h63 dX8_stand_19 fl_8_10 is8 rfl
theorem x63_22 : AW sv 63 22 [v0, .int x, v2] r h 0 0 Q = AW sv 63 23 [v0, .int x, v2] (.int x :: r) h 0 0 Q := e_pv am_h63 dX8_stand_22 rfl rfl rfl rfl
theorem x63_23 (hr : am_St a) : AW sv 63 23 [v0, v1, v2] (.int x :: .ref a :: r) (am_toH σ) 0 0 Q = AW sv 63 26 [v0, v1, v2] r (am_toH (am_wr σ a (upd (σ.1 a) 5 x))) 0 0 Q := e_putI am_h63 dX8_stand_23 fl_8_70 (is5 hr) rfl rfl rfl
theorem x63_26 : AW sv 63 26 [v0, v1, .int x] r h 0 0 Q = AW sv 63 27 [v0, v1, .int x] (.int x :: r) h 0 0 Q := e_pv am_h63 dX8_stand_26 rfl rfl rfl rfl
theorem x63_27 : AW sv 63 27 [v0, v1, v2] [.int x] h 0 0 Q = Q (some (.int x)) h := e_iret am_h63 dX8_stand_27 rfl ⟨rfl, rfl⟩
theorem n63 : AM sv 63 [.ref a, .int x0] h Q = AW sv 63 0 [.ref a, .int x0, .null] [] h 0 0 Q := rfl
theorem x64_0 : AW sv 64 0 [v0, .int x, v2] r h 0 0 Q = AW sv 64 1 [v0, .int x, v2] (.int x :: r) h 0 0 Q := e_pv am_h64 dX8_habit_0 rfl rfl rfl rfl
theorem x64_1 : AW sv 64 1 [v0, v1, v2] r h 0 0 Q = AW sv 64 2 [v0, v1, v2] (.int (5) :: r) h 0 0 Q := e_iconstv am_h64 dX8_habit_1 c_iconst_5
theorem x64_2 (h8 : am_cs r ≤ 8) : AW sv 64 2 [v0, v1, v2] (.int x1 :: .int x0 :: r) h 0 0 Q = AM sv 97 [.int x0, .int x1] h (fun v h1 => AW sv 64 5 [v0, v1, v2] (v.toList ++ r) h1 0 0 Q) := e_cS (as := [.int x0, .int x1]) am_h64 dX8_habit_2 ml_8_40 (by decide) am_h97 rfl rfl rfl ⟨by decide, Nat.le_of_ble_eq_true rfl, am_rc_of (by decide) h8⟩
theorem x64_5 : AW sv 64 5 [v0, v1, v2] (.int x :: r) h 0 0 Q = if x = 0 then AW sv 64 21 [v0, v1, v2] r h 0 0 Q else AW sv 64 8 [v0, v1, v2] r h 0 0 Q := e_z_eq am_h64 dX8_habit_5 rfl
theorem x64_8 : AW sv 64 8 [v0, v1, .int x] r h 0 0 Q = AW sv 64 9 [v0, v1, .int x] (.int x :: r) h 0 0 Q := e_pv am_h64 dX8_habit_8 rfl rfl rfl rfl
theorem x64_9 : AW sv 64 9 [v0, v1, v2] (.int x :: r) h 0 0 Q = if x < 0 then AW sv 64 21 [v0, v1, v2] r h 0 0 Q else AW sv 64 12 [v0, v1, v2] r h 0 0 Q := e_z_lt am_h64 dX8_habit_9 rfl
theorem x64_12 : AW sv 64 12 [v0, v1, .int x] r h 0 0 Q = AW sv 64 13 [v0, v1, .int x] (.int x :: r) h 0 0 Q := e_pv am_h64 dX8_habit_12 rfl rfl rfl rfl
theorem x64_13 : AW sv 64 13 [v0, v1, v2] r h 0 0 Q = AW sv 64 16 [v0, v1, v2] (.float 0 :: r) h 0 0 Q := e_gets am_h64 dX8_habit_13 (t := 0) (by decide +kernel) rfl
theorem x64_16 : AW sv 64 16 [v0, .int x, v2] r h 0 0 Q = AW sv 64 17 [v0, .int x, v2] (.int x :: r) h 0 0 Q := e_pv am_h64 dX8_habit_16 rfl rfl rfl rfl
theorem x64_17 (hi : am_in x (am_ln a) = true) : AW sv 64 17 [v0, v1, v2] (.int x :: .ref a :: r) (am_toH σ) 0 0 Q = AW sv 64 18 [v0, v1, v2] (.int (σ.1 a x.toNatClampNeg) :: r) (am_toH σ) 0 0 Q := e_iald am_h64 dX8_habit_17 hi
theorem x64_17s (hi : am_in x (sv 0).1 = true) : AW sv 64 17 [v0, v1, v2] (.int x :: .float 0 :: r) h 0 0 Q = AW sv 64 18 [v0, v1, v2] (.int ((sv 0).2 x.toNatClampNeg) :: r) h 0 0 Q := e_ials am_h64 dX8_habit_17 hi
theorem x64_18 : AW sv 64 18 [v0, v1, v2] (.int y :: .int x :: r) h 0 0 Q = if x ≤ y then AW sv 64 23 [v0, v1, v2] r h 0 0 Q else AW sv 64 21 [v0, v1, v2] r h 0 0 Q := e_c_le am_h64 dX8_habit_18 rfl
theorem x64_21 : AW sv 64 21 [v0, v1, v2] r h 0 0 Q = AW sv 64 22 [v0, v1, v2] (.int (-1) :: r) h 0 0 Q := e_iconstv am_h64 dX8_habit_21 c_iconst_m1
theorem x64_22 : AW sv 64 22 [v0, v1, v2] [.int x] h 0 0 Q = Q (some (.int x)) h := e_iret am_h64 dX8_habit_22 rfl ⟨rfl, rfl⟩
theorem x64_23 : AW sv 64 23 [.ref a, v1, v2] r h 0 0 Q = AW sv 64 24 [.ref a, v1, v2] (.ref a :: r) h 0 0 Q := e_pv am_h64 dX8_habit_23 rfl rfl rfl rfl
theorem x64_24 : AW sv 64 24 [v0, v1, v2] (.ref 0 :: r) (am_toH σ) 0 0 Q = AW sv 64 27 [v0, v1, v2] (.ref 1 :: r) (am_toH σ) 0 0 Q := e_getR am_h64 dX8_habit_24 fl_8_10 is8 rfl
theorem x64_27 (hr : am_St a) : AW sv 64 27 [v0, v1, v2] (.ref a :: r) (am_toH σ) 0 0 Q = AW sv 64 30 [v0, v1, v2] (.ref (a + 19) :: r) (am_toH σ) 0 0 Q := e_getR am_h64 dX8_habit_27 fl_8_77 (is5 hr) rfl
theorem x64_30 : AW sv 64 30 [v0, .int x, v2] r h 0 0 Q = AW sv 64 31 [v0, .int x, v2] (.int x :: r) h 0 0 Q := e_pv am_h64 dX8_habit_30 rfl rfl rfl rfl
theorem x64_31 : AW sv 64 31 [v0, v1, .int x] r h 0 0 Q = AW sv 64 32 [v0, v1, .int x] (.int x :: r) h 0 0 Q := e_pv am_h64 dX8_habit_31 rfl rfl rfl rfl
theorem x64_32 (h8 : am_cs r ≤ 8) : AW sv 64 32 [v0, v1, v2] (.int x2 :: .int x1 :: .ref b0 :: r) h 0 0 Q = AM sv 99 [.ref b0, .int x1, .int x2] h (fun v h1 => AW sv 64 35 [v0, v1, v2] (v.toList ++ r) h1 0 0 Q) := e_cS (as := [.ref b0, .int x1, .int x2]) am_h64 dX8_habit_32 ml_8_57 (by decide) am_h99 rfl rfl rfl ⟨by decide, Nat.le_of_ble_eq_true rfl, am_rc_of (by decide) h8⟩
theorem x64_35 : AW sv 64 35 [v0, v1, v2] [.int x] h 0 0 Q = Q (some (.int x)) h := e_iret am_h64 dX8_habit_35 rfl ⟨rfl, rfl⟩
theorem n64 : AM sv 64 [.ref a, .int x0, .int x1] h Q = AW sv 64 0 [.ref a, .int x0, .int x1] [] h 0 0 Q := rfl
theorem x65_0 : AW sv 65 0 [v0, .int x, v2] r h 0 0 Q = AW sv 65 1 [v0, .int x, v2] (.int x :: r) h 0 0 Q := e_pv am_h65 dX8_watcher_0 rfl rfl rfl rfl
theorem x65_1 : AW sv 65 1 [v0, v1, v2] r h 0 0 Q = AW sv 65 3 [v0, v1, v2] (.int (12) :: r) h 0 0 Q := e_bipushv am_h65 dX8_watcher_1 c_bipush_12
theorem x65_3 (h8 : am_cs r ≤ 8) : AW sv 65 3 [v0, v1, v2] (.int x1 :: .int x0 :: r) h 0 0 Q = AM sv 97 [.int x0, .int x1] h (fun v h1 => AW sv 65 6 [v0, v1, v2] (v.toList ++ r) h1 0 0 Q) := e_cS (as := [.int x0, .int x1]) am_h65 dX8_watcher_3 ml_8_40 (by decide) am_h97 rfl rfl rfl ⟨by decide, Nat.le_of_ble_eq_true rfl, am_rc_of (by decide) h8⟩
theorem x65_6 : AW sv 65 6 [v0, v1, v2] (.int x :: r) h 0 0 Q = if x = 0 then AW sv 65 17 [v0, v1, v2] r h 0 0 Q else AW sv 65 9 [v0, v1, v2] r h 0 0 Q := e_z_eq am_h65 dX8_watcher_6 rfl
theorem x65_9 : AW sv 65 9 [v0, v1, .int x] r h 0 0 Q = AW sv 65 10 [v0, v1, .int x] (.int x :: r) h 0 0 Q := e_pv am_h65 dX8_watcher_9 rfl rfl rfl rfl
theorem x65_10 : AW sv 65 10 [v0, v1, v2] r h 0 0 Q = AW sv 65 11 [v0, v1, v2] (.int (4) :: r) h 0 0 Q := e_iconstv am_h65 dX8_watcher_10 c_iconst_4
theorem x65_11 (h8 : am_cs r ≤ 8) : AW sv 65 11 [v0, v1, v2] (.int x1 :: .int x0 :: r) h 0 0 Q = AM sv 97 [.int x0, .int x1] h (fun v h1 => AW sv 65 14 [v0, v1, v2] (v.toList ++ r) h1 0 0 Q) := e_cS (as := [.int x0, .int x1]) am_h65 dX8_watcher_11 ml_8_40 (by decide) am_h97 rfl rfl rfl ⟨by decide, Nat.le_of_ble_eq_true rfl, am_rc_of (by decide) h8⟩
theorem x65_14 : AW sv 65 14 [v0, v1, v2] (.int x :: r) h 0 0 Q = if ¬ x = 0 then AW sv 65 19 [v0, v1, v2] r h 0 0 Q else AW sv 65 17 [v0, v1, v2] r h 0 0 Q := e_z_ne am_h65 dX8_watcher_14 rfl
theorem x65_17 : AW sv 65 17 [v0, v1, v2] r h 0 0 Q = AW sv 65 18 [v0, v1, v2] (.int (-1) :: r) h 0 0 Q := e_iconstv am_h65 dX8_watcher_17 c_iconst_m1
theorem x65_18 : AW sv 65 18 [v0, v1, v2] [.int x] h 0 0 Q = Q (some (.int x)) h := e_iret am_h65 dX8_watcher_18 rfl ⟨rfl, rfl⟩
theorem x65_19 : AW sv 65 19 [.ref a, v1, v2] r h 0 0 Q = AW sv 65 20 [.ref a, v1, v2] (.ref a :: r) h 0 0 Q := e_pv am_h65 dX8_watcher_19 rfl rfl rfl rfl
theorem x65_20 : AW sv 65 20 [v0, v1, v2] (.ref 0 :: r) (am_toH σ) 0 0 Q = AW sv 65 23 [v0, v1, v2] (.ref 1 :: r) (am_toH σ) 0 0 Q := e_getR am_h65 dX8_watcher_20 fl_8_10 is8 rfl
theorem x65_23 (hr : am_St a) : AW sv 65 23 [v0, v1, v2] (.ref a :: r) (am_toH σ) 0 0 Q = AW sv 65 26 [v0, v1, v2] (.ref (a + 7) :: r) (am_toH σ) 0 0 Q := e_getR am_h65 dX8_watcher_23 fl_8_80 (is5 hr) rfl
theorem x65_26 : AW sv 65 26 [v0, .int x, v2] r h 0 0 Q = AW sv 65 27 [v0, .int x, v2] (.int x :: r) h 0 0 Q := e_pv am_h65 dX8_watcher_26 rfl rfl rfl rfl
theorem x65_27 (hr : am_St a) (h8 : am_cs r ≤ 8) : AW sv 65 27 [v0, v1, v2] (.int x0 :: .ref (a + 7) :: r) (am_toH σ) 0 0 Q = AM sv 7 [.ref (a + 7), .int x0] (am_toH σ) (fun v h1 => AW sv 65 30 [v0, v1, v2] (v.toList ++ r) h1 0 0 Q) := e_cV (as := [.int x0]) am_h65 dX8_watcher_27 ml_8_84 (by decide) am_h7 rfl (is1 hr) rfl rfl ⟨by decide, Nat.le_of_ble_eq_true rfl, am_rc_of (by decide) h8⟩
theorem x65_30 : AW sv 65 30 [v0, v1, v2] (.int x :: r) h 0 0 Q = if x = 0 then AW sv 65 36 [v0, v1, v2] r h 0 0 Q else AW sv 65 33 [v0, v1, v2] r h 0 0 Q := e_z_eq am_h65 dX8_watcher_30 rfl
theorem x65_33 : AW sv 65 33 [v0, v1, v2] r h 0 0 Q = AW sv 65 35 [v0, v1, v2] (.int (-2) :: r) h 0 0 Q := e_bipushv am_h65 dX8_watcher_33 c_bipush_m2
theorem x65_35 : AW sv 65 35 [v0, v1, v2] [.int x] h 0 0 Q = Q (some (.int x)) h := e_iret am_h65 dX8_watcher_35 rfl ⟨rfl, rfl⟩
theorem x65_36 : AW sv 65 36 [.ref a, v1, v2] r h 0 0 Q = AW sv 65 37 [.ref a, v1, v2] (.ref a :: r) h 0 0 Q := e_pv am_h65 dX8_watcher_36 rfl rfl rfl rfl
theorem x65_37 : AW sv 65 37 [v0, v1, v2] (.ref 0 :: r) (am_toH σ) 0 0 Q = AW sv 65 40 [v0, v1, v2] (.ref 1 :: r) (am_toH σ) 0 0 Q := e_getR am_h65 dX8_watcher_37 fl_8_10 is8 rfl
theorem x65_40 (hr : am_St a) : AW sv 65 40 [v0, v1, v2] (.ref a :: r) (am_toH σ) 0 0 Q = AW sv 65 43 [v0, v1, v2] (.ref (a + 7) :: r) (am_toH σ) 0 0 Q := e_getR am_h65 dX8_watcher_40 fl_8_80 (is5 hr) rfl
theorem x65_43 (hr : am_St a) : AW sv 65 43 [v0, v1, v2] (.ref (a + 7) :: r) (am_toH σ) 0 0 Q = AW sv 65 46 [v0, v1, v2] (.int (σ.1 (a + 7) 3) :: r) (am_toH σ) 0 0 Q := e_getI am_h65 dX8_watcher_43 fl_8_90 (is1 hr) rfl
theorem x65_46 : AW sv 65 46 [v0, v1, v2] r h 0 0 Q = AW sv 65 48 [v0, v1, v2] (.int (8) :: r) h 0 0 Q := e_bipushv am_h65 dX8_watcher_46 c_bipush_8
theorem x65_48 : AW sv 65 48 [v0, v1, v2] (.int y :: .int x :: r) h 0 0 Q = if x < y then AW sv 65 54 [v0, v1, v2] r h 0 0 Q else AW sv 65 51 [v0, v1, v2] r h 0 0 Q := e_c_lt am_h65 dX8_watcher_48 rfl
theorem x65_51 : AW sv 65 51 [v0, v1, v2] r h 0 0 Q = AW sv 65 53 [v0, v1, v2] (.int (-3) :: r) h 0 0 Q := e_bipushv am_h65 dX8_watcher_51 c_bipush_m3
theorem x65_53 : AW sv 65 53 [v0, v1, v2] [.int x] h 0 0 Q = Q (some (.int x)) h := e_iret am_h65 dX8_watcher_53 rfl ⟨rfl, rfl⟩
theorem x65_54 : AW sv 65 54 [.ref a, v1, v2] r h 0 0 Q = AW sv 65 55 [.ref a, v1, v2] (.ref a :: r) h 0 0 Q := e_pv am_h65 dX8_watcher_54 rfl rfl rfl rfl
theorem x65_55 : AW sv 65 55 [v0, v1, v2] (.ref 0 :: r) (am_toH σ) 0 0 Q = AW sv 65 58 [v0, v1, v2] (.ref 1 :: r) (am_toH σ) 0 0 Q := e_getR am_h65 dX8_watcher_55 fl_8_10 is8 rfl
theorem x65_58 (hr : am_St a) : AW sv 65 58 [v0, v1, v2] (.ref a :: r) (am_toH σ) 0 0 Q = AW sv 65 61 [v0, v1, v2] (.ref (a + 7) :: r) (am_toH σ) 0 0 Q := e_getR am_h65 dX8_watcher_58 fl_8_80 (is5 hr) rfl
theorem x65_61 : AW sv 65 61 [v0, .int x, v2] r h 0 0 Q = AW sv 65 62 [v0, .int x, v2] (.int x :: r) h 0 0 Q := e_pv am_h65 dX8_watcher_61 rfl rfl rfl rfl
theorem x65_62 : AW sv 65 62 [v0, v1, .int x] r h 0 0 Q = AW sv 65 63 [v0, v1, .int x] (.int x :: r) h 0 0 Q := e_pv am_h65 dX8_watcher_62 rfl rfl rfl rfl
theorem x65_63 (hr : am_St a) (h8 : am_cs r ≤ 8) : AW sv 65 63 [v0, v1, v2] (.int x1 :: .int x0 :: .ref (a + 7) :: r) (am_toH σ) 0 0 Q = AM sv 8 [.ref (a + 7), .int x0, .int x1] (am_toH σ) (fun v h1 => AW sv 65 66 [v0, v1, v2] (v.toList ++ r) h1 0 0 Q) := e_cV (as := [.int x0, .int x1]) am_h65 dX8_watcher_63 ml_8_93 (by decide) am_h8 rfl (is1 hr) rfl rfl ⟨by decide, Nat.le_of_ble_eq_true rfl, am_rc_of (by decide) h8⟩
theorem x65_66 : AW sv 65 66 [.ref a, v1, v2] r h 0 0 Q = AW sv 65 67 [.ref a, v1, v2] (.ref a :: r) h 0 0 Q := e_pv am_h65 dX8_watcher_66 rfl rfl rfl rfl
theorem x65_67 : AW sv 65 67 [v0, v1, v2] (.ref 0 :: r) (am_toH σ) 0 0 Q = AW sv 65 70 [v0, v1, v2] (.ref 1 :: r) (am_toH σ) 0 0 Q := e_getR am_h65 dX8_watcher_67 fl_8_10 is8 rfl
theorem x65_70 (hr : am_St a) : AW sv 65 70 [v0, v1, v2] (.ref a :: r) (am_toH σ) 0 0 Q = AW sv 65 73 [v0, v1, v2] (.ref (a + 7) :: r) (am_toH σ) 0 0 Q := e_getR am_h65 dX8_watcher_70 fl_8_80 (is5 hr) rfl
theorem x65_73 (hr : am_St a) : AW sv 65 73 [v0, v1, v2] (.ref (a + 7) :: r) (am_toH σ) 0 0 Q = AW sv 65 76 [v0, v1, v2] (.int (σ.1 (a + 7) 3) :: r) (am_toH σ) 0 0 Q := e_getI am_h65 dX8_watcher_73 fl_8_90 (is1 hr) rfl
theorem x65_76 : AW sv 65 76 [v0, v1, v2] r h 0 0 Q = AW sv 65 77 [v0, v1, v2] (.int (1) :: r) h 0 0 Q := e_iconstv am_h65 dX8_watcher_76 c_iconst_1
theorem x65_77 : AW sv 65 77 [v0, v1, v2] (.int y :: .int x :: r) h 0 0 Q = AW sv 65 78 [v0, v1, v2] (.int (x - y) :: r) h 0 0 Q := e_isub am_h65 dX8_watcher_77
theorem x65_78 : AW sv 65 78 [v0, v1, v2] [.int x] h 0 0 Q = Q (some (.int x)) h := e_iret am_h65 dX8_watcher_78 rfl ⟨rfl, rfl⟩
theorem n65 : AM sv 65 [.ref a, .int x0, .int x1] h Q = AW sv 65 0 [.ref a, .int x0, .int x1] [] h 0 0 Q := rfl
theorem x66_0 : AW sv 66 0 [v0, .int x, v2] r h 0 0 Q = AW sv 66 1 [v0, .int x, v2] (.int x :: r) h 0 0 Q := e_pv am_h66 dX8_doubt_0 rfl rfl rfl rfl
theorem x66_1 : AW sv 66 1 [.ref a, v1, v2] r h 0 0 Q = AW sv 66 2 [.ref a, v1, v2] (.ref a :: r) h 0 0 Q := e_pv am_h66 dX8_doubt_1 rfl rfl rfl rfl
theorem x66_2 : AW sv 66 2 [v0, v1, v2] (.ref 0 :: r) (am_toH σ) 0 0 Q = AW sv 66 5 [v0, v1, v2] (.ref 1 :: r) (am_toH σ) 0 0 Q := e_getR am_h66 dX8_doubt_2 fl_8_10 is8 rfl
theorem x66_5 (hr : am_St a) : AW sv 66 5 [v0, v1, v2] (.ref a :: r) (am_toH σ) 0 0 Q = AW sv 66 8 [v0, v1, v2] (.ref (a + 7) :: r) (am_toH σ) 0 0 Q := e_getR am_h66 dX8_doubt_5 fl_8_80 (is5 hr) rfl
theorem x66_8 (hr : am_St a) : AW sv 66 8 [v0, v1, v2] (.ref (a + 7) :: r) (am_toH σ) 0 0 Q = AW sv 66 11 [v0, v1, v2] (.int (σ.1 (a + 7) 3) :: r) (am_toH σ) 0 0 Q := e_getI am_h66 dX8_doubt_8 fl_8_90 (is1 hr) rfl
theorem x66_11 (h8 : am_cs r ≤ 8) : AW sv 66 11 [v0, v1, v2] (.int x1 :: .int x0 :: r) h 0 0 Q = AM sv 97 [.int x0, .int x1] h (fun v h1 => AW sv 66 14 [v0, v1, v2] (v.toList ++ r) h1 0 0 Q) := e_cS (as := [.int x0, .int x1]) am_h66 dX8_doubt_11 ml_8_40 (by decide) am_h97 rfl rfl rfl ⟨by decide, Nat.le_of_ble_eq_true rfl, am_rc_of (by decide) h8⟩
theorem x66_14 : AW sv 66 14 [v0, v1, v2] (.int x :: r) h 0 0 Q = if x = 0 then AW sv 66 26 [v0, v1, v2] r h 0 0 Q else AW sv 66 17 [v0, v1, v2] r h 0 0 Q := e_z_eq am_h66 dX8_doubt_14 rfl
theorem x66_17 : AW sv 66 17 [v0, v1, .int x] r h 0 0 Q = AW sv 66 18 [v0, v1, .int x] (.int x :: r) h 0 0 Q := e_pv am_h66 dX8_doubt_17 rfl rfl rfl rfl
theorem x66_18 : AW sv 66 18 [v0, v1, v2] r h 0 0 Q = AW sv 66 20 [v0, v1, v2] (.int (10) :: r) h 0 0 Q := e_bipushv am_h66 dX8_doubt_18 c_bipush_10
theorem x66_20 (h8 : am_cs r ≤ 8) : AW sv 66 20 [v0, v1, v2] (.int x1 :: .int x0 :: r) h 0 0 Q = AM sv 97 [.int x0, .int x1] h (fun v h1 => AW sv 66 23 [v0, v1, v2] (v.toList ++ r) h1 0 0 Q) := e_cS (as := [.int x0, .int x1]) am_h66 dX8_doubt_20 ml_8_40 (by decide) am_h97 rfl rfl rfl ⟨by decide, Nat.le_of_ble_eq_true rfl, am_rc_of (by decide) h8⟩
theorem x66_23 : AW sv 66 23 [v0, v1, v2] (.int x :: r) h 0 0 Q = if ¬ x = 0 then AW sv 66 28 [v0, v1, v2] r h 0 0 Q else AW sv 66 26 [v0, v1, v2] r h 0 0 Q := e_z_ne am_h66 dX8_doubt_23 rfl
theorem x66_26 : AW sv 66 26 [v0, v1, v2] r h 0 0 Q = AW sv 66 27 [v0, v1, v2] (.int (-1) :: r) h 0 0 Q := e_iconstv am_h66 dX8_doubt_26 c_iconst_m1
theorem x66_27 : AW sv 66 27 [v0, v1, v2] [.int x] h 0 0 Q = Q (some (.int x)) h := e_iret am_h66 dX8_doubt_27 rfl ⟨rfl, rfl⟩
theorem x66_28 : AW sv 66 28 [.ref a, v1, v2] r h 0 0 Q = AW sv 66 29 [.ref a, v1, v2] (.ref a :: r) h 0 0 Q := e_pv am_h66 dX8_doubt_28 rfl rfl rfl rfl
theorem x66_29 : AW sv 66 29 [v0, v1, v2] (.ref 0 :: r) (am_toH σ) 0 0 Q = AW sv 66 32 [v0, v1, v2] (.ref 1 :: r) (am_toH σ) 0 0 Q := e_getR am_h66 dX8_doubt_29 fl_8_10 is8 rfl
theorem x66_32 (hr : am_St a) : AW sv 66 32 [v0, v1, v2] (.ref a :: r) (am_toH σ) 0 0 Q = AW sv 66 35 [v0, v1, v2] (.ref (a + 7) :: r) (am_toH σ) 0 0 Q := e_getR am_h66 dX8_doubt_32 fl_8_80 (is5 hr) rfl
theorem x66_35 (hr : am_St a) : AW sv 66 35 [v0, v1, v2] (.ref (a + 7) :: r) (am_toH σ) 0 0 Q = AW sv 66 38 [v0, v1, v2] (.ref (a + 9) :: r) (am_toH σ) 0 0 Q := e_getR am_h66 dX8_doubt_35 fl_8_97 (is1 hr) rfl
theorem x66_38 : AW sv 66 38 [v0, .int x, v2] r h 0 0 Q = AW sv 66 39 [v0, .int x, v2] (.int x :: r) h 0 0 Q := e_pv am_h66 dX8_doubt_38 rfl rfl rfl rfl
theorem x66_39 (hi : am_in x (am_ln a) = true) : AW sv 66 39 [v0, v1, v2] (.int x :: .ref a :: r) (am_toH σ) 0 0 Q = AW sv 66 40 [v0, v1, v2] (.int (σ.1 a x.toNatClampNeg) :: r) (am_toH σ) 0 0 Q := e_iald am_h66 dX8_doubt_39 hi
theorem x66_40 : AW sv 66 40 [v0, v1, v2] r h 0 0 Q = AW sv 66 41 [v0, v1, v2] (.int (1) :: r) h 0 0 Q := e_iconstv am_h66 dX8_doubt_40 c_iconst_1
theorem x66_41 : AW sv 66 41 [v0, v1, v2] (.int y :: .int x :: r) h 0 0 Q = if x = y then AW sv 66 47 [v0, v1, v2] r h 0 0 Q else AW sv 66 44 [v0, v1, v2] r h 0 0 Q := e_c_eq am_h66 dX8_doubt_41 rfl
theorem x66_44 : AW sv 66 44 [v0, v1, v2] r h 0 0 Q = AW sv 66 46 [v0, v1, v2] (.int (-12) :: r) h 0 0 Q := e_bipushv am_h66 dX8_doubt_44 c_bipush_m12
theorem x66_46 : AW sv 66 46 [v0, v1, v2] [.int x] h 0 0 Q = Q (some (.int x)) h := e_iret am_h66 dX8_doubt_46 rfl ⟨rfl, rfl⟩
theorem x66_47 : AW sv 66 47 [.ref a, v1, v2] r h 0 0 Q = AW sv 66 48 [.ref a, v1, v2] (.ref a :: r) h 0 0 Q := e_pv am_h66 dX8_doubt_47 rfl rfl rfl rfl
theorem x66_48 : AW sv 66 48 [v0, v1, v2] (.ref 0 :: r) (am_toH σ) 0 0 Q = AW sv 66 51 [v0, v1, v2] (.ref 1 :: r) (am_toH σ) 0 0 Q := e_getR am_h66 dX8_doubt_48 fl_8_10 is8 rfl
theorem x66_51 (hr : am_St a) : AW sv 66 51 [v0, v1, v2] (.ref a :: r) (am_toH σ) 0 0 Q = AW sv 66 54 [v0, v1, v2] (.ref (a + 7) :: r) (am_toH σ) 0 0 Q := e_getR am_h66 dX8_doubt_51 fl_8_80 (is5 hr) rfl
theorem x66_54 (hr : am_St a) : AW sv 66 54 [v0, v1, v2] (.ref (a + 7) :: r) (am_toH σ) 0 0 Q = AW sv 66 57 [v0, v1, v2] (.ref (a + 10) :: r) (am_toH σ) 0 0 Q := e_getR am_h66 dX8_doubt_54 fl_8_100 (is1 hr) rfl
theorem x66_57 : AW sv 66 57 [v0, .int x, v2] r h 0 0 Q = AW sv 66 58 [v0, .int x, v2] (.int x :: r) h 0 0 Q := e_pv am_h66 dX8_doubt_57 rfl rfl rfl rfl
theorem x66_58 : AW sv 66 58 [v0, v1, .int x] r h 0 0 Q = AW sv 66 59 [v0, v1, .int x] (.int x :: r) h 0 0 Q := e_pv am_h66 dX8_doubt_58 rfl rfl rfl rfl
theorem x66_59 (h8 : am_cs r ≤ 8) : AW sv 66 59 [v0, v1, v2] (.int x2 :: .int x1 :: .ref b0 :: r) h 0 0 Q = AM sv 99 [.ref b0, .int x1, .int x2] h (fun v h1 => AW sv 66 62 [v0, v1, v2] (v.toList ++ r) h1 0 0 Q) := e_cS (as := [.ref b0, .int x1, .int x2]) am_h66 dX8_doubt_59 ml_8_57 (by decide) am_h99 rfl rfl rfl ⟨by decide, Nat.le_of_ble_eq_true rfl, am_rc_of (by decide) h8⟩
theorem x66_62 : AW sv 66 62 [v0, v1, v2] [.int x] h 0 0 Q = Q (some (.int x)) h := e_iret am_h66 dX8_doubt_62 rfl ⟨rfl, rfl⟩
theorem n66 : AM sv 66 [.ref a, .int x0, .int x1] h Q = AW sv 66 0 [.ref a, .int x0, .int x1] [] h 0 0 Q := rfl
theorem x67_0 : AW sv 67 0 [v0, .int x, v2, v3] r h 0 0 Q = AW sv 67 1 [v0, .int x, v2, v3] (.int x :: r) h 0 0 Q := e_pv am_h67 dX8_told_0 rfl rfl rfl rfl
theorem x67_1 : AW sv 67 1 [.ref a, v1, v2, v3] r h 0 0 Q = AW sv 67 2 [.ref a, v1, v2, v3] (.ref a :: r) h 0 0 Q := e_pv am_h67 dX8_told_1 rfl rfl rfl rfl
theorem x67_2 : AW sv 67 2 [v0, v1, v2, v3] (.ref 0 :: r) (am_toH σ) 0 0 Q = AW sv 67 5 [v0, v1, v2, v3] (.ref 1 :: r) (am_toH σ) 0 0 Q := e_getR am_h67 dX8_told_2 fl_8_10 is8 rfl
theorem x67_5 (hr : am_St a) : AW sv 67 5 [v0, v1, v2, v3] (.ref a :: r) (am_toH σ) 0 0 Q = AW sv 67 8 [v0, v1, v2, v3] (.ref (a + 7) :: r) (am_toH σ) 0 0 Q := e_getR am_h67 dX8_told_5 fl_8_80 (is5 hr) rfl
theorem x67_8 (hr : am_St a) : AW sv 67 8 [v0, v1, v2, v3] (.ref (a + 7) :: r) (am_toH σ) 0 0 Q = AW sv 67 11 [v0, v1, v2, v3] (.int (σ.1 (a + 7) 3) :: r) (am_toH σ) 0 0 Q := e_getI am_h67 dX8_told_8 fl_8_90 (is1 hr) rfl
theorem x67_11 (h8 : am_cs r ≤ 8) : AW sv 67 11 [v0, v1, v2, v3] (.int x1 :: .int x0 :: r) h 0 0 Q = AM sv 97 [.int x0, .int x1] h (fun v h1 => AW sv 67 14 [v0, v1, v2, v3] (v.toList ++ r) h1 0 0 Q) := e_cS (as := [.int x0, .int x1]) am_h67 dX8_told_11 ml_8_40 (by decide) am_h97 rfl rfl rfl ⟨by decide, Nat.le_of_ble_eq_true rfl, am_rc_of (by decide) h8⟩
theorem x67_14 : AW sv 67 14 [v0, v1, v2, v3] (.int x :: r) h 0 0 Q = if x = 0 then AW sv 67 25 [v0, v1, v2, v3] r h 0 0 Q else AW sv 67 17 [v0, v1, v2, v3] r h 0 0 Q := e_z_eq am_h67 dX8_told_14 rfl
theorem x67_17 : AW sv 67 17 [v0, v1, .int x, v3] r h 0 0 Q = AW sv 67 18 [v0, v1, .int x, v3] (.int x :: r) h 0 0 Q := e_pv am_h67 dX8_told_17 rfl rfl rfl rfl
theorem x67_18 : AW sv 67 18 [v0, v1, v2, v3] r h 0 0 Q = AW sv 67 19 [v0, v1, v2, v3] (.int (3) :: r) h 0 0 Q := e_iconstv am_h67 dX8_told_18 c_iconst_3
theorem x67_19 (h8 : am_cs r ≤ 8) : AW sv 67 19 [v0, v1, v2, v3] (.int x1 :: .int x0 :: r) h 0 0 Q = AM sv 97 [.int x0, .int x1] h (fun v h1 => AW sv 67 22 [v0, v1, v2, v3] (v.toList ++ r) h1 0 0 Q) := e_cS (as := [.int x0, .int x1]) am_h67 dX8_told_19 ml_8_40 (by decide) am_h97 rfl rfl rfl ⟨by decide, Nat.le_of_ble_eq_true rfl, am_rc_of (by decide) h8⟩
theorem x67_22 : AW sv 67 22 [v0, v1, v2, v3] (.int x :: r) h 0 0 Q = if ¬ x = 0 then AW sv 67 27 [v0, v1, v2, v3] r h 0 0 Q else AW sv 67 25 [v0, v1, v2, v3] r h 0 0 Q := e_z_ne am_h67 dX8_told_22 rfl
theorem x67_25 : AW sv 67 25 [v0, v1, v2, v3] r h 0 0 Q = AW sv 67 26 [v0, v1, v2, v3] (.int (-1) :: r) h 0 0 Q := e_iconstv am_h67 dX8_told_25 c_iconst_m1
theorem x67_26 : AW sv 67 26 [v0, v1, v2, v3] [.int x] h 0 0 Q = Q (some (.int x)) h := e_iret am_h67 dX8_told_26 rfl ⟨rfl, rfl⟩
theorem x67_27 : AW sv 67 27 [v0, v1, .int x, v3] r h 0 0 Q = AW sv 67 28 [v0, v1, .int x, v3] (.int x :: r) h 0 0 Q := e_pv am_h67 dX8_told_27 rfl rfl rfl rfl
theorem x67_28 : AW sv 67 28 [v0, v1, v2, v3] (.int x :: r) h 0 0 Q = if ¬ x = 0 then AW sv 67 44 [v0, v1, v2, v3] r h 0 0 Q else AW sv 67 31 [v0, v1, v2, v3] r h 0 0 Q := e_z_ne am_h67 dX8_told_28 rfl
theorem x67_31 : AW sv 67 31 [.ref a, v1, v2, v3] r h 0 0 Q = AW sv 67 32 [.ref a, v1, v2, v3] (.ref a :: r) h 0 0 Q := e_pv am_h67 dX8_told_31 rfl rfl rfl rfl
theorem x67_32 : AW sv 67 32 [v0, v1, v2, v3] (.ref 0 :: r) (am_toH σ) 0 0 Q = AW sv 67 35 [v0, v1, v2, v3] (.ref 1 :: r) (am_toH σ) 0 0 Q := e_getR am_h67 dX8_told_32 fl_8_10 is8 rfl
theorem x67_35 (hr : am_St a) : AW sv 67 35 [v0, v1, v2, v3] (.ref a :: r) (am_toH σ) 0 0 Q = AW sv 67 38 [v0, v1, v2, v3] (.ref (a + 7) :: r) (am_toH σ) 0 0 Q := e_getR am_h67 dX8_told_35 fl_8_80 (is5 hr) rfl
theorem x67_38 (hr : am_St a) : AW sv 67 38 [v0, v1, v2, v3] (.ref (a + 7) :: r) (am_toH σ) 0 0 Q = AW sv 67 41 [v0, v1, v2, v3] (.ref (a + 8) :: r) (am_toH σ) 0 0 Q := e_getR am_h67 dX8_told_38 fl_8_103 (is1 hr) rfl
theorem x67_41 : AW sv 67 41 [v0, .int x, v2, v3] r h 0 0 Q = AW sv 67 42 [v0, .int x, v2, v3] (.int x :: r) h 0 0 Q := e_pv am_h67 dX8_told_41 rfl rfl rfl rfl
theorem x67_42 (hi : am_in x (am_ln a) = true) : AW sv 67 42 [v0, v1, v2, v3] (.int x :: .ref a :: r) (am_toH σ) 0 0 Q = AW sv 67 43 [v0, v1, v2, v3] (.int (σ.1 a x.toNatClampNeg) :: r) (am_toH σ) 0 0 Q := e_iald am_h67 dX8_told_42 hi
theorem x67_43 : AW sv 67 43 [v0, v1, v2, v3] [.int x] h 0 0 Q = Q (some (.int x)) h := e_iret am_h67 dX8_told_43 rfl ⟨rfl, rfl⟩
theorem x67_44 : AW sv 67 44 [.ref a, v1, v2, v3] r h 0 0 Q = AW sv 67 45 [.ref a, v1, v2, v3] (.ref a :: r) h 0 0 Q := e_pv am_h67 dX8_told_44 rfl rfl rfl rfl
theorem x67_45 : AW sv 67 45 [v0, v1, v2, v3] (.ref 0 :: r) (am_toH σ) 0 0 Q = AW sv 67 48 [v0, v1, v2, v3] (.ref 1 :: r) (am_toH σ) 0 0 Q := e_getR am_h67 dX8_told_45 fl_8_10 is8 rfl
theorem x67_48 (hr : am_St a) : AW sv 67 48 [v0, v1, v2, v3] (.ref a :: r) (am_toH σ) 0 0 Q = AW sv 67 51 [v0, v1, v2, v3] (.ref (a + 7) :: r) (am_toH σ) 0 0 Q := e_getR am_h67 dX8_told_48 fl_8_80 (is5 hr) rfl
theorem x67_51 (hr : am_St a) : AW sv 67 51 [v0, v1, v2, v3] (.ref (a + 7) :: r) (am_toH σ) 0 0 Q = AW sv 67 54 [v0, v1, v2, v3] (.ref (a + 9) :: r) (am_toH σ) 0 0 Q := e_getR am_h67 dX8_told_51 fl_8_97 (is1 hr) rfl
theorem x67_54 : AW sv 67 54 [v0, .int x, v2, v3] r h 0 0 Q = AW sv 67 55 [v0, .int x, v2, v3] (.int x :: r) h 0 0 Q := e_pv am_h67 dX8_told_54 rfl rfl rfl rfl
theorem x67_55 (hi : am_in x (am_ln a) = true) : AW sv 67 55 [v0, v1, v2, v3] (.int x :: .ref a :: r) (am_toH σ) 0 0 Q = AW sv 67 56 [v0, v1, v2, v3] (.int (σ.1 a x.toNatClampNeg) :: r) (am_toH σ) 0 0 Q := e_iald am_h67 dX8_told_55 hi
theorem x67_56 (hc : v2.category = 1) : AW sv 67 56 [v0, v1, v2, v3] (.int x :: r) h 0 0 Q = AW sv 67 57 [v0, v1, v2, .int x] r h 0 0 Q := e_pv am_h67 dX8_told_56 rfl rfl rfl (am_sti_of (Nat.le_of_ble_eq_true rfl) (am_c1_of rfl hc))
theorem x67_57 : AW sv 67 57 [v0, v1, .int x, v3] r h 0 0 Q = AW sv 67 58 [v0, v1, .int x, v3] (.int x :: r) h 0 0 Q := e_pv am_h67 dX8_told_57 rfl rfl rfl rfl
theorem x67_58 : AW sv 67 58 [v0, v1, v2, v3] r h 0 0 Q = AW sv 67 59 [v0, v1, v2, v3] (.int (1) :: r) h 0 0 Q := e_iconstv am_h67 dX8_told_58 c_iconst_1
theorem x67_59 : AW sv 67 59 [v0, v1, v2, v3] (.int y :: .int x :: r) h 0 0 Q = if ¬ x = y then AW sv 67 66 [v0, v1, v2, v3] r h 0 0 Q else AW sv 67 62 [v0, v1, v2, v3] r h 0 0 Q := e_c_ne am_h67 dX8_told_59 rfl
theorem x67_62 : AW sv 67 62 [v0, v1, v2, .int x] r h 0 0 Q = AW sv 67 63 [v0, v1, v2, .int x] (.int x :: r) h 0 0 Q := e_pv am_h67 dX8_told_62 rfl rfl rfl rfl
theorem x67_63 : AW sv 67 63 [v0, v1, v2, v3] r h 0 0 Q = AW sv 67 97 [v0, v1, v2, v3] r h 0 0 Q := e_goto am_h67 dX8_told_63 rfl
theorem x67_66 : AW sv 67 66 [.ref a, v1, v2, v3] r h 0 0 Q = AW sv 67 67 [.ref a, v1, v2, v3] (.ref a :: r) h 0 0 Q := e_pv am_h67 dX8_told_66 rfl rfl rfl rfl
theorem x67_67 : AW sv 67 67 [v0, v1, v2, v3] (.ref 0 :: r) (am_toH σ) 0 0 Q = AW sv 67 70 [v0, v1, v2, v3] (.ref 1 :: r) (am_toH σ) 0 0 Q := e_getR am_h67 dX8_told_67 fl_8_10 is8 rfl
theorem x67_70 (hr : am_St a) : AW sv 67 70 [v0, v1, v2, v3] (.ref a :: r) (am_toH σ) 0 0 Q = AW sv 67 73 [v0, v1, v2, v3] (.ref (a + 1) :: r) (am_toH σ) 0 0 Q := e_getR am_h67 dX8_told_70 fl_8_44 (is5 hr) rfl
theorem x67_73 : AW sv 67 73 [v0, v1, v2, v3] r h 0 0 Q = AW sv 67 75 [v0, v1, v2, v3] (.int (15) :: r) h 0 0 Q := e_bipushv am_h67 dX8_told_73 c_bipush_15
theorem x67_75 : AW sv 67 75 [v0, v1, v2, .int x] r h 0 0 Q = AW sv 67 76 [v0, v1, v2, .int x] (.int x :: r) h 0 0 Q := e_pv am_h67 dX8_told_75 rfl rfl rfl rfl
theorem x67_76 : AW sv 67 76 [v0, v1, v2, v3] r h 0 0 Q = AW sv 67 77 [v0, v1, v2, v3] (.int (2) :: r) h 0 0 Q := e_iconstv am_h67 dX8_told_76 c_iconst_2
theorem x67_77 : AW sv 67 77 [v0, v1, v2, v3] (.int y :: .int x :: r) h 0 0 Q = if ¬ x = y then AW sv 67 84 [v0, v1, v2, v3] r h 0 0 Q else AW sv 67 80 [v0, v1, v2, v3] r h 0 0 Q := e_c_ne am_h67 dX8_told_77 rfl
theorem x67_80 : AW sv 67 80 [v0, v1, v2, v3] r h 0 0 Q = AW sv 67 81 [v0, v1, v2, v3] (.int (1) :: r) h 0 0 Q := e_iconstv am_h67 dX8_told_80 c_iconst_1
theorem x67_81 : AW sv 67 81 [v0, v1, v2, v3] r h 0 0 Q = AW sv 67 85 [v0, v1, v2, v3] r h 0 0 Q := e_goto am_h67 dX8_told_81 rfl
theorem x67_84 : AW sv 67 84 [v0, v1, v2, v3] r h 0 0 Q = AW sv 67 85 [v0, v1, v2, v3] (.int (0) :: r) h 0 0 Q := e_iconstv am_h67 dX8_told_84 c_iconst_0
theorem x67_85 : AW sv 67 85 [.ref a, v1, v2, v3] r h 0 0 Q = AW sv 67 86 [.ref a, v1, v2, v3] (.ref a :: r) h 0 0 Q := e_pv am_h67 dX8_told_85 rfl rfl rfl rfl
theorem x67_86 : AW sv 67 86 [v0, v1, v2, v3] (.ref 0 :: r) (am_toH σ) 0 0 Q = AW sv 67 89 [v0, v1, v2, v3] (.ref 1 :: r) (am_toH σ) 0 0 Q := e_getR am_h67 dX8_told_86 fl_8_10 is8 rfl
theorem x67_89 (hr : am_St a) : AW sv 67 89 [v0, v1, v2, v3] (.ref a :: r) (am_toH σ) 0 0 Q = AW sv 67 92 [v0, v1, v2, v3] (.ref (a + 19) :: r) (am_toH σ) 0 0 Q := e_getR am_h67 dX8_told_89 fl_8_77 (is5 hr) rfl
theorem x67_92 : AW sv 67 92 [v0, v1, v2, v3] r h 0 0 Q = AW sv 67 93 [v0, v1, v2, v3] (.int (2) :: r) h 0 0 Q := e_iconstv am_h67 dX8_told_92 c_iconst_2
theorem x67_93 (hi : am_in x (am_ln a) = true) : AW sv 67 93 [v0, v1, v2, v3] (.int x :: .ref a :: r) (am_toH σ) 0 0 Q = AW sv 67 94 [v0, v1, v2, v3] (.int (σ.1 a x.toNatClampNeg) :: r) (am_toH σ) 0 0 Q := e_iald am_h67 dX8_told_93 hi
theorem x67_94 (hr : am_St a) (h8 : am_cs r ≤ 8) : AW sv 67 94 [v0, v1, v2, v3] (.int x2 :: .int x1 :: .int x0 :: .ref (a + 1) :: r) (am_toH σ) 0 0 Q = AM sv 16 [.ref (a + 1), .int x0, .int x1, .int x2] (am_toH σ) (fun v h1 => AW sv 67 97 [v0, v1, v2, v3] (v.toList ++ r) h1 0 0 Q) := e_cV (as := [.int x0, .int x1, .int x2]) am_h67 dX8_told_94 ml_8_106 (by decide) am_h16 rfl (is3 hr) rfl rfl ⟨by decide, Nat.le_of_ble_eq_true rfl, am_rc_of (by decide) h8⟩
theorem x67_97 : AW sv 67 97 [v0, v1, v2, v3] [.int x] h 0 0 Q = Q (some (.int x)) h := e_iret am_h67 dX8_told_97 rfl ⟨rfl, rfl⟩
theorem n67 : AM sv 67 [.ref a, .int x0, .int x1] h Q = AW sv 67 0 [.ref a, .int x0, .int x1, .null] [] h 0 0 Q := rfl
theorem x68_0 : AW sv 68 0 [v0, .int x] r h 0 0 Q = AW sv 68 1 [v0, .int x] (.int x :: r) h 0 0 Q := e_pv am_h68 dX8_leave_0 rfl rfl rfl rfl
theorem x68_1 : AW sv 68 1 [.ref a, v1] r h 0 0 Q = AW sv 68 2 [.ref a, v1] (.ref a :: r) h 0 0 Q := e_pv am_h68 dX8_leave_1 rfl rfl rfl rfl
theorem x68_2 : AW sv 68 2 [v0, v1] (.ref 0 :: r) (am_toH σ) 0 0 Q = AW sv 68 5 [v0, v1] (.ref 1 :: r) (am_toH σ) 0 0 Q := e_getR am_h68 dX8_leave_2 fl_8_10 is8 rfl
theorem x68_5 (hr : am_St a) : AW sv 68 5 [v0, v1] (.ref a :: r) (am_toH σ) 0 0 Q = AW sv 68 8 [v0, v1] (.ref (a + 7) :: r) (am_toH σ) 0 0 Q := e_getR am_h68 dX8_leave_5 fl_8_80 (is5 hr) rfl
theorem x68_8 (hr : am_St a) : AW sv 68 8 [v0, v1] (.ref (a + 7) :: r) (am_toH σ) 0 0 Q = AW sv 68 11 [v0, v1] (.int (σ.1 (a + 7) 3) :: r) (am_toH σ) 0 0 Q := e_getI am_h68 dX8_leave_8 fl_8_90 (is1 hr) rfl
theorem x68_11 (h8 : am_cs r ≤ 8) : AW sv 68 11 [v0, v1] (.int x1 :: .int x0 :: r) h 0 0 Q = AM sv 97 [.int x0, .int x1] h (fun v h1 => AW sv 68 14 [v0, v1] (v.toList ++ r) h1 0 0 Q) := e_cS (as := [.int x0, .int x1]) am_h68 dX8_leave_11 ml_8_40 (by decide) am_h97 rfl rfl rfl ⟨by decide, Nat.le_of_ble_eq_true rfl, am_rc_of (by decide) h8⟩
theorem x68_14 : AW sv 68 14 [v0, v1] (.int x :: r) h 0 0 Q = if ¬ x = 0 then AW sv 68 19 [v0, v1] r h 0 0 Q else AW sv 68 17 [v0, v1] r h 0 0 Q := e_z_ne am_h68 dX8_leave_14 rfl
theorem x68_17 : AW sv 68 17 [v0, v1] r h 0 0 Q = AW sv 68 18 [v0, v1] (.int (-1) :: r) h 0 0 Q := e_iconstv am_h68 dX8_leave_17 c_iconst_m1
theorem x68_18 : AW sv 68 18 [v0, v1] [.int x] h 0 0 Q = Q (some (.int x)) h := e_iret am_h68 dX8_leave_18 rfl ⟨rfl, rfl⟩
theorem x68_19 : AW sv 68 19 [.ref a, v1] r h 0 0 Q = AW sv 68 20 [.ref a, v1] (.ref a :: r) h 0 0 Q := e_pv am_h68 dX8_leave_19 rfl rfl rfl rfl
theorem x68_20 : AW sv 68 20 [v0, v1] (.ref 0 :: r) (am_toH σ) 0 0 Q = AW sv 68 23 [v0, v1] (.ref 1 :: r) (am_toH σ) 0 0 Q := e_getR am_h68 dX8_leave_20 fl_8_10 is8 rfl
theorem x68_23 (hr : am_St a) : AW sv 68 23 [v0, v1] (.ref a :: r) (am_toH σ) 0 0 Q = AW sv 68 26 [v0, v1] (.ref (a + 7) :: r) (am_toH σ) 0 0 Q := e_getR am_h68 dX8_leave_23 fl_8_80 (is5 hr) rfl
theorem x68_26 : AW sv 68 26 [v0, .int x] r h 0 0 Q = AW sv 68 27 [v0, .int x] (.int x :: r) h 0 0 Q := e_pv am_h68 dX8_leave_26 rfl rfl rfl rfl
theorem x68_27 (hr : am_St a) (h8 : am_cs r ≤ 8) : AW sv 68 27 [v0, v1] (.int x0 :: .ref (a + 7) :: r) (am_toH σ) 0 0 Q = AM sv 9 [.ref (a + 7), .int x0] (am_toH σ) (fun v h1 => AW sv 68 30 [v0, v1] (v.toList ++ r) h1 0 0 Q) := e_cV (as := [.int x0]) am_h68 dX8_leave_27 ml_8_110 (by decide) am_h9 rfl (is1 hr) rfl rfl ⟨by decide, Nat.le_of_ble_eq_true rfl, am_rc_of (by decide) h8⟩
theorem x68_30 : AW sv 68 30 [.ref a, v1] r h 0 0 Q = AW sv 68 31 [.ref a, v1] (.ref a :: r) h 0 0 Q := e_pv am_h68 dX8_leave_30 rfl rfl rfl rfl
theorem x68_31 : AW sv 68 31 [v0, v1] (.ref 0 :: r) (am_toH σ) 0 0 Q = AW sv 68 34 [v0, v1] (.ref 1 :: r) (am_toH σ) 0 0 Q := e_getR am_h68 dX8_leave_31 fl_8_10 is8 rfl
theorem x68_34 (hr : am_St a) : AW sv 68 34 [v0, v1] (.ref a :: r) (am_toH σ) 0 0 Q = AW sv 68 37 [v0, v1] (.ref (a + 7) :: r) (am_toH σ) 0 0 Q := e_getR am_h68 dX8_leave_34 fl_8_80 (is5 hr) rfl
theorem x68_37 (hr : am_St a) : AW sv 68 37 [v0, v1] (.ref (a + 7) :: r) (am_toH σ) 0 0 Q = AW sv 68 40 [v0, v1] (.int (σ.1 (a + 7) 3) :: r) (am_toH σ) 0 0 Q := e_getI am_h68 dX8_leave_37 fl_8_90 (is1 hr) rfl
theorem x68_40 : AW sv 68 40 [v0, v1] [.int x] h 0 0 Q = Q (some (.int x)) h := e_iret am_h68 dX8_leave_40 rfl ⟨rfl, rfl⟩
theorem n68 : AM sv 68 [.ref a, .int x0] h Q = AW sv 68 0 [.ref a, .int x0] [] h 0 0 Q := rfl
theorem x69_0 : AW sv 69 0 [v0, v1, v2, .int x] r h 0 0 Q = AW sv 69 1 [v0, v1, v2, .int x] (.int x :: r) h 0 0 Q := e_pv am_h69 dX8_type_0 rfl rfl rfl rfl
theorem x69_1 : AW sv 69 1 [v0, v1, v2, v3] r h 0 0 Q = AW sv 69 2 [v0, v1, v2, v3] (.int (1) :: r) h 0 0 Q := e_iconstv am_h69 dX8_type_1 c_iconst_1
theorem x69_2 : AW sv 69 2 [v0, v1, v2, v3] (.int y :: .int x :: r) h 0 0 Q = if x < y then AW sv 69 19 [v0, v1, v2, v3] r h 0 0 Q else AW sv 69 5 [v0, v1, v2, v3] r h 0 0 Q := e_c_lt am_h69 dX8_type_2 rfl
theorem x69_5 : AW sv 69 5 [v0, v1, v2, .int x] r h 0 0 Q = AW sv 69 6 [v0, v1, v2, .int x] (.int x :: r) h 0 0 Q := e_pv am_h69 dX8_type_5 rfl rfl rfl rfl
theorem x69_6 : AW sv 69 6 [v0, v1, v2, v3] r h 0 0 Q = AW sv 69 8 [v0, v1, v2, v3] (.int (8) :: r) h 0 0 Q := e_bipushv am_h69 dX8_type_6 c_bipush_8
theorem x69_8 : AW sv 69 8 [v0, v1, v2, v3] (.int y :: .int x :: r) h 0 0 Q = if y < x then AW sv 69 19 [v0, v1, v2, v3] r h 0 0 Q else AW sv 69 11 [v0, v1, v2, v3] r h 0 0 Q := e_c_gt am_h69 dX8_type_8 rfl
theorem x69_11 : AW sv 69 11 [v0, .long u, v2, v3] r h 0 0 Q = AW sv 69 12 [v0, .long u, v2, v3] (.long u :: r) h 0 0 Q := e_pv am_h69 dX8_type_11 rfl rfl rfl rfl
theorem x69_12 : AW sv 69 12 [v0, v1, v2, .int x] r h 0 0 Q = AW sv 69 13 [v0, v1, v2, .int x] (.int x :: r) h 0 0 Q := e_pv am_h69 dX8_type_12 rfl rfl rfl rfl
theorem x69_13 (h8 : am_cs r ≤ 8) : AW sv 69 13 [v0, v1, v2, v3] (.int x1 :: .long u0 :: r) h 0 0 Q = AM sv 38 [.long u0, .int x1] h (fun v h1 => AW sv 69 16 [v0, v1, v2, v3] (v.toList ++ r) h1 0 0 Q) := e_cS (as := [.long u0, .int x1]) am_h69 dX8_type_13 ml_8_114 (by decide) am_h38 rfl rfl rfl ⟨by decide, Nat.le_of_ble_eq_true rfl, am_rc_of (by decide) h8⟩
theorem x69_16 : AW sv 69 16 [v0, v1, v2, v3] (.int x :: r) h 0 0 Q = if ¬ x = 0 then AW sv 69 21 [v0, v1, v2, v3] r h 0 0 Q else AW sv 69 19 [v0, v1, v2, v3] r h 0 0 Q := e_z_ne am_h69 dX8_type_16 rfl
theorem x69_19 : AW sv 69 19 [v0, v1, v2, v3] r h 0 0 Q = AW sv 69 20 [v0, v1, v2, v3] (.int (-1) :: r) h 0 0 Q := e_iconstv am_h69 dX8_type_19 c_iconst_m1
theorem x69_20 : AW sv 69 20 [v0, v1, v2, v3] [.int x] h 0 0 Q = Q (some (.int x)) h := e_iret am_h69 dX8_type_20 rfl ⟨rfl, rfl⟩
theorem x69_21 : AW sv 69 21 [.ref a, v1, v2, v3] r h 0 0 Q = AW sv 69 22 [.ref a, v1, v2, v3] (.ref a :: r) h 0 0 Q := e_pv am_h69 dX8_type_21 rfl rfl rfl rfl
theorem x69_22 : AW sv 69 22 [v0, v1, v2, v3] (.ref 0 :: r) (am_toH σ) 0 0 Q = AW sv 69 25 [v0, v1, v2, v3] (.ref 65 :: r) (am_toH σ) 0 0 Q := e_getR am_h69 dX8_type_22 fl_8_29 is8 rfl
theorem x69_25 : AW sv 69 25 [v0, v1, v2, v3] (.ref 65 :: r) (am_toH σ) 0 0 Q = AW sv 69 28 [v0, v1, v2, v3] (.int (σ.1 65 1) :: r) (am_toH σ) 0 0 Q := e_getI am_h69 dX8_type_25 fl_8_118 is6 rfl
theorem x69_28 : AW sv 69 28 [v0, v1, v2, .int x] r h 0 0 Q = AW sv 69 29 [v0, v1, v2, .int x] (.int x :: r) h 0 0 Q := e_pv am_h69 dX8_type_28 rfl rfl rfl rfl
theorem x69_29 : AW sv 69 29 [v0, v1, v2, v3] (.int y :: .int x :: r) h 0 0 Q = AW sv 69 30 [v0, v1, v2, v3] (.int (x + y) :: r) h 0 0 Q := e_iadd am_h69 dX8_type_29
theorem x69_30 : AW sv 69 30 [v0, v1, v2, v3] r h 0 0 Q = AW sv 69 32 [v0, v1, v2, v3] (.int (100) :: r) h 0 0 Q := e_bipushv am_h69 dX8_type_30 c_bipush_100
theorem x69_32 : AW sv 69 32 [v0, v1, v2, v3] (.int y :: .int x :: r) h 0 0 Q = if x ≤ y then AW sv 69 38 [v0, v1, v2, v3] r h 0 0 Q else AW sv 69 35 [v0, v1, v2, v3] r h 0 0 Q := e_c_le am_h69 dX8_type_32 rfl
theorem x69_35 : AW sv 69 35 [v0, v1, v2, v3] r h 0 0 Q = AW sv 69 37 [v0, v1, v2, v3] (.int (-3) :: r) h 0 0 Q := e_bipushv am_h69 dX8_type_35 c_bipush_m3
theorem x69_37 : AW sv 69 37 [v0, v1, v2, v3] [.int x] h 0 0 Q = Q (some (.int x)) h := e_iret am_h69 dX8_type_37 rfl ⟨rfl, rfl⟩
theorem x69_38 : AW sv 69 38 [.ref a, v1, v2, v3] r h 0 0 Q = AW sv 69 39 [.ref a, v1, v2, v3] (.ref a :: r) h 0 0 Q := e_pv am_h69 dX8_type_38 rfl rfl rfl rfl
theorem x69_39 : AW sv 69 39 [v0, v1, v2, v3] (.ref 0 :: r) (am_toH σ) 0 0 Q = AW sv 69 42 [v0, v1, v2, v3] (.ref 65 :: r) (am_toH σ) 0 0 Q := e_getR am_h69 dX8_type_39 fl_8_29 is8 rfl
theorem x69_42 : AW sv 69 42 [v0, .long u, v2, v3] r h 0 0 Q = AW sv 69 43 [v0, .long u, v2, v3] (.long u :: r) h 0 0 Q := e_pv am_h69 dX8_type_42 rfl rfl rfl rfl
theorem x69_43 : AW sv 69 43 [v0, v1, v2, .int x] r h 0 0 Q = AW sv 69 44 [v0, v1, v2, .int x] (.int x :: r) h 0 0 Q := e_pv am_h69 dX8_type_43 rfl rfl rfl rfl
theorem x69_44 (h8 : am_cs r ≤ 8) : AW sv 69 44 [v0, v1, v2, v3] (.int x1 :: .long u0 :: .ref 65 :: r) (am_toH σ) 0 0 Q = AM sv 40 [.ref 65, .long u0, .int x1] (am_toH σ) (fun v h1 => AW sv 69 47 [v0, v1, v2, v3] (v.toList ++ r) h1 0 0 Q) := e_cV (as := [.long u0, .int x1]) am_h69 dX8_type_44 ml_8_121 (by decide) am_h40 rfl is6 rfl rfl ⟨by decide, Nat.le_of_ble_eq_true rfl, am_rc_of (by decide) h8⟩
theorem x69_47 : AW sv 69 47 [.ref a, v1, v2, v3] r h 0 0 Q = AW sv 69 48 [.ref a, v1, v2, v3] (.ref a :: r) h 0 0 Q := e_pv am_h69 dX8_type_47 rfl rfl rfl rfl
theorem x69_48 : AW sv 69 48 [v0, v1, v2, v3] (.ref 0 :: r) (am_toH σ) 0 0 Q = AW sv 69 51 [v0, v1, v2, v3] (.ref 65 :: r) (am_toH σ) 0 0 Q := e_getR am_h69 dX8_type_48 fl_8_29 is8 rfl
theorem x69_51 : AW sv 69 51 [v0, v1, v2, v3] (.ref 65 :: r) (am_toH σ) 0 0 Q = AW sv 69 54 [v0, v1, v2, v3] (.int (σ.1 65 1) :: r) (am_toH σ) 0 0 Q := e_getI am_h69 dX8_type_51 fl_8_118 is6 rfl
theorem x69_54 : AW sv 69 54 [v0, v1, v2, v3] [.int x] h 0 0 Q = Q (some (.int x)) h := e_iret am_h69 dX8_type_54 rfl ⟨rfl, rfl⟩
theorem n69 : AM sv 69 [.ref a, .long u0, .int x1] h Q = AW sv 69 0 [.ref a, .long u0, .null, .int x1] [] h 0 0 Q := rfl
theorem x70_0 : AW sv 70 0 [.ref a, v1, v2] r h 0 0 Q = AW sv 70 1 [.ref a, v1, v2] (.ref a :: r) h 0 0 Q := e_pv am_h70 dX8_routine_0 rfl rfl rfl rfl
theorem x70_1 : AW sv 70 1 [v0, v1, v2] (.ref 0 :: r) (am_toH σ) 0 0 Q = AW sv 70 4 [v0, v1, v2] (.ref 43 :: r) (am_toH σ) 0 0 Q := e_getR am_h70 dX8_routine_1 fl_8_22 is8 rfl
theorem x70_4 : AW sv 70 4 [v0, v1, v2] (.ref 43 :: r) (am_toH σ) 0 0 Q = AW sv 70 7 [v0, v1, v2] (.ref 44 :: r) (am_toH σ) 0 0 Q := e_getR am_h70 dX8_routine_4 fl_8_125 is7 rfl
theorem x70_7 (hr : am_St a) : AW sv 70 7 [v0, v1, v2] (.ref a :: r) (am_toH σ) 0 0 Q = AW sv 70 10 [v0, v1, v2] (.ref (a + 1) :: r) (am_toH σ) 0 0 Q := e_getR am_h70 dX8_routine_7 fl_8_44 (is5 hr) rfl
theorem x70_10 (hc : v0.category = 1) : AW sv 70 10 [v0, v1, v2] (.ref a :: r) h 0 0 Q = AW sv 70 11 [v0, .ref a, v2] r h 0 0 Q := e_pv am_h70 dX8_routine_10 rfl rfl rfl (am_sta_of (Nat.le_of_ble_eq_true rfl) (am_c1_of rfl hc))
theorem x70_11 : AW sv 70 11 [v0, .ref a, v2] r h 0 0 Q = AW sv 70 12 [v0, .ref a, v2] (.ref a :: r) h 0 0 Q := e_pv am_h70 dX8_routine_11 rfl rfl rfl rfl
theorem x70_12 : AW sv 70 12 [.ref a, v1, v2] r h 0 0 Q = AW sv 70 13 [.ref a, v1, v2] (.ref a :: r) h 0 0 Q := e_pv am_h70 dX8_routine_12 rfl rfl rfl rfl
theorem x70_13 : AW sv 70 13 [v0, v1, v2] (.ref 0 :: r) (am_toH σ) 0 0 Q = AW sv 70 16 [v0, v1, v2] (.ref 1 :: r) (am_toH σ) 0 0 Q := e_getR am_h70 dX8_routine_13 fl_8_10 is8 rfl
theorem x70_16 (hr : am_St a) : AW sv 70 16 [v0, v1, v2] (.ref a :: r) (am_toH σ) 0 0 Q = AW sv 70 19 [v0, v1, v2] (.ref (a + 1) :: r) (am_toH σ) 0 0 Q := e_getR am_h70 dX8_routine_16 fl_8_44 (is5 hr) rfl
theorem x70_19 (hr : am_St a) (h8 : am_cs r ≤ 8) : AW sv 70 19 [v0, v1, v2] (.ref b0 :: .ref (a + 1) :: r) (am_toH σ) 0 0 Q = AM sv 15 [.ref (a + 1), .ref b0] (am_toH σ) (fun v h1 => AW sv 70 22 [v0, v1, v2] (v.toList ++ r) h1 0 0 Q) := e_cV (as := [.ref b0]) am_h70 dX8_routine_19 ml_8_128 (by decide) am_h15 rfl (is3 hr) rfl rfl ⟨by decide, Nat.le_of_ble_eq_true rfl, am_rc_of (by decide) h8⟩
theorem x70_22 : AW sv 70 22 [.ref a, v1, v2] r h 0 0 Q = AW sv 70 23 [.ref a, v1, v2] (.ref a :: r) h 0 0 Q := e_pv am_h70 dX8_routine_22 rfl rfl rfl rfl
theorem x70_23 : AW sv 70 23 [v0, v1, v2] (.ref 0 :: r) (am_toH σ) 0 0 Q = AW sv 70 26 [v0, v1, v2] (.ref 65 :: r) (am_toH σ) 0 0 Q := e_getR am_h70 dX8_routine_23 fl_8_29 is8 rfl
theorem x70_26 : AW sv 70 26 [v0, .ref a, v2] r h 0 0 Q = AW sv 70 27 [v0, .ref a, v2] (.ref a :: r) h 0 0 Q := e_pv am_h70 dX8_routine_26 rfl rfl rfl rfl
theorem x70_27 (h8 : am_cs r ≤ 8) : AW sv 70 27 [v0, v1, v2] (.ref b0 :: .ref 65 :: r) (am_toH σ) 0 0 Q = AM sv 41 [.ref 65, .ref b0] (am_toH σ) (fun v h1 => AW sv 70 30 [v0, v1, v2] (v.toList ++ r) h1 0 0 Q) := e_cV (as := [.ref b0]) am_h70 dX8_routine_27 ml_8_132 (by decide) am_h41 rfl is6 rfl rfl ⟨by decide, Nat.le_of_ble_eq_true rfl, am_rc_of (by decide) h8⟩
theorem x70_30 (hc : v1.category = 1) : AW sv 70 30 [v0, v1, v2] (.int x :: r) h 0 0 Q = AW sv 70 31 [v0, v1, .int x] r h 0 0 Q := e_pv am_h70 dX8_routine_30 rfl rfl rfl (am_sti_of (Nat.le_of_ble_eq_true rfl) (am_c1_of rfl hc))
theorem x70_31 : AW sv 70 31 [.ref a, v1, v2] r h 0 0 Q = AW sv 70 32 [.ref a, v1, v2] (.ref a :: r) h 0 0 Q := e_pv am_h70 dX8_routine_31 rfl rfl rfl rfl
theorem x70_32 : AW sv 70 32 [v0, v1, v2] (.ref 0 :: r) (am_toH σ) 0 0 Q = AW sv 70 35 [v0, v1, v2] (.ref 65 :: r) (am_toH σ) 0 0 Q := e_getR am_h70 dX8_routine_32 fl_8_29 is8 rfl
theorem x70_35 : AW sv 70 35 [v0, v1, v2] r h 0 0 Q = AW sv 70 36 [v0, v1, v2] (.int (0) :: r) h 0 0 Q := e_iconstv am_h70 dX8_routine_35 c_iconst_0
theorem x70_36 : AW sv 70 36 [v0, v1, v2] (.int x :: .ref 65 :: r) (am_toH σ) 0 0 Q = AW sv 70 39 [v0, v1, v2] r (am_toH (am_wr σ 65 (upd (σ.1 65) 1 x))) 0 0 Q := e_putI am_h70 dX8_routine_36 fl_8_118 is6 rfl rfl rfl
theorem x70_39 : AW sv 70 39 [v0, v1, .int x] r h 0 0 Q = AW sv 70 40 [v0, v1, .int x] (.int x :: r) h 0 0 Q := e_pv am_h70 dX8_routine_39 rfl rfl rfl rfl
theorem x70_40 : AW sv 70 40 [v0, v1, v2] (.int x :: r) h 0 0 Q = if x ≤ 0 then AW sv 70 54 [v0, v1, v2] r h 0 0 Q else AW sv 70 43 [v0, v1, v2] r h 0 0 Q := e_z_le am_h70 dX8_routine_40 rfl
theorem x70_43 : AW sv 70 43 [.ref a, v1, v2] r h 0 0 Q = AW sv 70 44 [.ref a, v1, v2] (.ref a :: r) h 0 0 Q := e_pv am_h70 dX8_routine_43 rfl rfl rfl rfl
theorem x70_44 : AW sv 70 44 [v0, v1, v2] (.ref 0 :: r) (am_toH σ) 0 0 Q = AW sv 70 47 [v0, v1, v2] (.ref 1 :: r) (am_toH σ) 0 0 Q := e_getR am_h70 dX8_routine_44 fl_8_10 is8 rfl
theorem x70_47 (hr : am_St a) : AW sv 70 47 [v0, v1, v2] (.ref a :: r) (am_toH σ) 0 0 Q = AW sv 70 50 [v0, v1, v2] (.ref (a + 1) :: r) (am_toH σ) 0 0 Q := e_getR am_h70 dX8_routine_47 fl_8_44 (is5 hr) rfl
theorem x70_50 : AW sv 70 50 [v0, .ref a, v2] r h 0 0 Q = AW sv 70 51 [v0, .ref a, v2] (.ref a :: r) h 0 0 Q := e_pv am_h70 dX8_routine_50 rfl rfl rfl rfl
theorem x70_51 (hr : am_St a) (h8 : am_cs r ≤ 8) : AW sv 70 51 [v0, v1, v2] (.ref b0 :: .ref (a + 1) :: r) (am_toH σ) 0 0 Q = AM sv 15 [.ref (a + 1), .ref b0] (am_toH σ) (fun v h1 => AW sv 70 54 [v0, v1, v2] (v.toList ++ r) h1 0 0 Q) := e_cV (as := [.ref b0]) am_h70 dX8_routine_51 ml_8_128 (by decide) am_h15 rfl (is3 hr) rfl rfl ⟨by decide, Nat.le_of_ble_eq_true rfl, am_rc_of (by decide) h8⟩
theorem x70_54 : AW sv 70 54 [v0, v1, .int x] r h 0 0 Q = AW sv 70 55 [v0, v1, .int x] (.int x :: r) h 0 0 Q := e_pv am_h70 dX8_routine_54 rfl rfl rfl rfl
theorem x70_55 : AW sv 70 55 [v0, v1, v2] [.int x] h 0 0 Q = Q (some (.int x)) h := e_iret am_h70 dX8_routine_55 rfl ⟨rfl, rfl⟩
theorem n70 : AM sv 70 [.ref a] h Q = AW sv 70 0 [.ref a, .null, .null] [] h 0 0 Q := rfl
theorem x71_0 : AW sv 71 0 [.ref a, v1, v2] r h 0 0 Q = AW sv 71 1 [.ref a, v1, v2] (.ref a :: r) h 0 0 Q := e_pv am_h71 dX8_house_0 rfl rfl rfl rfl
theorem x71_1 : AW sv 71 1 [v0, v1, v2] (.ref 0 :: r) (am_toH σ) 0 0 Q = AW sv 71 4 [v0, v1, v2] (.ref 43 :: r) (am_toH σ) 0 0 Q := e_getR am_h71 dX8_house_1 fl_8_22 is8 rfl
theorem x71_4 : AW sv 71 4 [v0, v1, v2] (.ref 43 :: r) (am_toH σ) 0 0 Q = AW sv 71 7 [v0, v1, v2] (.ref 44 :: r) (am_toH σ) 0 0 Q := e_getR am_h71 dX8_house_4 fl_8_125 is7 rfl
theorem x71_7 (hr : am_St a) : AW sv 71 7 [v0, v1, v2] (.ref a :: r) (am_toH σ) 0 0 Q = AW sv 71 10 [v0, v1, v2] (.ref (a + 7) :: r) (am_toH σ) 0 0 Q := e_getR am_h71 dX8_house_7 fl_8_80 (is5 hr) rfl
theorem x71_10 (hc : v0.category = 1) : AW sv 71 10 [v0, v1, v2] (.ref a :: r) h 0 0 Q = AW sv 71 11 [v0, .ref a, v2] r h 0 0 Q := e_pv am_h71 dX8_house_10 rfl rfl rfl (am_sta_of (Nat.le_of_ble_eq_true rfl) (am_c1_of rfl hc))
theorem x71_11 : AW sv 71 11 [v0, .ref a, v2] r h 0 0 Q = AW sv 71 12 [v0, .ref a, v2] (.ref a :: r) h 0 0 Q := e_pv am_h71 dX8_house_11 rfl rfl rfl rfl
theorem x71_12 : AW sv 71 12 [.ref a, v1, v2] r h 0 0 Q = AW sv 71 13 [.ref a, v1, v2] (.ref a :: r) h 0 0 Q := e_pv am_h71 dX8_house_12 rfl rfl rfl rfl
theorem x71_13 : AW sv 71 13 [v0, v1, v2] (.ref 0 :: r) (am_toH σ) 0 0 Q = AW sv 71 16 [v0, v1, v2] (.ref 1 :: r) (am_toH σ) 0 0 Q := e_getR am_h71 dX8_house_13 fl_8_10 is8 rfl
theorem x71_16 (hr : am_St a) : AW sv 71 16 [v0, v1, v2] (.ref a :: r) (am_toH σ) 0 0 Q = AW sv 71 19 [v0, v1, v2] (.ref (a + 7) :: r) (am_toH σ) 0 0 Q := e_getR am_h71 dX8_house_16 fl_8_80 (is5 hr) rfl
theorem x71_19 (hr : am_St a) (h8 : am_cs r ≤ 8) : AW sv 71 19 [v0, v1, v2] (.ref b0 :: .ref (a + 7) :: r) (am_toH σ) 0 0 Q = AM sv 6 [.ref (a + 7), .ref b0] (am_toH σ) (fun v h1 => AW sv 71 22 [v0, v1, v2] (v.toList ++ r) h1 0 0 Q) := e_cV (as := [.ref b0]) am_h71 dX8_house_19 ml_8_136 (by decide) am_h6 rfl (is1 hr) rfl rfl ⟨by decide, Nat.le_of_ble_eq_true rfl, am_rc_of (by decide) h8⟩
theorem x71_22 : AW sv 71 22 [.ref a, v1, v2] r h 0 0 Q = AW sv 71 23 [.ref a, v1, v2] (.ref a :: r) h 0 0 Q := e_pv am_h71 dX8_house_22 rfl rfl rfl rfl
theorem x71_23 : AW sv 71 23 [v0, v1, v2] (.ref 0 :: r) (am_toH σ) 0 0 Q = AW sv 71 26 [v0, v1, v2] (.ref 65 :: r) (am_toH σ) 0 0 Q := e_getR am_h71 dX8_house_23 fl_8_29 is8 rfl
theorem x71_26 : AW sv 71 26 [v0, .ref a, v2] r h 0 0 Q = AW sv 71 27 [v0, .ref a, v2] (.ref a :: r) h 0 0 Q := e_pv am_h71 dX8_house_26 rfl rfl rfl rfl
theorem x71_27 (h8 : am_cs r ≤ 8) : AW sv 71 27 [v0, v1, v2] (.ref b0 :: .ref 65 :: r) (am_toH σ) 0 0 Q = AM sv 42 [.ref 65, .ref b0] (am_toH σ) (fun v h1 => AW sv 71 30 [v0, v1, v2] (v.toList ++ r) h1 0 0 Q) := e_cV (as := [.ref b0]) am_h71 dX8_house_27 ml_8_139 (by decide) am_h42 rfl is6 rfl rfl ⟨by decide, Nat.le_of_ble_eq_true rfl, am_rc_of (by decide) h8⟩
theorem x71_30 (hc : v1.category = 1) : AW sv 71 30 [v0, v1, v2] (.int x :: r) h 0 0 Q = AW sv 71 31 [v0, v1, .int x] r h 0 0 Q := e_pv am_h71 dX8_house_30 rfl rfl rfl (am_sti_of (Nat.le_of_ble_eq_true rfl) (am_c1_of rfl hc))
theorem x71_31 : AW sv 71 31 [.ref a, v1, v2] r h 0 0 Q = AW sv 71 32 [.ref a, v1, v2] (.ref a :: r) h 0 0 Q := e_pv am_h71 dX8_house_31 rfl rfl rfl rfl
theorem x71_32 : AW sv 71 32 [v0, v1, v2] (.ref 0 :: r) (am_toH σ) 0 0 Q = AW sv 71 35 [v0, v1, v2] (.ref 65 :: r) (am_toH σ) 0 0 Q := e_getR am_h71 dX8_house_32 fl_8_29 is8 rfl
theorem x71_35 : AW sv 71 35 [v0, v1, v2] r h 0 0 Q = AW sv 71 36 [v0, v1, v2] (.int (0) :: r) h 0 0 Q := e_iconstv am_h71 dX8_house_35 c_iconst_0
theorem x71_36 : AW sv 71 36 [v0, v1, v2] (.int x :: .ref 65 :: r) (am_toH σ) 0 0 Q = AW sv 71 39 [v0, v1, v2] r (am_toH (am_wr σ 65 (upd (σ.1 65) 1 x))) 0 0 Q := e_putI am_h71 dX8_house_36 fl_8_118 is6 rfl rfl rfl
theorem x71_39 : AW sv 71 39 [v0, v1, .int x] r h 0 0 Q = AW sv 71 40 [v0, v1, .int x] (.int x :: r) h 0 0 Q := e_pv am_h71 dX8_house_39 rfl rfl rfl rfl
theorem x71_40 : AW sv 71 40 [v0, v1, v2] (.int x :: r) h 0 0 Q = if x ≤ 0 then AW sv 71 55 [v0, v1, v2] r h 0 0 Q else AW sv 71 43 [v0, v1, v2] r h 0 0 Q := e_z_le am_h71 dX8_house_40 rfl
theorem x71_43 : AW sv 71 43 [v0, .ref a, v2] r h 0 0 Q = AW sv 71 44 [v0, .ref a, v2] (.ref a :: r) h 0 0 Q := e_pv am_h71 dX8_house_43 rfl rfl rfl rfl
theorem x71_44 (hr : am_St a) : AW sv 71 44 [v0, v1, v2] (.ref (a + 7) :: r) (am_toH σ) 0 0 Q = AW sv 71 47 [v0, v1, v2] (.int (σ.1 (a + 7) 3) :: r) (am_toH σ) 0 0 Q := e_getI am_h71 dX8_house_44 fl_8_90 (is1 hr) rfl
theorem x71_47 : AW sv 71 47 [v0, v1, v2] r h 0 0 Q = AW sv 71 49 [v0, v1, v2] (.int (8) :: r) h 0 0 Q := e_bipushv am_h71 dX8_house_47 c_bipush_8
theorem x71_49 : AW sv 71 49 [v0, v1, v2] (.int y :: .int x :: r) h 0 0 Q = if x ≤ y then AW sv 71 55 [v0, v1, v2] r h 0 0 Q else AW sv 71 52 [v0, v1, v2] r h 0 0 Q := e_c_le am_h71 dX8_house_49 rfl
theorem x71_52 : AW sv 71 52 [v0, v1, v2] r h 0 0 Q = AW sv 71 54 [v0, v1, v2] (.int (-3) :: r) h 0 0 Q := e_bipushv am_h71 dX8_house_52 c_bipush_m3
theorem x71_54 : AW sv 71 54 [v0, v1, v2] [.int x] h 0 0 Q = Q (some (.int x)) h := e_iret am_h71 dX8_house_54 rfl ⟨rfl, rfl⟩
theorem x71_55 : AW sv 71 55 [v0, v1, .int x] r h 0 0 Q = AW sv 71 56 [v0, v1, .int x] (.int x :: r) h 0 0 Q := e_pv am_h71 dX8_house_55 rfl rfl rfl rfl
theorem x71_56 : AW sv 71 56 [v0, v1, v2] (.int x :: r) h 0 0 Q = if x ≤ 0 then AW sv 71 70 [v0, v1, v2] r h 0 0 Q else AW sv 71 59 [v0, v1, v2] r h 0 0 Q := e_z_le am_h71 dX8_house_56 rfl
theorem x71_59 : AW sv 71 59 [.ref a, v1, v2] r h 0 0 Q = AW sv 71 60 [.ref a, v1, v2] (.ref a :: r) h 0 0 Q := e_pv am_h71 dX8_house_59 rfl rfl rfl rfl
theorem x71_60 : AW sv 71 60 [v0, v1, v2] (.ref 0 :: r) (am_toH σ) 0 0 Q = AW sv 71 63 [v0, v1, v2] (.ref 1 :: r) (am_toH σ) 0 0 Q := e_getR am_h71 dX8_house_60 fl_8_10 is8 rfl
theorem x71_63 (hr : am_St a) : AW sv 71 63 [v0, v1, v2] (.ref a :: r) (am_toH σ) 0 0 Q = AW sv 71 66 [v0, v1, v2] (.ref (a + 7) :: r) (am_toH σ) 0 0 Q := e_getR am_h71 dX8_house_63 fl_8_80 (is5 hr) rfl
theorem x71_66 : AW sv 71 66 [v0, .ref a, v2] r h 0 0 Q = AW sv 71 67 [v0, .ref a, v2] (.ref a :: r) h 0 0 Q := e_pv am_h71 dX8_house_66 rfl rfl rfl rfl
theorem x71_67 (hr : am_St a) (h8 : am_cs r ≤ 8) : AW sv 71 67 [v0, v1, v2] (.ref b0 :: .ref (a + 7) :: r) (am_toH σ) 0 0 Q = AM sv 6 [.ref (a + 7), .ref b0] (am_toH σ) (fun v h1 => AW sv 71 70 [v0, v1, v2] (v.toList ++ r) h1 0 0 Q) := e_cV (as := [.ref b0]) am_h71 dX8_house_67 ml_8_136 (by decide) am_h6 rfl (is1 hr) rfl rfl ⟨by decide, Nat.le_of_ble_eq_true rfl, am_rc_of (by decide) h8⟩
theorem x71_70 : AW sv 71 70 [v0, v1, .int x] r h 0 0 Q = AW sv 71 71 [v0, v1, .int x] (.int x :: r) h 0 0 Q := e_pv am_h71 dX8_house_70 rfl rfl rfl rfl
theorem x71_71 : AW sv 71 71 [v0, v1, v2] [.int x] h 0 0 Q = Q (some (.int x)) h := e_iret am_h71 dX8_house_71 rfl ⟨rfl, rfl⟩
theorem n71 : AM sv 71 [.ref a] h Q = AW sv 71 0 [.ref a, .null, .null] [] h 0 0 Q := rfl
theorem x72_0 : AW sv 72 0 [v0, .int x] r h 0 0 Q = AW sv 72 1 [v0, .int x] (.int x :: r) h 0 0 Q := e_pv am_h72 dX8_count_0 rfl rfl rfl rfl
-- switch at 1 of 72
theorem x72_40 : AW sv 72 40 [.ref a, v1] r h 0 0 Q = AW sv 72 41 [.ref a, v1] (.ref a :: r) h 0 0 Q := e_pv am_h72 dX8_count_40 rfl rfl rfl rfl
theorem x72_41 : AW sv 72 41 [v0, v1] (.ref 0 :: r) (am_toH σ) 0 0 Q = AW sv 72 44 [v0, v1] (.ref 1 :: r) (am_toH σ) 0 0 Q := e_getR am_h72 dX8_count_41 fl_8_10 is8 rfl
theorem x72_44 (hr : am_St a) : AW sv 72 44 [v0, v1] (.ref a :: r) (am_toH σ) 0 0 Q = AW sv 72 47 [v0, v1] (.ref (a + 7) :: r) (am_toH σ) 0 0 Q := e_getR am_h72 dX8_count_44 fl_8_80 (is5 hr) rfl
theorem x72_47 (hr : am_St a) : AW sv 72 47 [v0, v1] (.ref (a + 7) :: r) (am_toH σ) 0 0 Q = AW sv 72 50 [v0, v1] (.int (σ.1 (a + 7) 3) :: r) (am_toH σ) 0 0 Q := e_getI am_h72 dX8_count_47 fl_8_90 (is1 hr) rfl
theorem x72_50 : AW sv 72 50 [v0, v1] [.int x] h 0 0 Q = Q (some (.int x)) h := e_iret am_h72 dX8_count_50 rfl ⟨rfl, rfl⟩
theorem x72_51 : AW sv 72 51 [.ref a, v1] r h 0 0 Q = AW sv 72 52 [.ref a, v1] (.ref a :: r) h 0 0 Q := e_pv am_h72 dX8_count_51 rfl rfl rfl rfl
theorem x72_52 : AW sv 72 52 [v0, v1] (.ref 0 :: r) (am_toH σ) 0 0 Q = AW sv 72 55 [v0, v1] (.ref 1 :: r) (am_toH σ) 0 0 Q := e_getR am_h72 dX8_count_52 fl_8_10 is8 rfl
theorem x72_55 (hr : am_St a) : AW sv 72 55 [v0, v1] (.ref a :: r) (am_toH σ) 0 0 Q = AW sv 72 58 [v0, v1] (.ref (a + 1) :: r) (am_toH σ) 0 0 Q := e_getR am_h72 dX8_count_55 fl_8_44 (is5 hr) rfl
theorem x72_58 (hr : am_St a) : AW sv 72 58 [v0, v1] (.ref (a + 1) :: r) (am_toH σ) 0 0 Q = AW sv 72 61 [v0, v1] (.ref (a + 3) :: r) (am_toH σ) 0 0 Q := e_getR am_h72 dX8_count_58 fl_8_54 (is3 hr) rfl
theorem x72_61 (h8 : am_cs r ≤ 8) : AW sv 72 61 [v0, v1] (.ref b0 :: r) h 0 0 Q = AM sv 100 [.ref b0] h (fun v h1 => AW sv 72 64 [v0, v1] (v.toList ++ r) h1 0 0 Q) := e_cS (as := [.ref b0]) am_h72 dX8_count_61 ml_8_143 (by decide) am_h100 rfl rfl rfl ⟨by decide, Nat.le_of_ble_eq_true rfl, am_rc_of (by decide) h8⟩
theorem x72_64 : AW sv 72 64 [v0, v1] [.int x] h 0 0 Q = Q (some (.int x)) h := e_iret am_h72 dX8_count_64 rfl ⟨rfl, rfl⟩
theorem x72_65 : AW sv 72 65 [.ref a, v1] r h 0 0 Q = AW sv 72 66 [.ref a, v1] (.ref a :: r) h 0 0 Q := e_pv am_h72 dX8_count_65 rfl rfl rfl rfl
theorem x72_66 : AW sv 72 66 [v0, v1] (.ref 0 :: r) (am_toH σ) 0 0 Q = AW sv 72 69 [v0, v1] (.ref 1 :: r) (am_toH σ) 0 0 Q := e_getR am_h72 dX8_count_66 fl_8_10 is8 rfl
theorem x72_69 (hr : am_St a) : AW sv 72 69 [v0, v1] (.ref a :: r) (am_toH σ) 0 0 Q = AW sv 72 72 [v0, v1] (.ref (a + 1) :: r) (am_toH σ) 0 0 Q := e_getR am_h72 dX8_count_69 fl_8_44 (is5 hr) rfl
theorem x72_72 (hr : am_St a) : AW sv 72 72 [v0, v1] (.ref (a + 1) :: r) (am_toH σ) 0 0 Q = AW sv 72 75 [v0, v1] (.ref (a + 2) :: r) (am_toH σ) 0 0 Q := e_getR am_h72 dX8_count_72 fl_8_48 (is3 hr) rfl
theorem x72_75 (h8 : am_cs r ≤ 8) : AW sv 72 75 [v0, v1] (.ref b0 :: r) h 0 0 Q = AM sv 100 [.ref b0] h (fun v h1 => AW sv 72 78 [v0, v1] (v.toList ++ r) h1 0 0 Q) := e_cS (as := [.ref b0]) am_h72 dX8_count_75 ml_8_143 (by decide) am_h100 rfl rfl rfl ⟨by decide, Nat.le_of_ble_eq_true rfl, am_rc_of (by decide) h8⟩
theorem x72_78 : AW sv 72 78 [v0, v1] [.int x] h 0 0 Q = Q (some (.int x)) h := e_iret am_h72 dX8_count_78 rfl ⟨rfl, rfl⟩
theorem x72_79 : AW sv 72 79 [.ref a, v1] r h 0 0 Q = AW sv 72 80 [.ref a, v1] (.ref a :: r) h 0 0 Q := e_pv am_h72 dX8_count_79 rfl rfl rfl rfl
theorem x72_80 : AW sv 72 80 [v0, v1] (.ref 0 :: r) (am_toH σ) 0 0 Q = AW sv 72 83 [v0, v1] (.ref 1 :: r) (am_toH σ) 0 0 Q := e_getR am_h72 dX8_count_80 fl_8_10 is8 rfl
theorem x72_83 (hr : am_St a) : AW sv 72 83 [v0, v1] (.ref a :: r) (am_toH σ) 0 0 Q = AW sv 72 86 [v0, v1] (.ref (a + 1) :: r) (am_toH σ) 0 0 Q := e_getR am_h72 dX8_count_83 fl_8_44 (is5 hr) rfl
theorem x72_86 (hr : am_St a) : AW sv 72 86 [v0, v1] (.ref (a + 1) :: r) (am_toH σ) 0 0 Q = AW sv 72 89 [v0, v1] (.ref (a + 6) :: r) (am_toH σ) 0 0 Q := e_getR am_h72 dX8_count_86 fl_8_61 (is3 hr) rfl
theorem x72_89 (h8 : am_cs r ≤ 8) : AW sv 72 89 [v0, v1] (.ref b0 :: r) h 0 0 Q = AM sv 100 [.ref b0] h (fun v h1 => AW sv 72 92 [v0, v1] (v.toList ++ r) h1 0 0 Q) := e_cS (as := [.ref b0]) am_h72 dX8_count_89 ml_8_143 (by decide) am_h100 rfl rfl rfl ⟨by decide, Nat.le_of_ble_eq_true rfl, am_rc_of (by decide) h8⟩
theorem x72_92 : AW sv 72 92 [v0, v1] [.int x] h 0 0 Q = Q (some (.int x)) h := e_iret am_h72 dX8_count_92 rfl ⟨rfl, rfl⟩
theorem x72_93 : AW sv 72 93 [.ref a, v1] r h 0 0 Q = AW sv 72 94 [.ref a, v1] (.ref a :: r) h 0 0 Q := e_pv am_h72 dX8_count_93 rfl rfl rfl rfl
theorem x72_94 : AW sv 72 94 [v0, v1] (.ref 0 :: r) (am_toH σ) 0 0 Q = AW sv 72 97 [v0, v1] (.ref 1 :: r) (am_toH σ) 0 0 Q := e_getR am_h72 dX8_count_94 fl_8_10 is8 rfl
theorem x72_97 (hr : am_St a) : AW sv 72 97 [v0, v1] (.ref a :: r) (am_toH σ) 0 0 Q = AW sv 72 100 [v0, v1] (.ref (a + 11) :: r) (am_toH σ) 0 0 Q := e_getR am_h72 dX8_count_97 fl_8_147 (is5 hr) rfl
theorem x72_100 (hr : am_St a) : AW sv 72 100 [v0, v1] (.ref (a + 11) :: r) (am_toH σ) 0 0 Q = AW sv 72 103 [v0, v1] (.int (σ.1 (a + 11) 4) :: r) (am_toH σ) 0 0 Q := e_getI am_h72 dX8_count_100 fl_8_151 (is0 hr) rfl
theorem x72_103 : AW sv 72 103 [v0, v1] [.int x] h 0 0 Q = Q (some (.int x)) h := e_iret am_h72 dX8_count_103 rfl ⟨rfl, rfl⟩
theorem x72_104 : AW sv 72 104 [.ref a, v1] r h 0 0 Q = AW sv 72 105 [.ref a, v1] (.ref a :: r) h 0 0 Q := e_pv am_h72 dX8_count_104 rfl rfl rfl rfl
theorem x72_105 : AW sv 72 105 [v0, v1] (.ref 0 :: r) (am_toH σ) 0 0 Q = AW sv 72 108 [v0, v1] (.ref 1 :: r) (am_toH σ) 0 0 Q := e_getR am_h72 dX8_count_105 fl_8_10 is8 rfl
theorem x72_108 (hr : am_St a) : AW sv 72 108 [v0, v1] (.ref a :: r) (am_toH σ) 0 0 Q = AW sv 72 111 [v0, v1] (.ref (a + 16) :: r) (am_toH σ) 0 0 Q := e_getR am_h72 dX8_count_108 fl_8_154 (is5 hr) rfl
theorem x72_111 (hr : am_St a) : AW sv 72 111 [v0, v1] (.ref (a + 16) :: r) (am_toH σ) 0 0 Q = AW sv 72 114 [v0, v1] (.int (σ.1 (a + 16) 2) :: r) (am_toH σ) 0 0 Q := e_getI am_h72 dX8_count_111 fl_8_158 (is2 hr) rfl
theorem x72_114 : AW sv 72 114 [v0, v1] [.int x] h 0 0 Q = Q (some (.int x)) h := e_iret am_h72 dX8_count_114 rfl ⟨rfl, rfl⟩
theorem x72_115 : AW sv 72 115 [v0, v1] r h 0 0 Q = AW sv 72 116 [v0, v1] (.int (-1) :: r) h 0 0 Q := e_iconstv am_h72 dX8_count_115 c_iconst_m1
theorem x72_116 : AW sv 72 116 [v0, v1] [.int x] h 0 0 Q = Q (some (.int x)) h := e_iret am_h72 dX8_count_116 rfl ⟨rfl, rfl⟩
theorem n72 : AM sv 72 [.ref a, .int x0] h Q = AW sv 72 0 [.ref a, .int x0] [] h 0 0 Q := rfl
theorem x73_0 : AW sv 73 0 [v0, .int x, v2, v3, v4] r h 0 0 Q = AW sv 73 1 [v0, .int x, v2, v3, v4] (.int x :: r) h 0 0 Q := e_pv am_h73 dX8_pull_0 rfl rfl rfl rfl
theorem x73_1 : AW sv 73 1 [.ref a, v1, v2, v3, v4] r h 0 0 Q = AW sv 73 2 [.ref a, v1, v2, v3, v4] (.ref a :: r) h 0 0 Q := e_pv am_h73 dX8_pull_1 rfl rfl rfl rfl
theorem x73_2 : AW sv 73 2 [v0, v1, v2, v3, v4] (.ref 0 :: r) (am_toH σ) 0 0 Q = AW sv 73 5 [v0, v1, v2, v3, v4] (.ref 1 :: r) (am_toH σ) 0 0 Q := e_getR am_h73 dX8_pull_2 fl_8_10 is8 rfl
theorem x73_5 (hr : am_St a) : AW sv 73 5 [v0, v1, v2, v3, v4] (.ref a :: r) (am_toH σ) 0 0 Q = AW sv 73 8 [v0, v1, v2, v3, v4] (.ref (a + 7) :: r) (am_toH σ) 0 0 Q := e_getR am_h73 dX8_pull_5 fl_8_80 (is5 hr) rfl
theorem x73_8 (hr : am_St a) : AW sv 73 8 [v0, v1, v2, v3, v4] (.ref (a + 7) :: r) (am_toH σ) 0 0 Q = AW sv 73 11 [v0, v1, v2, v3, v4] (.int (σ.1 (a + 7) 3) :: r) (am_toH σ) 0 0 Q := e_getI am_h73 dX8_pull_8 fl_8_90 (is1 hr) rfl
theorem x73_11 (h8 : am_cs r ≤ 8) : AW sv 73 11 [v0, v1, v2, v3, v4] (.int x1 :: .int x0 :: r) h 0 0 Q = AM sv 97 [.int x0, .int x1] h (fun v h1 => AW sv 73 14 [v0, v1, v2, v3, v4] (v.toList ++ r) h1 0 0 Q) := e_cS (as := [.int x0, .int x1]) am_h73 dX8_pull_11 ml_8_40 (by decide) am_h97 rfl rfl rfl ⟨by decide, Nat.le_of_ble_eq_true rfl, am_rc_of (by decide) h8⟩
theorem x73_14 : AW sv 73 14 [v0, v1, v2, v3, v4] (.int x :: r) h 0 0 Q = if x = 0 then AW sv 73 42 [v0, v1, v2, v3, v4] r h 0 0 Q else AW sv 73 17 [v0, v1, v2, v3, v4] r h 0 0 Q := e_z_eq am_h73 dX8_pull_14 rfl
theorem x73_17 : AW sv 73 17 [v0, v1, .int x, v3, v4] r h 0 0 Q = AW sv 73 18 [v0, v1, .int x, v3, v4] (.int x :: r) h 0 0 Q := e_pv am_h73 dX8_pull_17 rfl rfl rfl rfl
theorem x73_18 : AW sv 73 18 [v0, v1, v2, v3, v4] r h 0 0 Q = AW sv 73 20 [v0, v1, v2, v3, v4] (.int (16) :: r) h 0 0 Q := e_bipushv am_h73 dX8_pull_18 c_bipush_16
theorem x73_20 (h8 : am_cs r ≤ 8) : AW sv 73 20 [v0, v1, v2, v3, v4] (.int x1 :: .int x0 :: r) h 0 0 Q = AM sv 97 [.int x0, .int x1] h (fun v h1 => AW sv 73 23 [v0, v1, v2, v3, v4] (v.toList ++ r) h1 0 0 Q) := e_cS (as := [.int x0, .int x1]) am_h73 dX8_pull_20 ml_8_40 (by decide) am_h97 rfl rfl rfl ⟨by decide, Nat.le_of_ble_eq_true rfl, am_rc_of (by decide) h8⟩
theorem x73_23 : AW sv 73 23 [v0, v1, v2, v3, v4] (.int x :: r) h 0 0 Q = if x = 0 then AW sv 73 42 [v0, v1, v2, v3, v4] r h 0 0 Q else AW sv 73 26 [v0, v1, v2, v3, v4] r h 0 0 Q := e_z_eq am_h73 dX8_pull_23 rfl
theorem x73_26 : AW sv 73 26 [v0, v1, v2, .int x, v4] r h 0 0 Q = AW sv 73 27 [v0, v1, v2, .int x, v4] (.int x :: r) h 0 0 Q := e_pv am_h73 dX8_pull_26 rfl rfl rfl rfl
theorem x73_27 : AW sv 73 27 [v0, v1, v2, v3, v4] r h 0 0 Q = AW sv 73 28 [v0, v1, v2, v3, v4] (.int (4) :: r) h 0 0 Q := e_iconstv am_h73 dX8_pull_27 c_iconst_4
theorem x73_28 (h8 : am_cs r ≤ 8) : AW sv 73 28 [v0, v1, v2, v3, v4] (.int x1 :: .int x0 :: r) h 0 0 Q = AM sv 97 [.int x0, .int x1] h (fun v h1 => AW sv 73 31 [v0, v1, v2, v3, v4] (v.toList ++ r) h1 0 0 Q) := e_cS (as := [.int x0, .int x1]) am_h73 dX8_pull_28 ml_8_40 (by decide) am_h97 rfl rfl rfl ⟨by decide, Nat.le_of_ble_eq_true rfl, am_rc_of (by decide) h8⟩
theorem x73_31 : AW sv 73 31 [v0, v1, v2, v3, v4] (.int x :: r) h 0 0 Q = if x = 0 then AW sv 73 42 [v0, v1, v2, v3, v4] r h 0 0 Q else AW sv 73 34 [v0, v1, v2, v3, v4] r h 0 0 Q := e_z_eq am_h73 dX8_pull_31 rfl
theorem x73_34 : AW sv 73 34 [v0, v1, v2, v3, .int x] r h 0 0 Q = AW sv 73 36 [v0, v1, v2, v3, .int x] (.int x :: r) h 0 0 Q := e_pv am_h73 dX8_pull_34 rfl rfl rfl rfl
theorem x73_36 (h8 : am_cs r ≤ 8) : AW sv 73 36 [v0, v1, v2, v3, v4] (.int x0 :: r) h 0 0 Q = AM sv 98 [.int x0] h (fun v h1 => AW sv 73 39 [v0, v1, v2, v3, v4] (v.toList ++ r) h1 0 0 Q) := e_cS (as := [.int x0]) am_h73 dX8_pull_36 ml_8_161 (by decide) am_h98 rfl rfl rfl ⟨by decide, Nat.le_of_ble_eq_true rfl, am_rc_of (by decide) h8⟩
theorem x73_39 : AW sv 73 39 [v0, v1, v2, v3, v4] (.int x :: r) h 0 0 Q = if ¬ x = 0 then AW sv 73 44 [v0, v1, v2, v3, v4] r h 0 0 Q else AW sv 73 42 [v0, v1, v2, v3, v4] r h 0 0 Q := e_z_ne am_h73 dX8_pull_39 rfl
theorem x73_42 : AW sv 73 42 [v0, v1, v2, v3, v4] r h 0 0 Q = AW sv 73 43 [v0, v1, v2, v3, v4] (.int (-1) :: r) h 0 0 Q := e_iconstv am_h73 dX8_pull_42 c_iconst_m1
theorem x73_43 : AW sv 73 43 [v0, v1, v2, v3, v4] [.int x] h 0 0 Q = Q (some (.int x)) h := e_iret am_h73 dX8_pull_43 rfl ⟨rfl, rfl⟩
theorem x73_44 : AW sv 73 44 [.ref a, v1, v2, v3, v4] r h 0 0 Q = AW sv 73 45 [.ref a, v1, v2, v3, v4] (.ref a :: r) h 0 0 Q := e_pv am_h73 dX8_pull_44 rfl rfl rfl rfl
theorem x73_45 : AW sv 73 45 [v0, v1, v2, v3, v4] (.ref 0 :: r) (am_toH σ) 0 0 Q = AW sv 73 48 [v0, v1, v2, v3, v4] (.ref 1 :: r) (am_toH σ) 0 0 Q := e_getR am_h73 dX8_pull_45 fl_8_10 is8 rfl
theorem x73_48 : AW sv 73 48 [.ref a, v1, v2, v3, v4] r h 0 0 Q = AW sv 73 49 [.ref a, v1, v2, v3, v4] (.ref a :: r) h 0 0 Q := e_pv am_h73 dX8_pull_48 rfl rfl rfl rfl
theorem x73_49 : AW sv 73 49 [v0, v1, v2, v3, v4] (.ref 0 :: r) (am_toH σ) 0 0 Q = AW sv 73 52 [v0, v1, v2, v3, v4] (.ref 1 :: r) (am_toH σ) 0 0 Q := e_getR am_h73 dX8_pull_49 fl_8_10 is8 rfl
theorem x73_52 (hr : am_St a) : AW sv 73 52 [v0, v1, v2, v3, v4] (.ref a :: r) (am_toH σ) 0 0 Q = AW sv 73 55 [v0, v1, v2, v3, v4] (.ref (a + 7) :: r) (am_toH σ) 0 0 Q := e_getR am_h73 dX8_pull_52 fl_8_80 (is5 hr) rfl
theorem x73_55 (hr : am_St a) : AW sv 73 55 [v0, v1, v2, v3, v4] (.ref (a + 7) :: r) (am_toH σ) 0 0 Q = AW sv 73 58 [v0, v1, v2, v3, v4] (.ref (a + 9) :: r) (am_toH σ) 0 0 Q := e_getR am_h73 dX8_pull_55 fl_8_97 (is1 hr) rfl
theorem x73_58 : AW sv 73 58 [v0, .int x, v2, v3, v4] r h 0 0 Q = AW sv 73 59 [v0, .int x, v2, v3, v4] (.int x :: r) h 0 0 Q := e_pv am_h73 dX8_pull_58 rfl rfl rfl rfl
theorem x73_59 (hi : am_in x (am_ln a) = true) : AW sv 73 59 [v0, v1, v2, v3, v4] (.int x :: .ref a :: r) (am_toH σ) 0 0 Q = AW sv 73 60 [v0, v1, v2, v3, v4] (.int (σ.1 a x.toNatClampNeg) :: r) (am_toH σ) 0 0 Q := e_iald am_h73 dX8_pull_59 hi
theorem x73_60 : AW sv 73 60 [.ref a, v1, v2, v3, v4] r h 0 0 Q = AW sv 73 61 [.ref a, v1, v2, v3, v4] (.ref a :: r) h 0 0 Q := e_pv am_h73 dX8_pull_60 rfl rfl rfl rfl
theorem x73_61 : AW sv 73 61 [v0, v1, v2, v3, v4] (.ref 0 :: r) (am_toH σ) 0 0 Q = AW sv 73 64 [v0, v1, v2, v3, v4] (.ref 1 :: r) (am_toH σ) 0 0 Q := e_getR am_h73 dX8_pull_61 fl_8_10 is8 rfl
theorem x73_64 (hr : am_St a) : AW sv 73 64 [v0, v1, v2, v3, v4] (.ref a :: r) (am_toH σ) 0 0 Q = AW sv 73 67 [v0, v1, v2, v3, v4] (.ref (a + 7) :: r) (am_toH σ) 0 0 Q := e_getR am_h73 dX8_pull_64 fl_8_80 (is5 hr) rfl
theorem x73_67 (hr : am_St a) : AW sv 73 67 [v0, v1, v2, v3, v4] (.ref (a + 7) :: r) (am_toH σ) 0 0 Q = AW sv 73 70 [v0, v1, v2, v3, v4] (.ref (a + 10) :: r) (am_toH σ) 0 0 Q := e_getR am_h73 dX8_pull_67 fl_8_100 (is1 hr) rfl
theorem x73_70 : AW sv 73 70 [v0, .int x, v2, v3, v4] r h 0 0 Q = AW sv 73 71 [v0, .int x, v2, v3, v4] (.int x :: r) h 0 0 Q := e_pv am_h73 dX8_pull_70 rfl rfl rfl rfl
theorem x73_71 (hi : am_in x (am_ln a) = true) : AW sv 73 71 [v0, v1, v2, v3, v4] (.int x :: .ref a :: r) (am_toH σ) 0 0 Q = AW sv 73 72 [v0, v1, v2, v3, v4] (.int (σ.1 a x.toNatClampNeg) :: r) (am_toH σ) 0 0 Q := e_iald am_h73 dX8_pull_71 hi
theorem x73_72 : AW sv 73 72 [v0, v1, .int x, v3, v4] r h 0 0 Q = AW sv 73 73 [v0, v1, .int x, v3, v4] (.int x :: r) h 0 0 Q := e_pv am_h73 dX8_pull_72 rfl rfl rfl rfl
theorem x73_73 : AW sv 73 73 [v0, v1, v2, v3, .int x] r h 0 0 Q = AW sv 73 75 [v0, v1, v2, v3, .int x] (.int x :: r) h 0 0 Q := e_pv am_h73 dX8_pull_73 rfl rfl rfl rfl
theorem x73_75 (hr : am_St a) (h8 : am_cs r ≤ 8) : AW sv 73 75 [v0, v1, v2, v3, v4] (.int x3 :: .int x2 :: .int x1 :: .int x0 :: .ref a :: r) (am_toH σ) 0 0 Q = AM sv 29 [.ref a, .int x0, .int x1, .int x2, .int x3] (am_toH σ) (fun v h1 => AW sv 73 78 [v0, v1, v2, v3, v4] (v.toList ++ r) h1 0 0 Q) := e_cV (as := [.int x0, .int x1, .int x2, .int x3]) am_h73 dX8_pull_75 ml_8_164 (by decide) am_h29 rfl (is5 hr) rfl rfl ⟨by decide, Nat.le_of_ble_eq_true rfl, am_rc_of (by decide) h8⟩
theorem x73_78 : AW sv 73 78 [.ref a, v1, v2, v3, v4] r h 0 0 Q = AW sv 73 79 [.ref a, v1, v2, v3, v4] (.ref a :: r) h 0 0 Q := e_pv am_h73 dX8_pull_78 rfl rfl rfl rfl
theorem x73_79 : AW sv 73 79 [v0, v1, v2, v3, v4] (.ref 0 :: r) (am_toH σ) 0 0 Q = AW sv 73 82 [v0, v1, v2, v3, v4] (.ref 1 :: r) (am_toH σ) 0 0 Q := e_getR am_h73 dX8_pull_79 fl_8_10 is8 rfl
theorem x73_82 (hr : am_St a) : AW sv 73 82 [v0, v1, v2, v3, v4] (.ref a :: r) (am_toH σ) 0 0 Q = AW sv 73 85 [v0, v1, v2, v3, v4] (.ref (a + 20) :: r) (am_toH σ) 0 0 Q := e_getR am_h73 dX8_pull_82 fl_8_168 (is5 hr) rfl
theorem x73_85 : AW sv 73 85 [v0, v1, v2, .int x, v4] r h 0 0 Q = AW sv 73 86 [v0, v1, v2, .int x, v4] (.int x :: r) h 0 0 Q := e_pv am_h73 dX8_pull_85 rfl rfl rfl rfl
theorem x73_86 (hi : am_in x (am_ln a) = true) : AW sv 73 86 [v0, v1, v2, v3, v4] (.int x :: .ref a :: r) (am_toH σ) 0 0 Q = AW sv 73 87 [v0, v1, v2, v3, v4] (.int (σ.1 a x.toNatClampNeg) :: r) (am_toH σ) 0 0 Q := e_iald am_h73 dX8_pull_86 hi
theorem x73_87 : AW sv 73 87 [v0, v1, v2, v3, v4] [.int x] h 0 0 Q = Q (some (.int x)) h := e_iret am_h73 dX8_pull_87 rfl ⟨rfl, rfl⟩
theorem n73 : AM sv 73 [.ref a, .int x0, .int x1, .int x2, .int x3] h Q = AW sv 73 0 [.ref a, .int x0, .int x1, .int x2, .int x3] [] h 0 0 Q := rfl
theorem x74_0 : AW sv 74 0 [v0, .int x, v2] r h 0 0 Q = AW sv 74 1 [v0, .int x, v2] (.int x :: r) h 0 0 Q := e_pv am_h74 dX8_heed_0 rfl rfl rfl rfl
theorem x74_1 : AW sv 74 1 [.ref a, v1, v2] r h 0 0 Q = AW sv 74 2 [.ref a, v1, v2] (.ref a :: r) h 0 0 Q := e_pv am_h74 dX8_heed_1 rfl rfl rfl rfl
theorem x74_2 : AW sv 74 2 [v0, v1, v2] (.ref 0 :: r) (am_toH σ) 0 0 Q = AW sv 74 5 [v0, v1, v2] (.ref 1 :: r) (am_toH σ) 0 0 Q := e_getR am_h74 dX8_heed_2 fl_8_10 is8 rfl
theorem x74_5 (hr : am_St a) : AW sv 74 5 [v0, v1, v2] (.ref a :: r) (am_toH σ) 0 0 Q = AW sv 74 8 [v0, v1, v2] (.ref (a + 7) :: r) (am_toH σ) 0 0 Q := e_getR am_h74 dX8_heed_5 fl_8_80 (is5 hr) rfl
theorem x74_8 (hr : am_St a) : AW sv 74 8 [v0, v1, v2] (.ref (a + 7) :: r) (am_toH σ) 0 0 Q = AW sv 74 11 [v0, v1, v2] (.int (σ.1 (a + 7) 3) :: r) (am_toH σ) 0 0 Q := e_getI am_h74 dX8_heed_8 fl_8_90 (is1 hr) rfl
theorem x74_11 (h8 : am_cs r ≤ 8) : AW sv 74 11 [v0, v1, v2] (.int x1 :: .int x0 :: r) h 0 0 Q = AM sv 97 [.int x0, .int x1] h (fun v h1 => AW sv 74 14 [v0, v1, v2] (v.toList ++ r) h1 0 0 Q) := e_cS (as := [.int x0, .int x1]) am_h74 dX8_heed_11 ml_8_40 (by decide) am_h97 rfl rfl rfl ⟨by decide, Nat.le_of_ble_eq_true rfl, am_rc_of (by decide) h8⟩
theorem x74_14 : AW sv 74 14 [v0, v1, v2] (.int x :: r) h 0 0 Q = if x = 0 then AW sv 74 26 [v0, v1, v2] r h 0 0 Q else AW sv 74 17 [v0, v1, v2] r h 0 0 Q := e_z_eq am_h74 dX8_heed_14 rfl
theorem x74_17 : AW sv 74 17 [v0, v1, .int x] r h 0 0 Q = AW sv 74 18 [v0, v1, .int x] (.int x :: r) h 0 0 Q := e_pv am_h74 dX8_heed_17 rfl rfl rfl rfl
theorem x74_18 : AW sv 74 18 [v0, v1, v2] r h 0 0 Q = AW sv 74 20 [v0, v1, v2] (.int (16) :: r) h 0 0 Q := e_bipushv am_h74 dX8_heed_18 c_bipush_16
theorem x74_20 (h8 : am_cs r ≤ 8) : AW sv 74 20 [v0, v1, v2] (.int x1 :: .int x0 :: r) h 0 0 Q = AM sv 97 [.int x0, .int x1] h (fun v h1 => AW sv 74 23 [v0, v1, v2] (v.toList ++ r) h1 0 0 Q) := e_cS (as := [.int x0, .int x1]) am_h74 dX8_heed_20 ml_8_40 (by decide) am_h97 rfl rfl rfl ⟨by decide, Nat.le_of_ble_eq_true rfl, am_rc_of (by decide) h8⟩
theorem x74_23 : AW sv 74 23 [v0, v1, v2] (.int x :: r) h 0 0 Q = if ¬ x = 0 then AW sv 74 28 [v0, v1, v2] r h 0 0 Q else AW sv 74 26 [v0, v1, v2] r h 0 0 Q := e_z_ne am_h74 dX8_heed_23 rfl
theorem x74_26 : AW sv 74 26 [v0, v1, v2] r h 0 0 Q = AW sv 74 27 [v0, v1, v2] (.int (-1) :: r) h 0 0 Q := e_iconstv am_h74 dX8_heed_26 c_iconst_m1
theorem x74_27 : AW sv 74 27 [v0, v1, v2] [.int x] h 0 0 Q = Q (some (.int x)) h := e_iret am_h74 dX8_heed_27 rfl ⟨rfl, rfl⟩
theorem x74_28 : AW sv 74 28 [.ref a, v1, v2] r h 0 0 Q = AW sv 74 29 [.ref a, v1, v2] (.ref a :: r) h 0 0 Q := e_pv am_h74 dX8_heed_28 rfl rfl rfl rfl
theorem x74_29 : AW sv 74 29 [v0, v1, v2] (.ref 0 :: r) (am_toH σ) 0 0 Q = AW sv 74 32 [v0, v1, v2] (.ref 1 :: r) (am_toH σ) 0 0 Q := e_getR am_h74 dX8_heed_29 fl_8_10 is8 rfl
theorem x74_32 (hr : am_St a) : AW sv 74 32 [v0, v1, v2] (.ref a :: r) (am_toH σ) 0 0 Q = AW sv 74 35 [v0, v1, v2] (.ref (a + 1) :: r) (am_toH σ) 0 0 Q := e_getR am_h74 dX8_heed_32 fl_8_44 (is5 hr) rfl
theorem x74_35 : AW sv 74 35 [v0, v1, .int x] r h 0 0 Q = AW sv 74 36 [v0, v1, .int x] (.int x :: r) h 0 0 Q := e_pv am_h74 dX8_heed_35 rfl rfl rfl rfl
theorem x74_36 : AW sv 74 36 [.ref a, v1, v2] r h 0 0 Q = AW sv 74 37 [.ref a, v1, v2] (.ref a :: r) h 0 0 Q := e_pv am_h74 dX8_heed_36 rfl rfl rfl rfl
theorem x74_37 : AW sv 74 37 [v0, v1, v2] (.ref 0 :: r) (am_toH σ) 0 0 Q = AW sv 74 40 [v0, v1, v2] (.ref 1 :: r) (am_toH σ) 0 0 Q := e_getR am_h74 dX8_heed_37 fl_8_10 is8 rfl
theorem x74_40 (hr : am_St a) : AW sv 74 40 [v0, v1, v2] (.ref a :: r) (am_toH σ) 0 0 Q = AW sv 74 43 [v0, v1, v2] (.ref (a + 7) :: r) (am_toH σ) 0 0 Q := e_getR am_h74 dX8_heed_40 fl_8_80 (is5 hr) rfl
theorem x74_43 (hr : am_St a) : AW sv 74 43 [v0, v1, v2] (.ref (a + 7) :: r) (am_toH σ) 0 0 Q = AW sv 74 46 [v0, v1, v2] (.ref (a + 9) :: r) (am_toH σ) 0 0 Q := e_getR am_h74 dX8_heed_43 fl_8_97 (is1 hr) rfl
theorem x74_46 : AW sv 74 46 [v0, .int x, v2] r h 0 0 Q = AW sv 74 47 [v0, .int x, v2] (.int x :: r) h 0 0 Q := e_pv am_h74 dX8_heed_46 rfl rfl rfl rfl
theorem x74_47 (hi : am_in x (am_ln a) = true) : AW sv 74 47 [v0, v1, v2] (.int x :: .ref a :: r) (am_toH σ) 0 0 Q = AW sv 74 48 [v0, v1, v2] (.int (σ.1 a x.toNatClampNeg) :: r) (am_toH σ) 0 0 Q := e_iald am_h74 dX8_heed_47 hi
theorem x74_48 : AW sv 74 48 [v0, v1, v2] r h 0 0 Q = AW sv 74 49 [v0, v1, v2] (.int (2) :: r) h 0 0 Q := e_iconstv am_h74 dX8_heed_48 c_iconst_2
theorem x74_49 : AW sv 74 49 [v0, v1, v2] (.int y :: .int x :: r) h 0 0 Q = if ¬ x = y then AW sv 74 56 [v0, v1, v2] r h 0 0 Q else AW sv 74 52 [v0, v1, v2] r h 0 0 Q := e_c_ne am_h74 dX8_heed_49 rfl
theorem x74_52 : AW sv 74 52 [v0, v1, v2] r h 0 0 Q = AW sv 74 53 [v0, v1, v2] (.int (1) :: r) h 0 0 Q := e_iconstv am_h74 dX8_heed_52 c_iconst_1
theorem x74_53 : AW sv 74 53 [v0, v1, v2] r h 0 0 Q = AW sv 74 57 [v0, v1, v2] r h 0 0 Q := e_goto am_h74 dX8_heed_53 rfl
theorem x74_56 : AW sv 74 56 [v0, v1, v2] r h 0 0 Q = AW sv 74 57 [v0, v1, v2] (.int (0) :: r) h 0 0 Q := e_iconstv am_h74 dX8_heed_56 c_iconst_0
theorem x74_57 : AW sv 74 57 [.ref a, v1, v2] r h 0 0 Q = AW sv 74 58 [.ref a, v1, v2] (.ref a :: r) h 0 0 Q := e_pv am_h74 dX8_heed_57 rfl rfl rfl rfl
theorem x74_58 : AW sv 74 58 [v0, v1, v2] (.ref 0 :: r) (am_toH σ) 0 0 Q = AW sv 74 61 [v0, v1, v2] (.ref 1 :: r) (am_toH σ) 0 0 Q := e_getR am_h74 dX8_heed_58 fl_8_10 is8 rfl
theorem x74_61 (hr : am_St a) : AW sv 74 61 [v0, v1, v2] (.ref a :: r) (am_toH σ) 0 0 Q = AW sv 74 64 [v0, v1, v2] (.ref (a + 19) :: r) (am_toH σ) 0 0 Q := e_getR am_h74 dX8_heed_61 fl_8_77 (is5 hr) rfl
theorem x74_64 : AW sv 74 64 [v0, v1, v2] r h 0 0 Q = AW sv 74 65 [v0, v1, v2] (.int (2) :: r) h 0 0 Q := e_iconstv am_h74 dX8_heed_64 c_iconst_2
theorem x74_65 (hi : am_in x (am_ln a) = true) : AW sv 74 65 [v0, v1, v2] (.int x :: .ref a :: r) (am_toH σ) 0 0 Q = AW sv 74 66 [v0, v1, v2] (.int (σ.1 a x.toNatClampNeg) :: r) (am_toH σ) 0 0 Q := e_iald am_h74 dX8_heed_65 hi
theorem x74_66 (hr : am_St a) (h8 : am_cs r ≤ 8) : AW sv 74 66 [v0, v1, v2] (.int x2 :: .int x1 :: .int x0 :: .ref (a + 1) :: r) (am_toH σ) 0 0 Q = AM sv 16 [.ref (a + 1), .int x0, .int x1, .int x2] (am_toH σ) (fun v h1 => AW sv 74 69 [v0, v1, v2] (v.toList ++ r) h1 0 0 Q) := e_cV (as := [.int x0, .int x1, .int x2]) am_h74 dX8_heed_66 ml_8_106 (by decide) am_h16 rfl (is3 hr) rfl rfl ⟨by decide, Nat.le_of_ble_eq_true rfl, am_rc_of (by decide) h8⟩
theorem x74_69 : AW sv 74 69 [v0, v1, v2] [.int x] h 0 0 Q = Q (some (.int x)) h := e_iret am_h74 dX8_heed_69 rfl ⟨rfl, rfl⟩
theorem n74 : AM sv 74 [.ref a, .int x0, .int x1] h Q = AW sv 74 0 [.ref a, .int x0, .int x1] [] h 0 0 Q := rfl
theorem x75_0 : AW sv 75 0 [v0, .int x, v2] r h 0 0 Q = AW sv 75 1 [v0, .int x, v2] (.int x :: r) h 0 0 Q := e_pv am_h75 dX8_can_0 rfl rfl rfl rfl
theorem x75_1 : AW sv 75 1 [v0, v1, v2] r h 0 0 Q = AW sv 75 3 [v0, v1, v2] (.int (12) :: r) h 0 0 Q := e_bipushv am_h75 dX8_can_1 c_bipush_12
theorem x75_3 (h8 : am_cs r ≤ 8) : AW sv 75 3 [v0, v1, v2] (.int x1 :: .int x0 :: r) h 0 0 Q = AM sv 97 [.int x0, .int x1] h (fun v h1 => AW sv 75 6 [v0, v1, v2] (v.toList ++ r) h1 0 0 Q) := e_cS (as := [.int x0, .int x1]) am_h75 dX8_can_3 ml_8_40 (by decide) am_h97 rfl rfl rfl ⟨by decide, Nat.le_of_ble_eq_true rfl, am_rc_of (by decide) h8⟩
theorem x75_6 : AW sv 75 6 [v0, v1, v2] (.int x :: r) h 0 0 Q = if x = 0 then AW sv 75 17 [v0, v1, v2] r h 0 0 Q else AW sv 75 9 [v0, v1, v2] r h 0 0 Q := e_z_eq am_h75 dX8_can_6 rfl
theorem x75_9 : AW sv 75 9 [v0, v1, .int x] r h 0 0 Q = AW sv 75 10 [v0, v1, .int x] (.int x :: r) h 0 0 Q := e_pv am_h75 dX8_can_9 rfl rfl rfl rfl
theorem x75_10 : AW sv 75 10 [v0, v1, v2] r h 0 0 Q = AW sv 75 11 [v0, v1, v2] (.int (4) :: r) h 0 0 Q := e_iconstv am_h75 dX8_can_10 c_iconst_4
theorem x75_11 (h8 : am_cs r ≤ 8) : AW sv 75 11 [v0, v1, v2] (.int x1 :: .int x0 :: r) h 0 0 Q = AM sv 97 [.int x0, .int x1] h (fun v h1 => AW sv 75 14 [v0, v1, v2] (v.toList ++ r) h1 0 0 Q) := e_cS (as := [.int x0, .int x1]) am_h75 dX8_can_11 ml_8_40 (by decide) am_h97 rfl rfl rfl ⟨by decide, Nat.le_of_ble_eq_true rfl, am_rc_of (by decide) h8⟩
theorem x75_14 : AW sv 75 14 [v0, v1, v2] (.int x :: r) h 0 0 Q = if ¬ x = 0 then AW sv 75 19 [v0, v1, v2] r h 0 0 Q else AW sv 75 17 [v0, v1, v2] r h 0 0 Q := e_z_ne am_h75 dX8_can_14 rfl
theorem x75_17 : AW sv 75 17 [v0, v1, v2] r h 0 0 Q = AW sv 75 18 [v0, v1, v2] (.int (-1) :: r) h 0 0 Q := e_iconstv am_h75 dX8_can_17 c_iconst_m1
theorem x75_18 : AW sv 75 18 [v0, v1, v2] [.int x] h 0 0 Q = Q (some (.int x)) h := e_iret am_h75 dX8_can_18 rfl ⟨rfl, rfl⟩
theorem x75_19 : AW sv 75 19 [v0, .int x, v2] r h 0 0 Q = AW sv 75 20 [v0, .int x, v2] (.int x :: r) h 0 0 Q := e_pv am_h75 dX8_can_19 rfl rfl rfl rfl
theorem x75_20 : AW sv 75 20 [v0, v1, .int x] r h 0 0 Q = AW sv 75 21 [v0, v1, .int x] (.int x :: r) h 0 0 Q := e_pv am_h75 dX8_can_20 rfl rfl rfl rfl
theorem x75_21 : AW sv 75 21 [.ref a, v1, v2] r h 0 0 Q = AW sv 75 22 [.ref a, v1, v2] (.ref a :: r) h 0 0 Q := e_pv am_h75 dX8_can_21 rfl rfl rfl rfl
theorem x75_22 : AW sv 75 22 [v0, v1, v2] (.ref 0 :: r) (am_toH σ) 0 0 Q = AW sv 75 25 [v0, v1, v2] (.ref 1 :: r) (am_toH σ) 0 0 Q := e_getR am_h75 dX8_can_22 fl_8_10 is8 rfl
theorem x75_25 (hr : am_St a) : AW sv 75 25 [v0, v1, v2] (.ref a :: r) (am_toH σ) 0 0 Q = AW sv 75 28 [v0, v1, v2] (.int (σ.1 a 5) :: r) (am_toH σ) 0 0 Q := e_getI am_h75 dX8_can_25 fl_8_70 (is5 hr) rfl
theorem x75_28 (h8 : am_cs r ≤ 8) : AW sv 75 28 [v0, v1, v2] (.int x2 :: .int x1 :: .int x0 :: r) h 0 0 Q = AM sv 103 [.int x0, .int x1, .int x2] h (fun v h1 => AW sv 75 31 [v0, v1, v2] (v.toList ++ r) h1 0 0 Q) := e_cS (as := [.int x0, .int x1, .int x2]) am_h75 dX8_can_28 ml_8_171 (by decide) am_h103 rfl rfl rfl ⟨by decide, Nat.le_of_ble_eq_true rfl, am_rc_of (by decide) h8⟩
theorem x75_31 : AW sv 75 31 [v0, v1, v2] (.int x :: r) h 0 0 Q = if x = 0 then AW sv 75 38 [v0, v1, v2] r h 0 0 Q else AW sv 75 34 [v0, v1, v2] r h 0 0 Q := e_z_eq am_h75 dX8_can_31 rfl
theorem x75_34 : AW sv 75 34 [v0, v1, v2] r h 0 0 Q = AW sv 75 35 [v0, v1, v2] (.int (1) :: r) h 0 0 Q := e_iconstv am_h75 dX8_can_34 c_iconst_1
theorem x75_35 : AW sv 75 35 [v0, v1, v2] r h 0 0 Q = AW sv 75 39 [v0, v1, v2] r h 0 0 Q := e_goto am_h75 dX8_can_35 rfl
theorem x75_38 : AW sv 75 38 [v0, v1, v2] r h 0 0 Q = AW sv 75 39 [v0, v1, v2] (.int (0) :: r) h 0 0 Q := e_iconstv am_h75 dX8_can_38 c_iconst_0
theorem x75_39 : AW sv 75 39 [v0, v1, v2] [.int x] h 0 0 Q = Q (some (.int x)) h := e_iret am_h75 dX8_can_39 rfl ⟨rfl, rfl⟩
theorem n75 : AM sv 75 [.ref a, .int x0, .int x1] h Q = AW sv 75 0 [.ref a, .int x0, .int x1] [] h 0 0 Q := rfl
theorem x76_0 : AW sv 76 0 [v0, .int x, v2, v3, v4, v5] r h 0 0 Q = AW sv 76 1 [v0, .int x, v2, v3, v4, v5] (.int x :: r) h 0 0 Q := e_pv am_h76 dX8_odds_0 rfl rfl rfl rfl
theorem x76_1 : AW sv 76 1 [.ref a, v1, v2, v3, v4, v5] r h 0 0 Q = AW sv 76 2 [.ref a, v1, v2, v3, v4, v5] (.ref a :: r) h 0 0 Q := e_pv am_h76 dX8_odds_1 rfl rfl rfl rfl
theorem x76_2 : AW sv 76 2 [v0, v1, v2, v3, v4, v5] (.ref 0 :: r) (am_toH σ) 0 0 Q = AW sv 76 5 [v0, v1, v2, v3, v4, v5] (.ref 1 :: r) (am_toH σ) 0 0 Q := e_getR am_h76 dX8_odds_2 fl_8_10 is8 rfl
theorem x76_5 (hr : am_St a) : AW sv 76 5 [v0, v1, v2, v3, v4, v5] (.ref a :: r) (am_toH σ) 0 0 Q = AW sv 76 8 [v0, v1, v2, v3, v4, v5] (.ref (a + 7) :: r) (am_toH σ) 0 0 Q := e_getR am_h76 dX8_odds_5 fl_8_80 (is5 hr) rfl
theorem x76_8 (hr : am_St a) : AW sv 76 8 [v0, v1, v2, v3, v4, v5] (.ref (a + 7) :: r) (am_toH σ) 0 0 Q = AW sv 76 11 [v0, v1, v2, v3, v4, v5] (.int (σ.1 (a + 7) 3) :: r) (am_toH σ) 0 0 Q := e_getI am_h76 dX8_odds_8 fl_8_90 (is1 hr) rfl
theorem x76_11 (h8 : am_cs r ≤ 8) : AW sv 76 11 [v0, v1, v2, v3, v4, v5] (.int x1 :: .int x0 :: r) h 0 0 Q = AM sv 97 [.int x0, .int x1] h (fun v h1 => AW sv 76 14 [v0, v1, v2, v3, v4, v5] (v.toList ++ r) h1 0 0 Q) := e_cS (as := [.int x0, .int x1]) am_h76 dX8_odds_11 ml_8_40 (by decide) am_h97 rfl rfl rfl ⟨by decide, Nat.le_of_ble_eq_true rfl, am_rc_of (by decide) h8⟩
theorem x76_14 : AW sv 76 14 [v0, v1, v2, v3, v4, v5] (.int x :: r) h 0 0 Q = if x = 0 then AW sv 76 42 [v0, v1, v2, v3, v4, v5] r h 0 0 Q else AW sv 76 17 [v0, v1, v2, v3, v4, v5] r h 0 0 Q := e_z_eq am_h76 dX8_odds_14 rfl
theorem x76_17 : AW sv 76 17 [v0, v1, .int x, v3, v4, v5] r h 0 0 Q = AW sv 76 18 [v0, v1, .int x, v3, v4, v5] (.int x :: r) h 0 0 Q := e_pv am_h76 dX8_odds_17 rfl rfl rfl rfl
theorem x76_18 : AW sv 76 18 [v0, v1, v2, v3, v4, v5] r h 0 0 Q = AW sv 76 20 [v0, v1, v2, v3, v4, v5] (.int (16) :: r) h 0 0 Q := e_bipushv am_h76 dX8_odds_18 c_bipush_16
theorem x76_20 (h8 : am_cs r ≤ 8) : AW sv 76 20 [v0, v1, v2, v3, v4, v5] (.int x1 :: .int x0 :: r) h 0 0 Q = AM sv 97 [.int x0, .int x1] h (fun v h1 => AW sv 76 23 [v0, v1, v2, v3, v4, v5] (v.toList ++ r) h1 0 0 Q) := e_cS (as := [.int x0, .int x1]) am_h76 dX8_odds_20 ml_8_40 (by decide) am_h97 rfl rfl rfl ⟨by decide, Nat.le_of_ble_eq_true rfl, am_rc_of (by decide) h8⟩
theorem x76_23 : AW sv 76 23 [v0, v1, v2, v3, v4, v5] (.int x :: r) h 0 0 Q = if x = 0 then AW sv 76 42 [v0, v1, v2, v3, v4, v5] r h 0 0 Q else AW sv 76 26 [v0, v1, v2, v3, v4, v5] r h 0 0 Q := e_z_eq am_h76 dX8_odds_23 rfl
theorem x76_26 : AW sv 76 26 [v0, v1, v2, .int x, v4, v5] r h 0 0 Q = AW sv 76 27 [v0, v1, v2, .int x, v4, v5] (.int x :: r) h 0 0 Q := e_pv am_h76 dX8_odds_26 rfl rfl rfl rfl
theorem x76_27 (h8 : am_cs r ≤ 8) : AW sv 76 27 [v0, v1, v2, v3, v4, v5] (.int x0 :: r) h 0 0 Q = AM sv 98 [.int x0] h (fun v h1 => AW sv 76 30 [v0, v1, v2, v3, v4, v5] (v.toList ++ r) h1 0 0 Q) := e_cS (as := [.int x0]) am_h76 dX8_odds_27 ml_8_161 (by decide) am_h98 rfl rfl rfl ⟨by decide, Nat.le_of_ble_eq_true rfl, am_rc_of (by decide) h8⟩
theorem x76_30 : AW sv 76 30 [v0, v1, v2, v3, v4, v5] (.int x :: r) h 0 0 Q = if x = 0 then AW sv 76 42 [v0, v1, v2, v3, v4, v5] r h 0 0 Q else AW sv 76 33 [v0, v1, v2, v3, v4, v5] r h 0 0 Q := e_z_eq am_h76 dX8_odds_30 rfl
theorem x76_33 : AW sv 76 33 [v0, v1, v2, v3, .int x, v5] r h 0 0 Q = AW sv 76 35 [v0, v1, v2, v3, .int x, v5] (.int x :: r) h 0 0 Q := e_pv am_h76 dX8_odds_33 rfl rfl rfl rfl
theorem x76_35 : AW sv 76 35 [v0, v1, v2, v3, v4, v5] r h 0 0 Q = AW sv 76 36 [v0, v1, v2, v3, v4, v5] (.int (2) :: r) h 0 0 Q := e_iconstv am_h76 dX8_odds_35 c_iconst_2
theorem x76_36 (h8 : am_cs r ≤ 8) : AW sv 76 36 [v0, v1, v2, v3, v4, v5] (.int x1 :: .int x0 :: r) h 0 0 Q = AM sv 97 [.int x0, .int x1] h (fun v h1 => AW sv 76 39 [v0, v1, v2, v3, v4, v5] (v.toList ++ r) h1 0 0 Q) := e_cS (as := [.int x0, .int x1]) am_h76 dX8_odds_36 ml_8_40 (by decide) am_h97 rfl rfl rfl ⟨by decide, Nat.le_of_ble_eq_true rfl, am_rc_of (by decide) h8⟩
theorem x76_39 : AW sv 76 39 [v0, v1, v2, v3, v4, v5] (.int x :: r) h 0 0 Q = if ¬ x = 0 then AW sv 76 44 [v0, v1, v2, v3, v4, v5] r h 0 0 Q else AW sv 76 42 [v0, v1, v2, v3, v4, v5] r h 0 0 Q := e_z_ne am_h76 dX8_odds_39 rfl
theorem x76_42 : AW sv 76 42 [v0, v1, v2, v3, v4, v5] r h 0 0 Q = AW sv 76 43 [v0, v1, v2, v3, v4, v5] (.int (-1) :: r) h 0 0 Q := e_iconstv am_h76 dX8_odds_42 c_iconst_m1
theorem x76_43 : AW sv 76 43 [v0, v1, v2, v3, v4, v5] [.int x] h 0 0 Q = Q (some (.int x)) h := e_iret am_h76 dX8_odds_43 rfl ⟨rfl, rfl⟩
theorem x76_44 : AW sv 76 44 [.ref a, v1, v2, v3, v4, v5] r h 0 0 Q = AW sv 76 45 [.ref a, v1, v2, v3, v4, v5] (.ref a :: r) h 0 0 Q := e_pv am_h76 dX8_odds_44 rfl rfl rfl rfl
theorem x76_45 : AW sv 76 45 [v0, v1, v2, v3, v4, v5] (.ref 0 :: r) (am_toH σ) 0 0 Q = AW sv 76 48 [v0, v1, v2, v3, v4, v5] (.ref 1 :: r) (am_toH σ) 0 0 Q := e_getR am_h76 dX8_odds_45 fl_8_10 is8 rfl
theorem x76_48 (hr : am_St a) : AW sv 76 48 [v0, v1, v2, v3, v4, v5] (.ref a :: r) (am_toH σ) 0 0 Q = AW sv 76 51 [v0, v1, v2, v3, v4, v5] (.ref (a + 1) :: r) (am_toH σ) 0 0 Q := e_getR am_h76 dX8_odds_48 fl_8_44 (is5 hr) rfl
theorem x76_51 (hr : am_St a) : AW sv 76 51 [v0, v1, v2, v3, v4, v5] (.ref (a + 1) :: r) (am_toH σ) 0 0 Q = AW sv 76 54 [v0, v1, v2, v3, v4, v5] (.ref (a + 3) :: r) (am_toH σ) 0 0 Q := e_getR am_h76 dX8_odds_51 fl_8_54 (is3 hr) rfl
theorem x76_54 : AW sv 76 54 [v0, v1, .int x, v3, v4, v5] r h 0 0 Q = AW sv 76 55 [v0, v1, .int x, v3, v4, v5] (.int x :: r) h 0 0 Q := e_pv am_h76 dX8_odds_54 rfl rfl rfl rfl
theorem x76_55 (hi : am_in x (am_ln a) = true) : AW sv 76 55 [v0, v1, v2, v3, v4, v5] (.int x :: .ref a :: r) (am_toH σ) 0 0 Q = AW sv 76 56 [v0, v1, v2, v3, v4, v5] (.int (σ.1 a x.toNatClampNeg) :: r) (am_toH σ) 0 0 Q := e_iald am_h76 dX8_odds_55 hi
theorem x76_56 : AW sv 76 56 [v0, v1, v2, v3, v4, v5] (.int x :: r) h 0 0 Q = if ¬ x = 0 then AW sv 76 62 [v0, v1, v2, v3, v4, v5] r h 0 0 Q else AW sv 76 59 [v0, v1, v2, v3, v4, v5] r h 0 0 Q := e_z_ne am_h76 dX8_odds_56 rfl
theorem x76_59 : AW sv 76 59 [v0, v1, v2, v3, v4, v5] r h 0 0 Q = AW sv 76 61 [v0, v1, v2, v3, v4, v5] (.int (-2) :: r) h 0 0 Q := e_bipushv am_h76 dX8_odds_59 c_bipush_m2
theorem x76_61 : AW sv 76 61 [v0, v1, v2, v3, v4, v5] [.int x] h 0 0 Q = Q (some (.int x)) h := e_iret am_h76 dX8_odds_61 rfl ⟨rfl, rfl⟩
theorem x76_62 : AW sv 76 62 [.ref a, v1, v2, v3, v4, v5] r h 0 0 Q = AW sv 76 63 [.ref a, v1, v2, v3, v4, v5] (.ref a :: r) h 0 0 Q := e_pv am_h76 dX8_odds_62 rfl rfl rfl rfl
theorem x76_63 : AW sv 76 63 [v0, v1, v2, v3, v4, v5] (.ref 0 :: r) (am_toH σ) 0 0 Q = AW sv 76 66 [v0, v1, v2, v3, v4, v5] (.ref 1 :: r) (am_toH σ) 0 0 Q := e_getR am_h76 dX8_odds_63 fl_8_10 is8 rfl
theorem x76_66 : AW sv 76 66 [v0, .int x, v2, v3, v4, v5] r h 0 0 Q = AW sv 76 67 [v0, .int x, v2, v3, v4, v5] (.int x :: r) h 0 0 Q := e_pv am_h76 dX8_odds_66 rfl rfl rfl rfl
theorem x76_67 : AW sv 76 67 [v0, v1, .int x, v3, v4, v5] r h 0 0 Q = AW sv 76 68 [v0, v1, .int x, v3, v4, v5] (.int x :: r) h 0 0 Q := e_pv am_h76 dX8_odds_67 rfl rfl rfl rfl
theorem x76_68 : AW sv 76 68 [v0, v1, v2, .int x, v4, v5] r h 0 0 Q = AW sv 76 69 [v0, v1, v2, .int x, v4, v5] (.int x :: r) h 0 0 Q := e_pv am_h76 dX8_odds_68 rfl rfl rfl rfl
theorem x76_69 : AW sv 76 69 [.ref a, v1, v2, v3, v4, v5] r h 0 0 Q = AW sv 76 70 [.ref a, v1, v2, v3, v4, v5] (.ref a :: r) h 0 0 Q := e_pv am_h76 dX8_odds_69 rfl rfl rfl rfl
theorem x76_70 : AW sv 76 70 [v0, v1, v2, v3, v4, v5] (.ref 0 :: r) (am_toH σ) 0 0 Q = AW sv 76 73 [v0, v1, v2, v3, v4, v5] (.ref 1 :: r) (am_toH σ) 0 0 Q := e_getR am_h76 dX8_odds_70 fl_8_10 is8 rfl
theorem x76_73 (hr : am_St a) : AW sv 76 73 [v0, v1, v2, v3, v4, v5] (.ref a :: r) (am_toH σ) 0 0 Q = AW sv 76 76 [v0, v1, v2, v3, v4, v5] (.ref (a + 1) :: r) (am_toH σ) 0 0 Q := e_getR am_h76 dX8_odds_73 fl_8_44 (is5 hr) rfl
theorem x76_76 : AW sv 76 76 [v0, v1, .int x, v3, v4, v5] r h 0 0 Q = AW sv 76 77 [v0, v1, .int x, v3, v4, v5] (.int x :: r) h 0 0 Q := e_pv am_h76 dX8_odds_76 rfl rfl rfl rfl
theorem x76_77 : AW sv 76 77 [.ref a, v1, v2, v3, v4, v5] r h 0 0 Q = AW sv 76 78 [.ref a, v1, v2, v3, v4, v5] (.ref a :: r) h 0 0 Q := e_pv am_h76 dX8_odds_77 rfl rfl rfl rfl
theorem x76_78 : AW sv 76 78 [v0, v1, v2, v3, v4, v5] (.ref 0 :: r) (am_toH σ) 0 0 Q = AW sv 76 81 [v0, v1, v2, v3, v4, v5] (.ref 1 :: r) (am_toH σ) 0 0 Q := e_getR am_h76 dX8_odds_78 fl_8_10 is8 rfl
theorem x76_81 (hr : am_St a) : AW sv 76 81 [v0, v1, v2, v3, v4, v5] (.ref a :: r) (am_toH σ) 0 0 Q = AW sv 76 84 [v0, v1, v2, v3, v4, v5] (.ref (a + 7) :: r) (am_toH σ) 0 0 Q := e_getR am_h76 dX8_odds_81 fl_8_80 (is5 hr) rfl
theorem x76_84 (hr : am_St a) : AW sv 76 84 [v0, v1, v2, v3, v4, v5] (.ref (a + 7) :: r) (am_toH σ) 0 0 Q = AW sv 76 87 [v0, v1, v2, v3, v4, v5] (.ref (a + 9) :: r) (am_toH σ) 0 0 Q := e_getR am_h76 dX8_odds_84 fl_8_97 (is1 hr) rfl
theorem x76_87 : AW sv 76 87 [v0, .int x, v2, v3, v4, v5] r h 0 0 Q = AW sv 76 88 [v0, .int x, v2, v3, v4, v5] (.int x :: r) h 0 0 Q := e_pv am_h76 dX8_odds_87 rfl rfl rfl rfl
theorem x76_88 (hi : am_in x (am_ln a) = true) : AW sv 76 88 [v0, v1, v2, v3, v4, v5] (.int x :: .ref a :: r) (am_toH σ) 0 0 Q = AW sv 76 89 [v0, v1, v2, v3, v4, v5] (.int (σ.1 a x.toNatClampNeg) :: r) (am_toH σ) 0 0 Q := e_iald am_h76 dX8_odds_88 hi
theorem x76_89 : AW sv 76 89 [v0, v1, v2, v3, v4, v5] r h 0 0 Q = AW sv 76 90 [v0, v1, v2, v3, v4, v5] (.int (2) :: r) h 0 0 Q := e_iconstv am_h76 dX8_odds_89 c_iconst_2
theorem x76_90 : AW sv 76 90 [v0, v1, v2, v3, v4, v5] (.int y :: .int x :: r) h 0 0 Q = if ¬ x = y then AW sv 76 97 [v0, v1, v2, v3, v4, v5] r h 0 0 Q else AW sv 76 93 [v0, v1, v2, v3, v4, v5] r h 0 0 Q := e_c_ne am_h76 dX8_odds_90 rfl
theorem x76_93 : AW sv 76 93 [v0, v1, v2, v3, v4, v5] r h 0 0 Q = AW sv 76 94 [v0, v1, v2, v3, v4, v5] (.int (1) :: r) h 0 0 Q := e_iconstv am_h76 dX8_odds_93 c_iconst_1
theorem x76_94 : AW sv 76 94 [v0, v1, v2, v3, v4, v5] r h 0 0 Q = AW sv 76 98 [v0, v1, v2, v3, v4, v5] r h 0 0 Q := e_goto am_h76 dX8_odds_94 rfl
theorem x76_97 : AW sv 76 97 [v0, v1, v2, v3, v4, v5] r h 0 0 Q = AW sv 76 98 [v0, v1, v2, v3, v4, v5] (.int (0) :: r) h 0 0 Q := e_iconstv am_h76 dX8_odds_97 c_iconst_0
theorem x76_98 : AW sv 76 98 [.ref a, v1, v2, v3, v4, v5] r h 0 0 Q = AW sv 76 99 [.ref a, v1, v2, v3, v4, v5] (.ref a :: r) h 0 0 Q := e_pv am_h76 dX8_odds_98 rfl rfl rfl rfl
theorem x76_99 : AW sv 76 99 [v0, v1, v2, v3, v4, v5] (.ref 0 :: r) (am_toH σ) 0 0 Q = AW sv 76 102 [v0, v1, v2, v3, v4, v5] (.ref 1 :: r) (am_toH σ) 0 0 Q := e_getR am_h76 dX8_odds_99 fl_8_10 is8 rfl
theorem x76_102 (hr : am_St a) : AW sv 76 102 [v0, v1, v2, v3, v4, v5] (.ref a :: r) (am_toH σ) 0 0 Q = AW sv 76 105 [v0, v1, v2, v3, v4, v5] (.ref (a + 19) :: r) (am_toH σ) 0 0 Q := e_getR am_h76 dX8_odds_102 fl_8_77 (is5 hr) rfl
theorem x76_105 : AW sv 76 105 [v0, v1, v2, v3, v4, v5] r h 0 0 Q = AW sv 76 106 [v0, v1, v2, v3, v4, v5] (.int (2) :: r) h 0 0 Q := e_iconstv am_h76 dX8_odds_105 c_iconst_2
theorem x76_106 (hi : am_in x (am_ln a) = true) : AW sv 76 106 [v0, v1, v2, v3, v4, v5] (.int x :: .ref a :: r) (am_toH σ) 0 0 Q = AW sv 76 107 [v0, v1, v2, v3, v4, v5] (.int (σ.1 a x.toNatClampNeg) :: r) (am_toH σ) 0 0 Q := e_iald am_h76 dX8_odds_106 hi
theorem x76_107 (hr : am_St a) (h8 : am_cs r ≤ 8) : AW sv 76 107 [v0, v1, v2, v3, v4, v5] (.int x2 :: .int x1 :: .int x0 :: .ref (a + 1) :: r) (am_toH σ) 0 0 Q = AM sv 16 [.ref (a + 1), .int x0, .int x1, .int x2] (am_toH σ) (fun v h1 => AW sv 76 110 [v0, v1, v2, v3, v4, v5] (v.toList ++ r) h1 0 0 Q) := e_cV (as := [.int x0, .int x1, .int x2]) am_h76 dX8_odds_107 ml_8_106 (by decide) am_h16 rfl (is3 hr) rfl rfl ⟨by decide, Nat.le_of_ble_eq_true rfl, am_rc_of (by decide) h8⟩
theorem x76_110 (hr : am_St a) (h8 : am_cs r ≤ 8) : AW sv 76 110 [v0, v1, v2, v3, v4, v5] (.int x3 :: .int x2 :: .int x1 :: .int x0 :: .ref a :: r) (am_toH σ) 0 0 Q = AM sv 30 [.ref a, .int x0, .int x1, .int x2, .int x3] (am_toH σ) (fun v h1 => AW sv 76 113 [v0, v1, v2, v3, v4, v5] (v.toList ++ r) h1 0 0 Q) := e_cV (as := [.int x0, .int x1, .int x2, .int x3]) am_h76 dX8_odds_110 ml_8_175 (by decide) am_h30 rfl (is5 hr) rfl rfl ⟨by decide, Nat.le_of_ble_eq_true rfl, am_rc_of (by decide) h8⟩
theorem x76_113 : AW sv 76 113 [.ref a, v1, v2, v3, v4, v5] r h 0 0 Q = AW sv 76 114 [.ref a, v1, v2, v3, v4, v5] (.ref a :: r) h 0 0 Q := e_pv am_h76 dX8_odds_113 rfl rfl rfl rfl
theorem x76_114 : AW sv 76 114 [v0, v1, v2, v3, v4, v5] (.ref 0 :: r) (am_toH σ) 0 0 Q = AW sv 76 117 [v0, v1, v2, v3, v4, v5] (.ref 1 :: r) (am_toH σ) 0 0 Q := e_getR am_h76 dX8_odds_114 fl_8_10 is8 rfl
theorem x76_117 (hr : am_St a) : AW sv 76 117 [v0, v1, v2, v3, v4, v5] (.ref a :: r) (am_toH σ) 0 0 Q = AW sv 76 120 [v0, v1, v2, v3, v4, v5] (.int (σ.1 a 7) :: r) (am_toH σ) 0 0 Q := e_getI am_h76 dX8_odds_117 fl_8_178 (is5 hr) rfl
theorem x76_120 : AW sv 76 120 [.ref a, v1, v2, v3, v4, v5] r h 0 0 Q = AW sv 76 121 [.ref a, v1, v2, v3, v4, v5] (.ref a :: r) h 0 0 Q := e_pv am_h76 dX8_odds_120 rfl rfl rfl rfl
theorem x76_121 : AW sv 76 121 [v0, v1, v2, v3, v4, v5] (.ref 0 :: r) (am_toH σ) 0 0 Q = AW sv 76 124 [v0, v1, v2, v3, v4, v5] (.ref 1 :: r) (am_toH σ) 0 0 Q := e_getR am_h76 dX8_odds_121 fl_8_10 is8 rfl
theorem x76_124 (hr : am_St a) : AW sv 76 124 [v0, v1, v2, v3, v4, v5] (.ref a :: r) (am_toH σ) 0 0 Q = AW sv 76 127 [v0, v1, v2, v3, v4, v5] (.int (σ.1 a 8) :: r) (am_toH σ) 0 0 Q := e_getI am_h76 dX8_odds_124 fl_8_181 (is5 hr) rfl
theorem x76_127 (h8 : am_cs r ≤ 8) : AW sv 76 127 [v0, v1, v2, v3, v4, v5] (.int x1 :: .int x0 :: r) h 0 0 Q = AM sv 102 [.int x0, .int x1] h (fun v h1 => AW sv 76 130 [v0, v1, v2, v3, v4, v5] (v.toList ++ r) h1 0 0 Q) := e_cS (as := [.int x0, .int x1]) am_h76 dX8_odds_127 ml_8_184 (by decide) am_h102 rfl rfl rfl ⟨by decide, Nat.le_of_ble_eq_true rfl, am_rc_of (by decide) h8⟩
theorem x76_130 (hc : v4.category = 1) : AW sv 76 130 [v0, v1, v2, v3, v4, v5] (.int x :: r) h 0 0 Q = AW sv 76 132 [v0, v1, v2, v3, v4, .int x] r h 0 0 Q := e_pv am_h76 dX8_odds_130 rfl rfl rfl (am_sti_of (Nat.le_of_ble_eq_true rfl) (am_c1_of rfl hc))
theorem x76_132 : AW sv 76 132 [v0, v1, v2, v3, .int x, v5] r h 0 0 Q = AW sv 76 134 [v0, v1, v2, v3, .int x, v5] (.int x :: r) h 0 0 Q := e_pv am_h76 dX8_odds_132 rfl rfl rfl rfl
theorem x76_134 : AW sv 76 134 [v0, v1, v2, v3, v4, v5] (.int x :: r) h 0 0 Q = if ¬ x = 0 then AW sv 76 147 [v0, v1, v2, v3, v4, v5] r h 0 0 Q else AW sv 76 137 [v0, v1, v2, v3, v4, v5] r h 0 0 Q := e_z_ne am_h76 dX8_odds_134 rfl
theorem x76_137 : AW sv 76 137 [.ref a, v1, v2, v3, v4, v5] r h 0 0 Q = AW sv 76 138 [.ref a, v1, v2, v3, v4, v5] (.ref a :: r) h 0 0 Q := e_pv am_h76 dX8_odds_137 rfl rfl rfl rfl
theorem x76_138 : AW sv 76 138 [v0, v1, v2, v3, v4, v5] (.ref 0 :: r) (am_toH σ) 0 0 Q = AW sv 76 141 [v0, v1, v2, v3, v4, v5] (.ref 1 :: r) (am_toH σ) 0 0 Q := e_getR am_h76 dX8_odds_138 fl_8_10 is8 rfl
theorem x76_141 (hr : am_St a) : AW sv 76 141 [v0, v1, v2, v3, v4, v5] (.ref a :: r) (am_toH σ) 0 0 Q = AW sv 76 144 [v0, v1, v2, v3, v4, v5] (.int (σ.1 a 7) :: r) (am_toH σ) 0 0 Q := e_getI am_h76 dX8_odds_141 fl_8_178 (is5 hr) rfl
theorem x76_144 : AW sv 76 144 [v0, v1, v2, v3, v4, v5] r h 0 0 Q = AW sv 76 154 [v0, v1, v2, v3, v4, v5] r h 0 0 Q := e_goto am_h76 dX8_odds_144 rfl
theorem x76_147 : AW sv 76 147 [.ref a, v1, v2, v3, v4, v5] r h 0 0 Q = AW sv 76 148 [.ref a, v1, v2, v3, v4, v5] (.ref a :: r) h 0 0 Q := e_pv am_h76 dX8_odds_147 rfl rfl rfl rfl
theorem x76_148 : AW sv 76 148 [v0, v1, v2, v3, v4, v5] (.ref 0 :: r) (am_toH σ) 0 0 Q = AW sv 76 151 [v0, v1, v2, v3, v4, v5] (.ref 1 :: r) (am_toH σ) 0 0 Q := e_getR am_h76 dX8_odds_148 fl_8_10 is8 rfl
theorem x76_151 (hr : am_St a) : AW sv 76 151 [v0, v1, v2, v3, v4, v5] (.ref a :: r) (am_toH σ) 0 0 Q = AW sv 76 154 [v0, v1, v2, v3, v4, v5] (.int (σ.1 a 8) :: r) (am_toH σ) 0 0 Q := e_getI am_h76 dX8_odds_151 fl_8_181 (is5 hr) rfl
theorem x76_154 : AW sv 76 154 [v0, v1, v2, v3, v4, .int x] r h 0 0 Q = AW sv 76 156 [v0, v1, v2, v3, v4, .int x] (.int x :: r) h 0 0 Q := e_pv am_h76 dX8_odds_154 rfl rfl rfl rfl
theorem x76_156 : AW sv 76 156 [v0, v1, v2, v3, v4, v5] (.int x :: r) h 0 0 Q = if ¬ x = 0 then AW sv 76 163 [v0, v1, v2, v3, v4, v5] r h 0 0 Q else AW sv 76 159 [v0, v1, v2, v3, v4, v5] r h 0 0 Q := e_z_ne am_h76 dX8_odds_156 rfl
theorem x76_159 : AW sv 76 159 [v0, v1, v2, v3, v4, v5] r h 0 0 Q = AW sv 76 160 [v0, v1, v2, v3, v4, v5] (.int (1) :: r) h 0 0 Q := e_iconstv am_h76 dX8_odds_159 c_iconst_1
theorem x76_160 : AW sv 76 160 [v0, v1, v2, v3, v4, v5] r h 0 0 Q = AW sv 76 165 [v0, v1, v2, v3, v4, v5] r h 0 0 Q := e_goto am_h76 dX8_odds_160 rfl
theorem x76_163 : AW sv 76 163 [v0, v1, v2, v3, v4, .int x] r h 0 0 Q = AW sv 76 165 [v0, v1, v2, v3, v4, .int x] (.int x :: r) h 0 0 Q := e_pv am_h76 dX8_odds_163 rfl rfl rfl rfl
theorem x76_165 (hy : ¬ y = 0) : AW sv 76 165 [v0, v1, v2, v3, v4, v5] (.int y :: .int x :: r) h 0 0 Q = AW sv 76 166 [v0, v1, v2, v3, v4, v5] (.int (x / y) :: r) h 0 0 Q := e_idiv am_h76 dX8_odds_165 hy
theorem x76_166 : AW sv 76 166 [v0, v1, v2, v3, v4, v5] [.int x] h 0 0 Q = Q (some (.int x)) h := e_iret am_h76 dX8_odds_166 rfl ⟨rfl, rfl⟩
theorem n76 : AM sv 76 [.ref a, .int x0, .int x1, .int x2, .int x3] h Q = AW sv 76 0 [.ref a, .int x0, .int x1, .int x2, .int x3, .null] [] h 0 0 Q := rfl
theorem x77_0 : AW sv 77 0 [v0, .int x, v2] r h 0 0 Q = AW sv 77 1 [v0, .int x, v2] (.int x :: r) h 0 0 Q := e_pv am_h77 dX8_sees_0 rfl rfl rfl rfl
theorem x77_1 : AW sv 77 1 [v0, v1, v2] r h 0 0 Q = AW sv 77 2 [v0, v1, v2] (.int (-1) :: r) h 0 0 Q := e_iconstv am_h77 dX8_sees_1 c_iconst_m1
theorem x77_2 : AW sv 77 2 [v0, v1, v2] (.int y :: .int x :: r) h 0 0 Q = if x < y then AW sv 77 18 [v0, v1, v2] r h 0 0 Q else AW sv 77 5 [v0, v1, v2] r h 0 0 Q := e_c_lt am_h77 dX8_sees_2 rfl
theorem x77_5 : AW sv 77 5 [v0, .int x, v2] r h 0 0 Q = AW sv 77 6 [v0, .int x, v2] (.int x :: r) h 0 0 Q := e_pv am_h77 dX8_sees_5 rfl rfl rfl rfl
theorem x77_6 : AW sv 77 6 [v0, v1, v2] r h 0 0 Q = AW sv 77 8 [v0, v1, v2] (.int (16) :: r) h 0 0 Q := e_bipushv am_h77 dX8_sees_6 c_bipush_16
theorem x77_8 : AW sv 77 8 [v0, v1, v2] (.int y :: .int x :: r) h 0 0 Q = if y ≤ x then AW sv 77 18 [v0, v1, v2] r h 0 0 Q else AW sv 77 11 [v0, v1, v2] r h 0 0 Q := e_c_ge am_h77 dX8_sees_8 rfl
theorem x77_11 : AW sv 77 11 [v0, v1, .int x] r h 0 0 Q = AW sv 77 12 [v0, v1, .int x] (.int x :: r) h 0 0 Q := e_pv am_h77 dX8_sees_11 rfl rfl rfl rfl
theorem x77_12 (h8 : am_cs r ≤ 8) : AW sv 77 12 [v0, v1, v2] (.int x0 :: r) h 0 0 Q = AM sv 98 [.int x0] h (fun v h1 => AW sv 77 15 [v0, v1, v2] (v.toList ++ r) h1 0 0 Q) := e_cS (as := [.int x0]) am_h77 dX8_sees_12 ml_8_161 (by decide) am_h98 rfl rfl rfl ⟨by decide, Nat.le_of_ble_eq_true rfl, am_rc_of (by decide) h8⟩
theorem x77_15 : AW sv 77 15 [v0, v1, v2] (.int x :: r) h 0 0 Q = if ¬ x = 0 then AW sv 77 20 [v0, v1, v2] r h 0 0 Q else AW sv 77 18 [v0, v1, v2] r h 0 0 Q := e_z_ne am_h77 dX8_sees_15 rfl
theorem x77_18 : AW sv 77 18 [v0, v1, v2] r h 0 0 Q = AW sv 77 19 [v0, v1, v2] (.int (-1) :: r) h 0 0 Q := e_iconstv am_h77 dX8_sees_18 c_iconst_m1
theorem x77_19 : AW sv 77 19 [v0, v1, v2] [.int x] h 0 0 Q = Q (some (.int x)) h := e_iret am_h77 dX8_sees_19 rfl ⟨rfl, rfl⟩
theorem x77_20 : AW sv 77 20 [v0, .int x, v2] r h 0 0 Q = AW sv 77 21 [v0, .int x, v2] (.int x :: r) h 0 0 Q := e_pv am_h77 dX8_sees_20 rfl rfl rfl rfl
theorem x77_21 : AW sv 77 21 [v0, v1, v2] r h 0 0 Q = AW sv 77 22 [v0, v1, v2] (.int (-1) :: r) h 0 0 Q := e_iconstv am_h77 dX8_sees_21 c_iconst_m1
theorem x77_22 : AW sv 77 22 [v0, v1, v2] (.int y :: .int x :: r) h 0 0 Q = if ¬ x = y then AW sv 77 34 [v0, v1, v2] r h 0 0 Q else AW sv 77 25 [v0, v1, v2] r h 0 0 Q := e_c_ne am_h77 dX8_sees_22 rfl
theorem x77_25 : AW sv 77 25 [.ref a, v1, v2] r h 0 0 Q = AW sv 77 26 [.ref a, v1, v2] (.ref a :: r) h 0 0 Q := e_pv am_h77 dX8_sees_25 rfl rfl rfl rfl
theorem x77_26 : AW sv 77 26 [v0, v1, v2] (.ref 0 :: r) (am_toH σ) 0 0 Q = AW sv 77 29 [v0, v1, v2] (.ref 1 :: r) (am_toH σ) 0 0 Q := e_getR am_h77 dX8_sees_26 fl_8_10 is8 rfl
theorem x77_29 : AW sv 77 29 [v0, v1, .int x] r h 0 0 Q = AW sv 77 30 [v0, v1, .int x] (.int x :: r) h 0 0 Q := e_pv am_h77 dX8_sees_29 rfl rfl rfl rfl
theorem x77_30 (hr : am_St a) (h8 : am_cs r ≤ 8) : AW sv 77 30 [v0, v1, v2] (.int x0 :: .ref a :: r) (am_toH σ) 0 0 Q = AM sv 32 [.ref a, .int x0] (am_toH σ) (fun v h1 => AW sv 77 33 [v0, v1, v2] (v.toList ++ r) h1 0 0 Q) := e_cV (as := [.int x0]) am_h77 dX8_sees_30 ml_8_188 (by decide) am_h32 rfl (is5 hr) rfl rfl ⟨by decide, Nat.le_of_ble_eq_true rfl, am_rc_of (by decide) h8⟩
theorem x77_33 : AW sv 77 33 [v0, v1, v2] [.int x] h 0 0 Q = Q (some (.int x)) h := e_iret am_h77 dX8_sees_33 rfl ⟨rfl, rfl⟩
theorem x77_34 : AW sv 77 34 [.ref a, v1, v2] r h 0 0 Q = AW sv 77 35 [.ref a, v1, v2] (.ref a :: r) h 0 0 Q := e_pv am_h77 dX8_sees_34 rfl rfl rfl rfl
theorem x77_35 : AW sv 77 35 [v0, v1, v2] (.ref 0 :: r) (am_toH σ) 0 0 Q = AW sv 77 38 [v0, v1, v2] (.ref 1 :: r) (am_toH σ) 0 0 Q := e_getR am_h77 dX8_sees_35 fl_8_10 is8 rfl
theorem x77_38 (hr : am_St a) : AW sv 77 38 [v0, v1, v2] (.ref a :: r) (am_toH σ) 0 0 Q = AW sv 77 41 [v0, v1, v2] (.ref (a + 1) :: r) (am_toH σ) 0 0 Q := e_getR am_h77 dX8_sees_38 fl_8_44 (is5 hr) rfl
theorem x77_41 (hr : am_St a) : AW sv 77 41 [v0, v1, v2] (.ref (a + 1) :: r) (am_toH σ) 0 0 Q = AW sv 77 44 [v0, v1, v2] (.ref (a + 3) :: r) (am_toH σ) 0 0 Q := e_getR am_h77 dX8_sees_41 fl_8_54 (is3 hr) rfl
theorem x77_44 : AW sv 77 44 [v0, .int x, v2] r h 0 0 Q = AW sv 77 45 [v0, .int x, v2] (.int x :: r) h 0 0 Q := e_pv am_h77 dX8_sees_44 rfl rfl rfl rfl
theorem x77_45 (hi : am_in x (am_ln a) = true) : AW sv 77 45 [v0, v1, v2] (.int x :: .ref a :: r) (am_toH σ) 0 0 Q = AW sv 77 46 [v0, v1, v2] (.int (σ.1 a x.toNatClampNeg) :: r) (am_toH σ) 0 0 Q := e_iald am_h77 dX8_sees_45 hi
theorem x77_46 : AW sv 77 46 [v0, v1, v2] (.int x :: r) h 0 0 Q = if ¬ x = 0 then AW sv 77 54 [v0, v1, v2] r h 0 0 Q else AW sv 77 49 [v0, v1, v2] r h 0 0 Q := e_z_ne am_h77 dX8_sees_46 rfl
theorem x77_49 : AW sv 77 49 [v0, v1, v2] r h 0 0 Q = AW sv 77 51 [v0, v1, v2] (.int (-2) :: r) h 0 0 Q := e_bipushv am_h77 dX8_sees_49 c_bipush_m2
theorem x77_51 : AW sv 77 51 [v0, v1, v2] r h 0 0 Q = AW sv 77 63 [v0, v1, v2] r h 0 0 Q := e_goto am_h77 dX8_sees_51 rfl
theorem x77_54 : AW sv 77 54 [.ref a, v1, v2] r h 0 0 Q = AW sv 77 55 [.ref a, v1, v2] (.ref a :: r) h 0 0 Q := e_pv am_h77 dX8_sees_54 rfl rfl rfl rfl
theorem x77_55 : AW sv 77 55 [v0, v1, v2] (.ref 0 :: r) (am_toH σ) 0 0 Q = AW sv 77 58 [v0, v1, v2] (.ref 1 :: r) (am_toH σ) 0 0 Q := e_getR am_h77 dX8_sees_55 fl_8_10 is8 rfl
theorem x77_58 : AW sv 77 58 [v0, .int x, v2] r h 0 0 Q = AW sv 77 59 [v0, .int x, v2] (.int x :: r) h 0 0 Q := e_pv am_h77 dX8_sees_58 rfl rfl rfl rfl
theorem x77_59 : AW sv 77 59 [v0, v1, .int x] r h 0 0 Q = AW sv 77 60 [v0, v1, .int x] (.int x :: r) h 0 0 Q := e_pv am_h77 dX8_sees_59 rfl rfl rfl rfl
theorem x77_60 (hr : am_St a) (h8 : am_cs r ≤ 8) : AW sv 77 60 [v0, v1, v2] (.int x1 :: .int x0 :: .ref a :: r) (am_toH σ) 0 0 Q = AM sv 31 [.ref a, .int x0, .int x1] (am_toH σ) (fun v h1 => AW sv 77 63 [v0, v1, v2] (v.toList ++ r) h1 0 0 Q) := e_cV (as := [.int x0, .int x1]) am_h77 dX8_sees_60 ml_8_192 (by decide) am_h31 rfl (is5 hr) rfl rfl ⟨by decide, Nat.le_of_ble_eq_true rfl, am_rc_of (by decide) h8⟩
theorem x77_63 : AW sv 77 63 [v0, v1, v2] [.int x] h 0 0 Q = Q (some (.int x)) h := e_iret am_h77 dX8_sees_63 rfl ⟨rfl, rfl⟩
theorem n77 : AM sv 77 [.ref a, .int x0, .int x1] h Q = AW sv 77 0 [.ref a, .int x0, .int x1] [] h 0 0 Q := rfl
theorem x78_0 : AW sv 78 0 [v0, .int x, v2, v3] r h 0 0 Q = AW sv 78 1 [v0, .int x, v2, v3] (.int x :: r) h 0 0 Q := e_pv am_h78 dX8_quiet_0 rfl rfl rfl rfl
theorem x78_1 : AW sv 78 1 [v0, v1, v2, v3] r h 0 0 Q = AW sv 78 3 [v0, v1, v2, v3] (.int (16) :: r) h 0 0 Q := e_bipushv am_h78 dX8_quiet_1 c_bipush_16
theorem x78_3 (h8 : am_cs r ≤ 8) : AW sv 78 3 [v0, v1, v2, v3] (.int x1 :: .int x0 :: r) h 0 0 Q = AM sv 97 [.int x0, .int x1] h (fun v h1 => AW sv 78 6 [v0, v1, v2, v3] (v.toList ++ r) h1 0 0 Q) := e_cS (as := [.int x0, .int x1]) am_h78 dX8_quiet_3 ml_8_40 (by decide) am_h97 rfl rfl rfl ⟨by decide, Nat.le_of_ble_eq_true rfl, am_rc_of (by decide) h8⟩
theorem x78_6 : AW sv 78 6 [v0, v1, v2, v3] (.int x :: r) h 0 0 Q = if x = 0 then AW sv 78 17 [v0, v1, v2, v3] r h 0 0 Q else AW sv 78 9 [v0, v1, v2, v3] r h 0 0 Q := e_z_eq am_h78 dX8_quiet_6 rfl
theorem x78_9 : AW sv 78 9 [v0, v1, .int x, v3] r h 0 0 Q = AW sv 78 10 [v0, v1, .int x, v3] (.int x :: r) h 0 0 Q := e_pv am_h78 dX8_quiet_9 rfl rfl rfl rfl
theorem x78_10 : AW sv 78 10 [v0, v1, v2, v3] r h 0 0 Q = AW sv 78 11 [v0, v1, v2, v3] (.int (2) :: r) h 0 0 Q := e_iconstv am_h78 dX8_quiet_10 c_iconst_2
theorem x78_11 (h8 : am_cs r ≤ 8) : AW sv 78 11 [v0, v1, v2, v3] (.int x1 :: .int x0 :: r) h 0 0 Q = AM sv 97 [.int x0, .int x1] h (fun v h1 => AW sv 78 14 [v0, v1, v2, v3] (v.toList ++ r) h1 0 0 Q) := e_cS (as := [.int x0, .int x1]) am_h78 dX8_quiet_11 ml_8_40 (by decide) am_h97 rfl rfl rfl ⟨by decide, Nat.le_of_ble_eq_true rfl, am_rc_of (by decide) h8⟩
theorem x78_14 : AW sv 78 14 [v0, v1, v2, v3] (.int x :: r) h 0 0 Q = if ¬ x = 0 then AW sv 78 19 [v0, v1, v2, v3] r h 0 0 Q else AW sv 78 17 [v0, v1, v2, v3] r h 0 0 Q := e_z_ne am_h78 dX8_quiet_14 rfl
theorem x78_17 : AW sv 78 17 [v0, v1, v2, v3] r h 0 0 Q = AW sv 78 18 [v0, v1, v2, v3] (.int (-1) :: r) h 0 0 Q := e_iconstv am_h78 dX8_quiet_17 c_iconst_m1
theorem x78_18 : AW sv 78 18 [v0, v1, v2, v3] [.int x] h 0 0 Q = Q (some (.int x)) h := e_iret am_h78 dX8_quiet_18 rfl ⟨rfl, rfl⟩
theorem x78_19 : AW sv 78 19 [.ref a, v1, v2, v3] r h 0 0 Q = AW sv 78 20 [.ref a, v1, v2, v3] (.ref a :: r) h 0 0 Q := e_pv am_h78 dX8_quiet_19 rfl rfl rfl rfl
theorem x78_20 : AW sv 78 20 [v0, v1, v2, v3] (.ref 0 :: r) (am_toH σ) 0 0 Q = AW sv 78 23 [v0, v1, v2, v3] (.ref 1 :: r) (am_toH σ) 0 0 Q := e_getR am_h78 dX8_quiet_20 fl_8_10 is8 rfl
theorem x78_23 (hr : am_St a) : AW sv 78 23 [v0, v1, v2, v3] (.ref a :: r) (am_toH σ) 0 0 Q = AW sv 78 26 [v0, v1, v2, v3] (.ref (a + 1) :: r) (am_toH σ) 0 0 Q := e_getR am_h78 dX8_quiet_23 fl_8_44 (is5 hr) rfl
theorem x78_26 (hr : am_St a) : AW sv 78 26 [v0, v1, v2, v3] (.ref (a + 1) :: r) (am_toH σ) 0 0 Q = AW sv 78 29 [v0, v1, v2, v3] (.ref (a + 3) :: r) (am_toH σ) 0 0 Q := e_getR am_h78 dX8_quiet_26 fl_8_54 (is3 hr) rfl
theorem x78_29 : AW sv 78 29 [v0, .int x, v2, v3] r h 0 0 Q = AW sv 78 30 [v0, .int x, v2, v3] (.int x :: r) h 0 0 Q := e_pv am_h78 dX8_quiet_29 rfl rfl rfl rfl
theorem x78_30 (hi : am_in x (am_ln a) = true) : AW sv 78 30 [v0, v1, v2, v3] (.int x :: .ref a :: r) (am_toH σ) 0 0 Q = AW sv 78 31 [v0, v1, v2, v3] (.int (σ.1 a x.toNatClampNeg) :: r) (am_toH σ) 0 0 Q := e_iald am_h78 dX8_quiet_30 hi
theorem x78_31 : AW sv 78 31 [v0, v1, v2, v3] (.int x :: r) h 0 0 Q = if ¬ x = 0 then AW sv 78 37 [v0, v1, v2, v3] r h 0 0 Q else AW sv 78 34 [v0, v1, v2, v3] r h 0 0 Q := e_z_ne am_h78 dX8_quiet_31 rfl
theorem x78_34 : AW sv 78 34 [v0, v1, v2, v3] r h 0 0 Q = AW sv 78 36 [v0, v1, v2, v3] (.int (-2) :: r) h 0 0 Q := e_bipushv am_h78 dX8_quiet_34 c_bipush_m2
theorem x78_36 : AW sv 78 36 [v0, v1, v2, v3] [.int x] h 0 0 Q = Q (some (.int x)) h := e_iret am_h78 dX8_quiet_36 rfl ⟨rfl, rfl⟩
theorem x78_37 : AW sv 78 37 [.ref a, v1, v2, v3] r h 0 0 Q = AW sv 78 38 [.ref a, v1, v2, v3] (.ref a :: r) h 0 0 Q := e_pv am_h78 dX8_quiet_37 rfl rfl rfl rfl
theorem x78_38 : AW sv 78 38 [v0, v1, v2, v3] (.ref 0 :: r) (am_toH σ) 0 0 Q = AW sv 78 41 [v0, v1, v2, v3] (.ref 43 :: r) (am_toH σ) 0 0 Q := e_getR am_h78 dX8_quiet_38 fl_8_22 is8 rfl
theorem x78_41 : AW sv 78 41 [.ref a, v1, v2, v3] r h 0 0 Q = AW sv 78 42 [.ref a, v1, v2, v3] (.ref a :: r) h 0 0 Q := e_pv am_h78 dX8_quiet_41 rfl rfl rfl rfl
theorem x78_42 : AW sv 78 42 [v0, v1, v2, v3] (.ref 0 :: r) (am_toH σ) 0 0 Q = AW sv 78 45 [v0, v1, v2, v3] (.ref 1 :: r) (am_toH σ) 0 0 Q := e_getR am_h78 dX8_quiet_42 fl_8_10 is8 rfl
theorem x78_45 : AW sv 78 45 [v0, .int x, v2, v3] r h 0 0 Q = AW sv 78 46 [v0, .int x, v2, v3] (.int x :: r) h 0 0 Q := e_pv am_h78 dX8_quiet_45 rfl rfl rfl rfl
theorem x78_46 (h8 : am_cs r ≤ 8) : AW sv 78 46 [v0, v1, v2, v3] (.int x1 :: .ref b0 :: .ref 43 :: r) (am_toH σ) 0 0 Q = AM sv 54 [.ref 43, .ref b0, .int x1] (am_toH σ) (fun v h1 => AW sv 78 49 [v0, v1, v2, v3] (v.toList ++ r) h1 0 0 Q) := e_cV (as := [.ref b0, .int x1]) am_h78 dX8_quiet_46 ml_8_195 (by decide) am_h54 rfl is7 rfl rfl ⟨by decide, Nat.le_of_ble_eq_true rfl, am_rc_of (by decide) h8⟩
theorem x78_49 (hc : v2.category = 1) : AW sv 78 49 [v0, v1, v2, v3] (.int x :: r) h 0 0 Q = AW sv 78 50 [v0, v1, v2, .int x] r h 0 0 Q := e_pv am_h78 dX8_quiet_49 rfl rfl rfl (am_sti_of (Nat.le_of_ble_eq_true rfl) (am_c1_of rfl hc))
theorem x78_50 : AW sv 78 50 [v0, v1, .int x, v3] r h 0 0 Q = AW sv 78 51 [v0, v1, .int x, v3] (.int x :: r) h 0 0 Q := e_pv am_h78 dX8_quiet_50 rfl rfl rfl rfl
theorem x78_51 : AW sv 78 51 [v0, v1, v2, v3] (.int x :: r) h 0 0 Q = if ¬ x = 0 then AW sv 78 58 [v0, v1, v2, v3] r h 0 0 Q else AW sv 78 54 [v0, v1, v2, v3] r h 0 0 Q := e_z_ne am_h78 dX8_quiet_51 rfl
theorem x78_54 : AW sv 78 54 [v0, v1, v2, .int x] r h 0 0 Q = AW sv 78 55 [v0, v1, v2, .int x] (.int x :: r) h 0 0 Q := e_pv am_h78 dX8_quiet_54 rfl rfl rfl rfl
theorem x78_55 : AW sv 78 55 [v0, v1, v2, v3] r h 0 0 Q = AW sv 78 71 [v0, v1, v2, v3] r h 0 0 Q := e_goto am_h78 dX8_quiet_55 rfl
theorem x78_58 : AW sv 78 58 [.ref a, v1, v2, v3] r h 0 0 Q = AW sv 78 59 [.ref a, v1, v2, v3] (.ref a :: r) h 0 0 Q := e_pv am_h78 dX8_quiet_58 rfl rfl rfl rfl
theorem x78_59 : AW sv 78 59 [v0, v1, v2, v3] (.ref 0 :: r) (am_toH σ) 0 0 Q = AW sv 78 62 [v0, v1, v2, v3] (.ref 43 :: r) (am_toH σ) 0 0 Q := e_getR am_h78 dX8_quiet_59 fl_8_22 is8 rfl
theorem x78_62 : AW sv 78 62 [.ref a, v1, v2, v3] r h 0 0 Q = AW sv 78 63 [.ref a, v1, v2, v3] (.ref a :: r) h 0 0 Q := e_pv am_h78 dX8_quiet_62 rfl rfl rfl rfl
theorem x78_63 : AW sv 78 63 [v0, v1, v2, v3] (.ref 0 :: r) (am_toH σ) 0 0 Q = AW sv 78 66 [v0, v1, v2, v3] (.ref 1 :: r) (am_toH σ) 0 0 Q := e_getR am_h78 dX8_quiet_63 fl_8_10 is8 rfl
theorem x78_66 : AW sv 78 66 [v0, .int x, v2, v3] r h 0 0 Q = AW sv 78 67 [v0, .int x, v2, v3] (.int x :: r) h 0 0 Q := e_pv am_h78 dX8_quiet_66 rfl rfl rfl rfl
theorem x78_67 : AW sv 78 67 [v0, v1, v2, .int x] r h 0 0 Q = AW sv 78 68 [v0, v1, v2, .int x] (.int x :: r) h 0 0 Q := e_pv am_h78 dX8_quiet_67 rfl rfl rfl rfl
theorem x78_68 (h8 : am_cs r ≤ 8) : AW sv 78 68 [v0, v1, v2, v3] (.int x2 :: .int x1 :: .ref b0 :: .ref 43 :: r) (am_toH σ) 0 0 Q = AM sv 53 [.ref 43, .ref b0, .int x1, .int x2] (am_toH σ) (fun v h1 => AW sv 78 71 [v0, v1, v2, v3] (v.toList ++ r) h1 0 0 Q) := e_cV (as := [.ref b0, .int x1, .int x2]) am_h78 dX8_quiet_68 ml_8_199 (by decide) am_h53 rfl is7 rfl rfl ⟨by decide, Nat.le_of_ble_eq_true rfl, am_rc_of (by decide) h8⟩
theorem x78_71 : AW sv 78 71 [v0, v1, v2, v3] [.int x] h 0 0 Q = Q (some (.int x)) h := e_iret am_h78 dX8_quiet_71 rfl ⟨rfl, rfl⟩
theorem n78 : AM sv 78 [.ref a, .int x0, .int x1] h Q = AW sv 78 0 [.ref a, .int x0, .int x1, .null] [] h 0 0 Q := rfl
theorem x79_0 : AW sv 79 0 [v0, .int x, v2, v3, v4] r h 0 0 Q = AW sv 79 1 [v0, .int x, v2, v3, v4] (.int x :: r) h 0 0 Q := e_pv am_h79 dX8_cover_0 rfl rfl rfl rfl
theorem x79_1 : AW sv 79 1 [v0, v1, v2, v3, v4] r h 0 0 Q = AW sv 79 3 [v0, v1, v2, v3, v4] (.int (16) :: r) h 0 0 Q := e_bipushv am_h79 dX8_cover_1 c_bipush_16
theorem x79_3 (h8 : am_cs r ≤ 8) : AW sv 79 3 [v0, v1, v2, v3, v4] (.int x1 :: .int x0 :: r) h 0 0 Q = AM sv 97 [.int x0, .int x1] h (fun v h1 => AW sv 79 6 [v0, v1, v2, v3, v4] (v.toList ++ r) h1 0 0 Q) := e_cS (as := [.int x0, .int x1]) am_h79 dX8_cover_3 ml_8_40 (by decide) am_h97 rfl rfl rfl ⟨by decide, Nat.le_of_ble_eq_true rfl, am_rc_of (by decide) h8⟩
theorem x79_6 : AW sv 79 6 [v0, v1, v2, v3, v4] (.int x :: r) h 0 0 Q = if x = 0 then AW sv 79 44 [v0, v1, v2, v3, v4] r h 0 0 Q else AW sv 79 9 [v0, v1, v2, v3, v4] r h 0 0 Q := e_z_eq am_h79 dX8_cover_6 rfl
theorem x79_9 : AW sv 79 9 [v0, v1, .int x, v3, v4] r h 0 0 Q = AW sv 79 10 [v0, v1, .int x, v3, v4] (.int x :: r) h 0 0 Q := e_pv am_h79 dX8_cover_9 rfl rfl rfl rfl
theorem x79_10 : AW sv 79 10 [v0, v1, v2, v3, v4] r h 0 0 Q = AW sv 79 11 [v0, v1, v2, v3, v4] (.int (4) :: r) h 0 0 Q := e_iconstv am_h79 dX8_cover_10 c_iconst_4
theorem x79_11 (h8 : am_cs r ≤ 8) : AW sv 79 11 [v0, v1, v2, v3, v4] (.int x1 :: .int x0 :: r) h 0 0 Q = AM sv 97 [.int x0, .int x1] h (fun v h1 => AW sv 79 14 [v0, v1, v2, v3, v4] (v.toList ++ r) h1 0 0 Q) := e_cS (as := [.int x0, .int x1]) am_h79 dX8_cover_11 ml_8_40 (by decide) am_h97 rfl rfl rfl ⟨by decide, Nat.le_of_ble_eq_true rfl, am_rc_of (by decide) h8⟩
theorem x79_14 : AW sv 79 14 [v0, v1, v2, v3, v4] (.int x :: r) h 0 0 Q = if x = 0 then AW sv 79 44 [v0, v1, v2, v3, v4] r h 0 0 Q else AW sv 79 17 [v0, v1, v2, v3, v4] r h 0 0 Q := e_z_eq am_h79 dX8_cover_14 rfl
theorem x79_17 : AW sv 79 17 [v0, v1, v2, .int x, v4] r h 0 0 Q = AW sv 79 18 [v0, v1, v2, .int x, v4] (.int x :: r) h 0 0 Q := e_pv am_h79 dX8_cover_17 rfl rfl rfl rfl
theorem x79_18 : AW sv 79 18 [v0, v1, .int x, v3, v4] r h 0 0 Q = AW sv 79 19 [v0, v1, .int x, v3, v4] (.int x :: r) h 0 0 Q := e_pv am_h79 dX8_cover_18 rfl rfl rfl rfl
theorem x79_19 : AW sv 79 19 [v0, v1, v2, v3, v4] r h 0 0 Q = AW sv 79 20 [v0, v1, v2, v3, v4] (.int (3) :: r) h 0 0 Q := e_iconstv am_h79 dX8_cover_19 c_iconst_3
theorem x79_20 : AW sv 79 20 [v0, v1, v2, v3, v4] (.int y :: .int x :: r) h 0 0 Q = if ¬ x = y then AW sv 79 27 [v0, v1, v2, v3, v4] r h 0 0 Q else AW sv 79 23 [v0, v1, v2, v3, v4] r h 0 0 Q := e_c_ne am_h79 dX8_cover_20 rfl
theorem x79_23 : AW sv 79 23 [v0, v1, v2, v3, v4] r h 0 0 Q = AW sv 79 24 [v0, v1, v2, v3, v4] (.int (1) :: r) h 0 0 Q := e_iconstv am_h79 dX8_cover_23 c_iconst_1
theorem x79_24 : AW sv 79 24 [v0, v1, v2, v3, v4] r h 0 0 Q = AW sv 79 28 [v0, v1, v2, v3, v4] r h 0 0 Q := e_goto am_h79 dX8_cover_24 rfl
theorem x79_27 : AW sv 79 27 [v0, v1, v2, v3, v4] r h 0 0 Q = AW sv 79 28 [v0, v1, v2, v3, v4] (.int (4) :: r) h 0 0 Q := e_iconstv am_h79 dX8_cover_27 c_iconst_4
theorem x79_28 (h8 : am_cs r ≤ 8) : AW sv 79 28 [v0, v1, v2, v3, v4] (.int x1 :: .int x0 :: r) h 0 0 Q = AM sv 97 [.int x0, .int x1] h (fun v h1 => AW sv 79 31 [v0, v1, v2, v3, v4] (v.toList ++ r) h1 0 0 Q) := e_cS (as := [.int x0, .int x1]) am_h79 dX8_cover_28 ml_8_40 (by decide) am_h97 rfl rfl rfl ⟨by decide, Nat.le_of_ble_eq_true rfl, am_rc_of (by decide) h8⟩
theorem x79_31 : AW sv 79 31 [v0, v1, v2, v3, v4] (.int x :: r) h 0 0 Q = if x = 0 then AW sv 79 44 [v0, v1, v2, v3, v4] r h 0 0 Q else AW sv 79 34 [v0, v1, v2, v3, v4] r h 0 0 Q := e_z_eq am_h79 dX8_cover_31 rfl
theorem x79_34 : AW sv 79 34 [v0, v1, v2, v3, .int x] r h 0 0 Q = AW sv 79 36 [v0, v1, v2, v3, .int x] (.int x :: r) h 0 0 Q := e_pv am_h79 dX8_cover_34 rfl rfl rfl rfl
theorem x79_36 : AW sv 79 36 [v0, v1, v2, v3, v4] r h 0 0 Q = AW sv 79 38 [v0, v1, v2, v3, v4] (.int (100) :: r) h 0 0 Q := e_bipushv am_h79 dX8_cover_36 c_bipush_100
theorem x79_38 (h8 : am_cs r ≤ 8) : AW sv 79 38 [v0, v1, v2, v3, v4] (.int x1 :: .int x0 :: r) h 0 0 Q = AM sv 97 [.int x0, .int x1] h (fun v h1 => AW sv 79 41 [v0, v1, v2, v3, v4] (v.toList ++ r) h1 0 0 Q) := e_cS (as := [.int x0, .int x1]) am_h79 dX8_cover_38 ml_8_40 (by decide) am_h97 rfl rfl rfl ⟨by decide, Nat.le_of_ble_eq_true rfl, am_rc_of (by decide) h8⟩
theorem x79_41 : AW sv 79 41 [v0, v1, v2, v3, v4] (.int x :: r) h 0 0 Q = if ¬ x = 0 then AW sv 79 46 [v0, v1, v2, v3, v4] r h 0 0 Q else AW sv 79 44 [v0, v1, v2, v3, v4] r h 0 0 Q := e_z_ne am_h79 dX8_cover_41 rfl
theorem x79_44 : AW sv 79 44 [v0, v1, v2, v3, v4] r h 0 0 Q = AW sv 79 45 [v0, v1, v2, v3, v4] (.int (-1) :: r) h 0 0 Q := e_iconstv am_h79 dX8_cover_44 c_iconst_m1
theorem x79_45 : AW sv 79 45 [v0, v1, v2, v3, v4] [.int x] h 0 0 Q = Q (some (.int x)) h := e_iret am_h79 dX8_cover_45 rfl ⟨rfl, rfl⟩
theorem x79_46 : AW sv 79 46 [.ref a, v1, v2, v3, v4] r h 0 0 Q = AW sv 79 47 [.ref a, v1, v2, v3, v4] (.ref a :: r) h 0 0 Q := e_pv am_h79 dX8_cover_46 rfl rfl rfl rfl
theorem x79_47 : AW sv 79 47 [v0, v1, v2, v3, v4] (.ref 0 :: r) (am_toH σ) 0 0 Q = AW sv 79 50 [v0, v1, v2, v3, v4] (.ref 1 :: r) (am_toH σ) 0 0 Q := e_getR am_h79 dX8_cover_47 fl_8_10 is8 rfl
theorem x79_50 (hr : am_St a) : AW sv 79 50 [v0, v1, v2, v3, v4] (.ref a :: r) (am_toH σ) 0 0 Q = AW sv 79 53 [v0, v1, v2, v3, v4] (.ref (a + 11) :: r) (am_toH σ) 0 0 Q := e_getR am_h79 dX8_cover_50 fl_8_147 (is5 hr) rfl
theorem x79_53 (hr : am_St a) : AW sv 79 53 [v0, v1, v2, v3, v4] (.ref (a + 11) :: r) (am_toH σ) 0 0 Q = AW sv 79 56 [v0, v1, v2, v3, v4] (.int (σ.1 (a + 11) 4) :: r) (am_toH σ) 0 0 Q := e_getI am_h79 dX8_cover_53 fl_8_151 (is0 hr) rfl
theorem x79_56 : AW sv 79 56 [v0, v1, v2, v3, v4] r h 0 0 Q = AW sv 79 58 [v0, v1, v2, v3, v4] (.int (8) :: r) h 0 0 Q := e_bipushv am_h79 dX8_cover_56 c_bipush_8
theorem x79_58 : AW sv 79 58 [v0, v1, v2, v3, v4] (.int y :: .int x :: r) h 0 0 Q = if x < y then AW sv 79 64 [v0, v1, v2, v3, v4] r h 0 0 Q else AW sv 79 61 [v0, v1, v2, v3, v4] r h 0 0 Q := e_c_lt am_h79 dX8_cover_58 rfl
theorem x79_61 : AW sv 79 61 [v0, v1, v2, v3, v4] r h 0 0 Q = AW sv 79 63 [v0, v1, v2, v3, v4] (.int (-3) :: r) h 0 0 Q := e_bipushv am_h79 dX8_cover_61 c_bipush_m3
theorem x79_63 : AW sv 79 63 [v0, v1, v2, v3, v4] [.int x] h 0 0 Q = Q (some (.int x)) h := e_iret am_h79 dX8_cover_63 rfl ⟨rfl, rfl⟩
theorem x79_64 : AW sv 79 64 [.ref a, v1, v2, v3, v4] r h 0 0 Q = AW sv 79 65 [.ref a, v1, v2, v3, v4] (.ref a :: r) h 0 0 Q := e_pv am_h79 dX8_cover_64 rfl rfl rfl rfl
theorem x79_65 : AW sv 79 65 [v0, v1, v2, v3, v4] (.ref 0 :: r) (am_toH σ) 0 0 Q = AW sv 79 68 [v0, v1, v2, v3, v4] (.ref 1 :: r) (am_toH σ) 0 0 Q := e_getR am_h79 dX8_cover_65 fl_8_10 is8 rfl
theorem x79_68 (hr : am_St a) : AW sv 79 68 [v0, v1, v2, v3, v4] (.ref a :: r) (am_toH σ) 0 0 Q = AW sv 79 71 [v0, v1, v2, v3, v4] (.ref (a + 11) :: r) (am_toH σ) 0 0 Q := e_getR am_h79 dX8_cover_68 fl_8_147 (is5 hr) rfl
theorem x79_71 : AW sv 79 71 [v0, .int x, v2, v3, v4] r h 0 0 Q = AW sv 79 72 [v0, .int x, v2, v3, v4] (.int x :: r) h 0 0 Q := e_pv am_h79 dX8_cover_71 rfl rfl rfl rfl
theorem x79_72 : AW sv 79 72 [v0, v1, .int x, v3, v4] r h 0 0 Q = AW sv 79 73 [v0, v1, .int x, v3, v4] (.int x :: r) h 0 0 Q := e_pv am_h79 dX8_cover_72 rfl rfl rfl rfl
theorem x79_73 : AW sv 79 73 [v0, v1, v2, .int x, v4] r h 0 0 Q = AW sv 79 74 [v0, v1, v2, .int x, v4] (.int x :: r) h 0 0 Q := e_pv am_h79 dX8_cover_73 rfl rfl rfl rfl
theorem x79_74 : AW sv 79 74 [v0, v1, v2, v3, .int x] r h 0 0 Q = AW sv 79 76 [v0, v1, v2, v3, .int x] (.int x :: r) h 0 0 Q := e_pv am_h79 dX8_cover_74 rfl rfl rfl rfl
theorem x79_76 (hr : am_St a) (h8 : am_cs r ≤ 8) : AW sv 79 76 [v0, v1, v2, v3, v4] (.int x3 :: .int x2 :: .int x1 :: .int x0 :: .ref (a + 11) :: r) (am_toH σ) 0 0 Q = AM sv 2 [.ref (a + 11), .int x0, .int x1, .int x2, .int x3] (am_toH σ) (fun v h1 => AW sv 79 79 [v0, v1, v2, v3, v4] (v.toList ++ r) h1 0 0 Q) := e_cV (as := [.int x0, .int x1, .int x2, .int x3]) am_h79 dX8_cover_76 ml_8_203 (by decide) am_h2 rfl (is0 hr) rfl rfl ⟨by decide, Nat.le_of_ble_eq_true rfl, am_rc_of (by decide) h8⟩
theorem x79_79 : AW sv 79 79 [.ref a, v1, v2, v3, v4] r h 0 0 Q = AW sv 79 80 [.ref a, v1, v2, v3, v4] (.ref a :: r) h 0 0 Q := e_pv am_h79 dX8_cover_79 rfl rfl rfl rfl
theorem x79_80 : AW sv 79 80 [v0, v1, v2, v3, v4] (.ref 0 :: r) (am_toH σ) 0 0 Q = AW sv 79 83 [v0, v1, v2, v3, v4] (.ref 1 :: r) (am_toH σ) 0 0 Q := e_getR am_h79 dX8_cover_80 fl_8_10 is8 rfl
theorem x79_83 (hr : am_St a) : AW sv 79 83 [v0, v1, v2, v3, v4] (.ref a :: r) (am_toH σ) 0 0 Q = AW sv 79 86 [v0, v1, v2, v3, v4] (.ref (a + 11) :: r) (am_toH σ) 0 0 Q := e_getR am_h79 dX8_cover_83 fl_8_147 (is5 hr) rfl
theorem x79_86 (hr : am_St a) : AW sv 79 86 [v0, v1, v2, v3, v4] (.ref (a + 11) :: r) (am_toH σ) 0 0 Q = AW sv 79 89 [v0, v1, v2, v3, v4] (.int (σ.1 (a + 11) 4) :: r) (am_toH σ) 0 0 Q := e_getI am_h79 dX8_cover_86 fl_8_151 (is0 hr) rfl
theorem x79_89 : AW sv 79 89 [v0, v1, v2, v3, v4] r h 0 0 Q = AW sv 79 90 [v0, v1, v2, v3, v4] (.int (1) :: r) h 0 0 Q := e_iconstv am_h79 dX8_cover_89 c_iconst_1
theorem x79_90 : AW sv 79 90 [v0, v1, v2, v3, v4] (.int y :: .int x :: r) h 0 0 Q = AW sv 79 91 [v0, v1, v2, v3, v4] (.int (x - y) :: r) h 0 0 Q := e_isub am_h79 dX8_cover_90
theorem x79_91 : AW sv 79 91 [v0, v1, v2, v3, v4] [.int x] h 0 0 Q = Q (some (.int x)) h := e_iret am_h79 dX8_cover_91 rfl ⟨rfl, rfl⟩
theorem n79 : AM sv 79 [.ref a, .int x0, .int x1, .int x2, .int x3] h Q = AW sv 79 0 [.ref a, .int x0, .int x1, .int x2, .int x3] [] h 0 0 Q := rfl
theorem x80_0 : AW sv 80 0 [v0, .int x, v2, v3, v4] r h 0 0 Q = AW sv 80 1 [v0, .int x, v2, v3, v4] (.int x :: r) h 0 0 Q := e_pv am_h80 dX8_does_0 rfl rfl rfl rfl
theorem x80_1 : AW sv 80 1 [.ref a, v1, v2, v3, v4] r h 0 0 Q = AW sv 80 2 [.ref a, v1, v2, v3, v4] (.ref a :: r) h 0 0 Q := e_pv am_h80 dX8_does_1 rfl rfl rfl rfl
theorem x80_2 : AW sv 80 2 [v0, v1, v2, v3, v4] (.ref 0 :: r) (am_toH σ) 0 0 Q = AW sv 80 5 [v0, v1, v2, v3, v4] (.ref 1 :: r) (am_toH σ) 0 0 Q := e_getR am_h80 dX8_does_2 fl_8_10 is8 rfl
theorem x80_5 (hr : am_St a) : AW sv 80 5 [v0, v1, v2, v3, v4] (.ref a :: r) (am_toH σ) 0 0 Q = AW sv 80 8 [v0, v1, v2, v3, v4] (.ref (a + 11) :: r) (am_toH σ) 0 0 Q := e_getR am_h80 dX8_does_5 fl_8_147 (is5 hr) rfl
theorem x80_8 (hr : am_St a) : AW sv 80 8 [v0, v1, v2, v3, v4] (.ref (a + 11) :: r) (am_toH σ) 0 0 Q = AW sv 80 11 [v0, v1, v2, v3, v4] (.int (σ.1 (a + 11) 4) :: r) (am_toH σ) 0 0 Q := e_getI am_h80 dX8_does_8 fl_8_151 (is0 hr) rfl
theorem x80_11 (h8 : am_cs r ≤ 8) : AW sv 80 11 [v0, v1, v2, v3, v4] (.int x1 :: .int x0 :: r) h 0 0 Q = AM sv 97 [.int x0, .int x1] h (fun v h1 => AW sv 80 14 [v0, v1, v2, v3, v4] (v.toList ++ r) h1 0 0 Q) := e_cS (as := [.int x0, .int x1]) am_h80 dX8_does_11 ml_8_40 (by decide) am_h97 rfl rfl rfl ⟨by decide, Nat.le_of_ble_eq_true rfl, am_rc_of (by decide) h8⟩
theorem x80_14 : AW sv 80 14 [v0, v1, v2, v3, v4] (.int x :: r) h 0 0 Q = if x = 0 then AW sv 80 25 [v0, v1, v2, v3, v4] r h 0 0 Q else AW sv 80 17 [v0, v1, v2, v3, v4] r h 0 0 Q := e_z_eq am_h80 dX8_does_14 rfl
theorem x80_17 : AW sv 80 17 [v0, v1, .int x, v3, v4] r h 0 0 Q = AW sv 80 18 [v0, v1, .int x, v3, v4] (.int x :: r) h 0 0 Q := e_pv am_h80 dX8_does_17 rfl rfl rfl rfl
theorem x80_18 : AW sv 80 18 [v0, v1, v2, v3, v4] r h 0 0 Q = AW sv 80 19 [v0, v1, v2, v3, v4] (.int (2) :: r) h 0 0 Q := e_iconstv am_h80 dX8_does_18 c_iconst_2
theorem x80_19 (h8 : am_cs r ≤ 8) : AW sv 80 19 [v0, v1, v2, v3, v4] (.int x1 :: .int x0 :: r) h 0 0 Q = AM sv 97 [.int x0, .int x1] h (fun v h1 => AW sv 80 22 [v0, v1, v2, v3, v4] (v.toList ++ r) h1 0 0 Q) := e_cS (as := [.int x0, .int x1]) am_h80 dX8_does_19 ml_8_40 (by decide) am_h97 rfl rfl rfl ⟨by decide, Nat.le_of_ble_eq_true rfl, am_rc_of (by decide) h8⟩
theorem x80_22 : AW sv 80 22 [v0, v1, v2, v3, v4] (.int x :: r) h 0 0 Q = if ¬ x = 0 then AW sv 80 28 [v0, v1, v2, v3, v4] r h 0 0 Q else AW sv 80 25 [v0, v1, v2, v3, v4] r h 0 0 Q := e_z_ne am_h80 dX8_does_22 rfl
theorem x80_25 : AW sv 80 25 [v0, v1, v2, v3, v4] r h 0 0 Q = AW sv 80 27 [v0, v1, v2, v3, v4] (.int (-100001) :: r) h 0 0 Q := e_ldc am_h80 dX8_does_25 (by decide +kernel)
theorem x80_27 : AW sv 80 27 [v0, v1, v2, v3, v4] [.int x] h 0 0 Q = Q (some (.int x)) h := e_iret am_h80 dX8_does_27 rfl ⟨rfl, rfl⟩
theorem x80_28 : AW sv 80 28 [v0, v1, v2, v3, v4] r h 0 0 Q = AW sv 80 29 [v0, v1, v2, v3, v4] (.int (1) :: r) h 0 0 Q := e_iconstv am_h80 dX8_does_28 c_iconst_1
theorem x80_29 : AW sv 80 29 [v0, .int x, v2, v3, v4] r h 0 0 Q = AW sv 80 30 [v0, .int x, v2, v3, v4] (.int x :: r) h 0 0 Q := e_pv am_h80 dX8_does_29 rfl rfl rfl rfl
theorem x80_30 : AW sv 80 30 [v0, v1, v2, v3, v4] (.int y :: .int x :: r) h 0 0 Q = AW sv 80 31 [v0, v1, v2, v3, v4] (.int (x <<< (y &&& 31)) :: r) h 0 0 Q := e_ishl am_h80 dX8_does_30
theorem x80_31 (hc : v2.category = 1) : AW sv 80 31 [v0, v1, v2, v3, v4] (.int x :: r) h 0 0 Q = AW sv 80 32 [v0, v1, v2, .int x, v4] r h 0 0 Q := e_pv am_h80 dX8_does_31 rfl rfl rfl (am_sti_of (Nat.le_of_ble_eq_true rfl) (am_c1_of rfl hc))
theorem x80_32 : AW sv 80 32 [v0, v1, .int x, v3, v4] r h 0 0 Q = AW sv 80 33 [v0, v1, .int x, v3, v4] (.int x :: r) h 0 0 Q := e_pv am_h80 dX8_does_32 rfl rfl rfl rfl
theorem x80_33 : AW sv 80 33 [v0, v1, v2, v3, v4] (.int x :: r) h 0 0 Q = if ¬ x = 0 then AW sv 80 58 [v0, v1, v2, v3, v4] r h 0 0 Q else AW sv 80 36 [v0, v1, v2, v3, v4] r h 0 0 Q := e_z_ne am_h80 dX8_does_33 rfl
theorem x80_36 : AW sv 80 36 [.ref a, v1, v2, v3, v4] r h 0 0 Q = AW sv 80 37 [.ref a, v1, v2, v3, v4] (.ref a :: r) h 0 0 Q := e_pv am_h80 dX8_does_36 rfl rfl rfl rfl
theorem x80_37 : AW sv 80 37 [v0, v1, v2, v3, v4] (.ref 0 :: r) (am_toH σ) 0 0 Q = AW sv 80 40 [v0, v1, v2, v3, v4] (.ref 1 :: r) (am_toH σ) 0 0 Q := e_getR am_h80 dX8_does_37 fl_8_10 is8 rfl
theorem x80_40 : AW sv 80 40 [v0, v1, v2, v3, v4] r h 0 0 Q = AW sv 80 41 [v0, v1, v2, v3, v4] (.int (1) :: r) h 0 0 Q := e_iconstv am_h80 dX8_does_40 c_iconst_1
theorem x80_41 (hr : am_St a) (h8 : am_cs r ≤ 8) : AW sv 80 41 [v0, v1, v2, v3, v4] (.int x0 :: .ref a :: r) (am_toH σ) 0 0 Q = AM sv 32 [.ref a, .int x0] (am_toH σ) (fun v h1 => AW sv 80 44 [v0, v1, v2, v3, v4] (v.toList ++ r) h1 0 0 Q) := e_cV (as := [.int x0]) am_h80 dX8_does_41 ml_8_188 (by decide) am_h32 rfl (is5 hr) rfl rfl ⟨by decide, Nat.le_of_ble_eq_true rfl, am_rc_of (by decide) h8⟩
theorem x80_44 : AW sv 80 44 [.ref a, v1, v2, v3, v4] r h 0 0 Q = AW sv 80 45 [.ref a, v1, v2, v3, v4] (.ref a :: r) h 0 0 Q := e_pv am_h80 dX8_does_44 rfl rfl rfl rfl
theorem x80_45 : AW sv 80 45 [v0, v1, v2, v3, v4] (.ref 0 :: r) (am_toH σ) 0 0 Q = AW sv 80 48 [v0, v1, v2, v3, v4] (.ref 43 :: r) (am_toH σ) 0 0 Q := e_getR am_h80 dX8_does_45 fl_8_22 is8 rfl
theorem x80_48 : AW sv 80 48 [.ref a, v1, v2, v3, v4] r h 0 0 Q = AW sv 80 49 [.ref a, v1, v2, v3, v4] (.ref a :: r) h 0 0 Q := e_pv am_h80 dX8_does_48 rfl rfl rfl rfl
theorem x80_49 : AW sv 80 49 [v0, v1, v2, v3, v4] (.ref 0 :: r) (am_toH σ) 0 0 Q = AW sv 80 52 [v0, v1, v2, v3, v4] (.ref 1 :: r) (am_toH σ) 0 0 Q := e_getR am_h80 dX8_does_49 fl_8_10 is8 rfl
theorem x80_52 : AW sv 80 52 [v0, v1, v2, .int x, v4] r h 0 0 Q = AW sv 80 53 [v0, v1, v2, .int x, v4] (.int x :: r) h 0 0 Q := e_pv am_h80 dX8_does_52 rfl rfl rfl rfl
theorem x80_53 (h8 : am_cs r ≤ 8) : AW sv 80 53 [v0, v1, v2, v3, v4] (.int x1 :: .ref b0 :: .ref 43 :: r) (am_toH σ) 0 0 Q = AM sv 55 [.ref 43, .ref b0, .int x1] (am_toH σ) (fun v h1 => AW sv 80 56 [v0, v1, v2, v3, v4] (v.toList ++ r) h1 0 0 Q) := e_cV (as := [.ref b0, .int x1]) am_h80 dX8_does_53 ml_8_207 (by decide) am_h55 rfl is7 rfl rfl ⟨by decide, Nat.le_of_ble_eq_true rfl, am_rc_of (by decide) h8⟩
theorem x80_56 : AW sv 80 56 [v0, v1, v2, v3, v4] (.int y :: .int x :: r) h 0 0 Q = AW sv 80 57 [v0, v1, v2, v3, v4] (.int (x - y) :: r) h 0 0 Q := e_isub am_h80 dX8_does_56
theorem x80_57 : AW sv 80 57 [v0, v1, v2, v3, v4] [.int x] h 0 0 Q = Q (some (.int x)) h := e_iret am_h80 dX8_does_57 rfl ⟨rfl, rfl⟩
theorem x80_58 : AW sv 80 58 [v0, v1, v2, v3, v4] r h 0 0 Q = AW sv 80 59 [v0, v1, v2, v3, v4] (.int (1) :: r) h 0 0 Q := e_iconstv am_h80 dX8_does_58 c_iconst_1
theorem x80_59 : AW sv 80 59 [.ref a, v1, v2, v3, v4] r h 0 0 Q = AW sv 80 60 [.ref a, v1, v2, v3, v4] (.ref a :: r) h 0 0 Q := e_pv am_h80 dX8_does_59 rfl rfl rfl rfl
theorem x80_60 : AW sv 80 60 [v0, v1, v2, v3, v4] (.ref 0 :: r) (am_toH σ) 0 0 Q = AW sv 80 63 [v0, v1, v2, v3, v4] (.ref 1 :: r) (am_toH σ) 0 0 Q := e_getR am_h80 dX8_does_60 fl_8_10 is8 rfl
theorem x80_63 (hr : am_St a) : AW sv 80 63 [v0, v1, v2, v3, v4] (.ref a :: r) (am_toH σ) 0 0 Q = AW sv 80 66 [v0, v1, v2, v3, v4] (.ref (a + 11) :: r) (am_toH σ) 0 0 Q := e_getR am_h80 dX8_does_63 fl_8_147 (is5 hr) rfl
theorem x80_66 (hr : am_St a) : AW sv 80 66 [v0, v1, v2, v3, v4] (.ref (a + 11) :: r) (am_toH σ) 0 0 Q = AW sv 80 69 [v0, v1, v2, v3, v4] (.int (σ.1 (a + 11) 4) :: r) (am_toH σ) 0 0 Q := e_getI am_h80 dX8_does_66 fl_8_151 (is0 hr) rfl
theorem x80_69 : AW sv 80 69 [v0, v1, v2, v3, v4] (.int y :: .int x :: r) h 0 0 Q = AW sv 80 70 [v0, v1, v2, v3, v4] (.int (x <<< (y &&& 31)) :: r) h 0 0 Q := e_ishl am_h80 dX8_does_69
theorem x80_70 : AW sv 80 70 [v0, v1, v2, v3, v4] r h 0 0 Q = AW sv 80 71 [v0, v1, v2, v3, v4] (.int (1) :: r) h 0 0 Q := e_iconstv am_h80 dX8_does_70 c_iconst_1
theorem x80_71 : AW sv 80 71 [v0, v1, v2, v3, v4] (.int y :: .int x :: r) h 0 0 Q = AW sv 80 72 [v0, v1, v2, v3, v4] (.int (x - y) :: r) h 0 0 Q := e_isub am_h80 dX8_does_71
theorem x80_72 (hc : v3.category = 1) : AW sv 80 72 [v0, v1, v2, v3, v4] (.int x :: r) h 0 0 Q = AW sv 80 74 [v0, v1, v2, v3, .int x] r h 0 0 Q := e_pv am_h80 dX8_does_72 rfl rfl rfl (am_sti_of (Nat.le_of_ble_eq_true rfl) (am_c1_of rfl hc))
theorem x80_74 : AW sv 80 74 [.ref a, v1, v2, v3, v4] r h 0 0 Q = AW sv 80 75 [.ref a, v1, v2, v3, v4] (.ref a :: r) h 0 0 Q := e_pv am_h80 dX8_does_74 rfl rfl rfl rfl
theorem x80_75 : AW sv 80 75 [v0, v1, v2, v3, v4] (.ref 0 :: r) (am_toH σ) 0 0 Q = AW sv 80 78 [v0, v1, v2, v3, v4] (.ref 43 :: r) (am_toH σ) 0 0 Q := e_getR am_h80 dX8_does_75 fl_8_22 is8 rfl
theorem x80_78 : AW sv 80 78 [.ref a, v1, v2, v3, v4] r h 0 0 Q = AW sv 80 79 [.ref a, v1, v2, v3, v4] (.ref a :: r) h 0 0 Q := e_pv am_h80 dX8_does_78 rfl rfl rfl rfl
theorem x80_79 : AW sv 80 79 [v0, v1, v2, v3, v4] (.ref 0 :: r) (am_toH σ) 0 0 Q = AW sv 80 82 [v0, v1, v2, v3, v4] (.ref 1 :: r) (am_toH σ) 0 0 Q := e_getR am_h80 dX8_does_79 fl_8_10 is8 rfl
theorem x80_82 : AW sv 80 82 [v0, v1, v2, v3, .int x] r h 0 0 Q = AW sv 80 84 [v0, v1, v2, v3, .int x] (.int x :: r) h 0 0 Q := e_pv am_h80 dX8_does_82 rfl rfl rfl rfl
theorem x80_84 : AW sv 80 84 [v0, v1, v2, .int x, v4] r h 0 0 Q = AW sv 80 85 [v0, v1, v2, .int x, v4] (.int x :: r) h 0 0 Q := e_pv am_h80 dX8_does_84 rfl rfl rfl rfl
theorem x80_85 : AW sv 80 85 [v0, v1, v2, v3, v4] (.int y :: .int x :: r) h 0 0 Q = AW sv 80 86 [v0, v1, v2, v3, v4] (.int (x - y) :: r) h 0 0 Q := e_isub am_h80 dX8_does_85
theorem x80_86 (h8 : am_cs r ≤ 8) : AW sv 80 86 [v0, v1, v2, v3, v4] (.int x1 :: .ref b0 :: .ref 43 :: r) (am_toH σ) 0 0 Q = AM sv 55 [.ref 43, .ref b0, .int x1] (am_toH σ) (fun v h1 => AW sv 80 89 [v0, v1, v2, v3, v4] (v.toList ++ r) h1 0 0 Q) := e_cV (as := [.ref b0, .int x1]) am_h80 dX8_does_86 ml_8_207 (by decide) am_h55 rfl is7 rfl rfl ⟨by decide, Nat.le_of_ble_eq_true rfl, am_rc_of (by decide) h8⟩
theorem x80_89 : AW sv 80 89 [.ref a, v1, v2, v3, v4] r h 0 0 Q = AW sv 80 90 [.ref a, v1, v2, v3, v4] (.ref a :: r) h 0 0 Q := e_pv am_h80 dX8_does_89 rfl rfl rfl rfl
theorem x80_90 : AW sv 80 90 [v0, v1, v2, v3, v4] (.ref 0 :: r) (am_toH σ) 0 0 Q = AW sv 80 93 [v0, v1, v2, v3, v4] (.ref 43 :: r) (am_toH σ) 0 0 Q := e_getR am_h80 dX8_does_90 fl_8_22 is8 rfl
theorem x80_93 : AW sv 80 93 [.ref a, v1, v2, v3, v4] r h 0 0 Q = AW sv 80 94 [.ref a, v1, v2, v3, v4] (.ref a :: r) h 0 0 Q := e_pv am_h80 dX8_does_93 rfl rfl rfl rfl
theorem x80_94 : AW sv 80 94 [v0, v1, v2, v3, v4] (.ref 0 :: r) (am_toH σ) 0 0 Q = AW sv 80 97 [v0, v1, v2, v3, v4] (.ref 1 :: r) (am_toH σ) 0 0 Q := e_getR am_h80 dX8_does_94 fl_8_10 is8 rfl
theorem x80_97 : AW sv 80 97 [v0, v1, v2, v3, .int x] r h 0 0 Q = AW sv 80 99 [v0, v1, v2, v3, .int x] (.int x :: r) h 0 0 Q := e_pv am_h80 dX8_does_97 rfl rfl rfl rfl
theorem x80_99 (h8 : am_cs r ≤ 8) : AW sv 80 99 [v0, v1, v2, v3, v4] (.int x1 :: .ref b0 :: .ref 43 :: r) (am_toH σ) 0 0 Q = AM sv 55 [.ref 43, .ref b0, .int x1] (am_toH σ) (fun v h1 => AW sv 80 102 [v0, v1, v2, v3, v4] (v.toList ++ r) h1 0 0 Q) := e_cV (as := [.ref b0, .int x1]) am_h80 dX8_does_99 ml_8_207 (by decide) am_h55 rfl is7 rfl rfl ⟨by decide, Nat.le_of_ble_eq_true rfl, am_rc_of (by decide) h8⟩
theorem x80_102 : AW sv 80 102 [v0, v1, v2, v3, v4] (.int y :: .int x :: r) h 0 0 Q = AW sv 80 103 [v0, v1, v2, v3, v4] (.int (x - y) :: r) h 0 0 Q := e_isub am_h80 dX8_does_102
theorem x80_103 : AW sv 80 103 [v0, v1, v2, v3, v4] [.int x] h 0 0 Q = Q (some (.int x)) h := e_iret am_h80 dX8_does_103 rfl ⟨rfl, rfl⟩
theorem n80 : AM sv 80 [.ref a, .int x0, .int x1] h Q = AW sv 80 0 [.ref a, .int x0, .int x1, .null, .null] [] h 0 0 Q := rfl
theorem x81_0 : AW sv 81 0 [v0, .int x, v2, v3] r h 0 0 Q = AW sv 81 1 [v0, .int x, v2, v3] (.int x :: r) h 0 0 Q := e_pv am_h81 dX8_bought_0 rfl rfl rfl rfl
theorem x81_1 : AW sv 81 1 [v0, v1, v2, v3] r h 0 0 Q = AW sv 81 4 [v0, v1, v2, v3] (.int (1000) :: r) h 0 0 Q := e_sipushv am_h81 dX8_bought_1 c_sipush_1000
theorem x81_4 (h8 : am_cs r ≤ 8) : AW sv 81 4 [v0, v1, v2, v3] (.int x1 :: .int x0 :: r) h 0 0 Q = AM sv 97 [.int x0, .int x1] h (fun v h1 => AW sv 81 7 [v0, v1, v2, v3] (v.toList ++ r) h1 0 0 Q) := e_cS (as := [.int x0, .int x1]) am_h81 dX8_bought_4 ml_8_40 (by decide) am_h97 rfl rfl rfl ⟨by decide, Nat.le_of_ble_eq_true rfl, am_rc_of (by decide) h8⟩
theorem x81_7 : AW sv 81 7 [v0, v1, v2, v3] (.int x :: r) h 0 0 Q = if x = 0 then AW sv 81 18 [v0, v1, v2, v3] r h 0 0 Q else AW sv 81 10 [v0, v1, v2, v3] r h 0 0 Q := e_z_eq am_h81 dX8_bought_7 rfl
theorem x81_10 : AW sv 81 10 [v0, v1, .int x, v3] r h 0 0 Q = AW sv 81 11 [v0, v1, .int x, v3] (.int x :: r) h 0 0 Q := e_pv am_h81 dX8_bought_10 rfl rfl rfl rfl
theorem x81_11 : AW sv 81 11 [v0, v1, v2, v3] r h 0 0 Q = AW sv 81 12 [v0, v1, v2, v3] (.int (3) :: r) h 0 0 Q := e_iconstv am_h81 dX8_bought_11 c_iconst_3
theorem x81_12 (h8 : am_cs r ≤ 8) : AW sv 81 12 [v0, v1, v2, v3] (.int x1 :: .int x0 :: r) h 0 0 Q = AM sv 97 [.int x0, .int x1] h (fun v h1 => AW sv 81 15 [v0, v1, v2, v3] (v.toList ++ r) h1 0 0 Q) := e_cS (as := [.int x0, .int x1]) am_h81 dX8_bought_12 ml_8_40 (by decide) am_h97 rfl rfl rfl ⟨by decide, Nat.le_of_ble_eq_true rfl, am_rc_of (by decide) h8⟩
theorem x81_15 : AW sv 81 15 [v0, v1, v2, v3] (.int x :: r) h 0 0 Q = if ¬ x = 0 then AW sv 81 20 [v0, v1, v2, v3] r h 0 0 Q else AW sv 81 18 [v0, v1, v2, v3] r h 0 0 Q := e_z_ne am_h81 dX8_bought_15 rfl
theorem x81_18 : AW sv 81 18 [v0, v1, v2, v3] r h 0 0 Q = AW sv 81 19 [v0, v1, v2, v3] (.int (-1) :: r) h 0 0 Q := e_iconstv am_h81 dX8_bought_18 c_iconst_m1
theorem x81_19 : AW sv 81 19 [v0, v1, v2, v3] [.int x] h 0 0 Q = Q (some (.int x)) h := e_iret am_h81 dX8_bought_19 rfl ⟨rfl, rfl⟩
theorem x81_20 : AW sv 81 20 [.ref a, v1, v2, v3] r h 0 0 Q = AW sv 81 21 [.ref a, v1, v2, v3] (.ref a :: r) h 0 0 Q := e_pv am_h81 dX8_bought_20 rfl rfl rfl rfl
theorem x81_21 : AW sv 81 21 [v0, v1, v2, v3] (.ref 0 :: r) (am_toH σ) 0 0 Q = AW sv 81 24 [v0, v1, v2, v3] (.ref 43 :: r) (am_toH σ) 0 0 Q := e_getR am_h81 dX8_bought_21 fl_8_22 is8 rfl
theorem x81_24 : AW sv 81 24 [.ref a, v1, v2, v3] r h 0 0 Q = AW sv 81 25 [.ref a, v1, v2, v3] (.ref a :: r) h 0 0 Q := e_pv am_h81 dX8_bought_24 rfl rfl rfl rfl
theorem x81_25 : AW sv 81 25 [v0, v1, v2, v3] (.ref 0 :: r) (am_toH σ) 0 0 Q = AW sv 81 28 [v0, v1, v2, v3] (.ref 1 :: r) (am_toH σ) 0 0 Q := e_getR am_h81 dX8_bought_25 fl_8_10 is8 rfl
theorem x81_28 : AW sv 81 28 [v0, .int x, v2, v3] r h 0 0 Q = AW sv 81 29 [v0, .int x, v2, v3] (.int x :: r) h 0 0 Q := e_pv am_h81 dX8_bought_28 rfl rfl rfl rfl
theorem x81_29 (h8 : am_cs r ≤ 8) : AW sv 81 29 [v0, v1, v2, v3] (.int x1 :: .ref b0 :: .ref 43 :: r) (am_toH σ) 0 0 Q = AM sv 56 [.ref 43, .ref b0, .int x1] (am_toH σ) (fun v h1 => AW sv 81 32 [v0, v1, v2, v3] (v.toList ++ r) h1 0 0 Q) := e_cV (as := [.ref b0, .int x1]) am_h81 dX8_bought_29 ml_8_210 (by decide) am_h56 rfl is7 rfl rfl ⟨by decide, Nat.le_of_ble_eq_true rfl, am_rc_of (by decide) h8⟩
theorem x81_32 (hc : v2.category = 1) : AW sv 81 32 [v0, v1, v2, v3] (.int x :: r) h 0 0 Q = AW sv 81 33 [v0, v1, v2, .int x] r h 0 0 Q := e_pv am_h81 dX8_bought_32 rfl rfl rfl (am_sti_of (Nat.le_of_ble_eq_true rfl) (am_c1_of rfl hc))
theorem x81_33 : AW sv 81 33 [v0, v1, .int x, v3] r h 0 0 Q = AW sv 81 34 [v0, v1, .int x, v3] (.int x :: r) h 0 0 Q := e_pv am_h81 dX8_bought_33 rfl rfl rfl rfl
theorem x81_34 : AW sv 81 34 [v0, v1, v2, v3] (.int x :: r) h 0 0 Q = if ¬ x = 0 then AW sv 81 39 [v0, v1, v2, v3] r h 0 0 Q else AW sv 81 37 [v0, v1, v2, v3] r h 0 0 Q := e_z_ne am_h81 dX8_bought_34 rfl
theorem x81_37 : AW sv 81 37 [v0, v1, v2, .int x] r h 0 0 Q = AW sv 81 38 [v0, v1, v2, .int x] (.int x :: r) h 0 0 Q := e_pv am_h81 dX8_bought_37 rfl rfl rfl rfl
theorem x81_38 : AW sv 81 38 [v0, v1, v2, v3] [.int x] h 0 0 Q = Q (some (.int x)) h := e_iret am_h81 dX8_bought_38 rfl ⟨rfl, rfl⟩
theorem x81_39 : AW sv 81 39 [v0, v1, .int x, v3] r h 0 0 Q = AW sv 81 40 [v0, v1, .int x, v3] (.int x :: r) h 0 0 Q := e_pv am_h81 dX8_bought_39 rfl rfl rfl rfl
theorem x81_40 : AW sv 81 40 [v0, v1, v2, v3] r h 0 0 Q = AW sv 81 41 [v0, v1, v2, v3] (.int (1) :: r) h 0 0 Q := e_iconstv am_h81 dX8_bought_40 c_iconst_1
theorem x81_41 : AW sv 81 41 [v0, v1, v2, v3] (.int y :: .int x :: r) h 0 0 Q = if ¬ x = y then AW sv 81 59 [v0, v1, v2, v3] r h 0 0 Q else AW sv 81 44 [v0, v1, v2, v3] r h 0 0 Q := e_c_ne am_h81 dX8_bought_41 rfl
theorem x81_44 : AW sv 81 44 [.ref a, v1, v2, v3] r h 0 0 Q = AW sv 81 45 [.ref a, v1, v2, v3] (.ref a :: r) h 0 0 Q := e_pv am_h81 dX8_bought_44 rfl rfl rfl rfl
theorem x81_45 : AW sv 81 45 [v0, v1, v2, v3] (.ref 0 :: r) (am_toH σ) 0 0 Q = AW sv 81 48 [v0, v1, v2, v3] (.ref 43 :: r) (am_toH σ) 0 0 Q := e_getR am_h81 dX8_bought_45 fl_8_22 is8 rfl
theorem x81_48 : AW sv 81 48 [.ref a, v1, v2, v3] r h 0 0 Q = AW sv 81 49 [.ref a, v1, v2, v3] (.ref a :: r) h 0 0 Q := e_pv am_h81 dX8_bought_48 rfl rfl rfl rfl
theorem x81_49 : AW sv 81 49 [v0, v1, v2, v3] (.ref 0 :: r) (am_toH σ) 0 0 Q = AW sv 81 52 [v0, v1, v2, v3] (.ref 1 :: r) (am_toH σ) 0 0 Q := e_getR am_h81 dX8_bought_49 fl_8_10 is8 rfl
theorem x81_52 : AW sv 81 52 [v0, v1, v2, .int x] r h 0 0 Q = AW sv 81 53 [v0, v1, v2, .int x] (.int x :: r) h 0 0 Q := e_pv am_h81 dX8_bought_52 rfl rfl rfl rfl
theorem x81_53 (h8 : am_cs r ≤ 8) : AW sv 81 53 [v0, v1, v2, v3] (.int x1 :: .ref b0 :: .ref 43 :: r) (am_toH σ) 0 0 Q = AM sv 55 [.ref 43, .ref b0, .int x1] (am_toH σ) (fun v h1 => AW sv 81 56 [v0, v1, v2, v3] (v.toList ++ r) h1 0 0 Q) := e_cV (as := [.ref b0, .int x1]) am_h81 dX8_bought_53 ml_8_207 (by decide) am_h55 rfl is7 rfl rfl ⟨by decide, Nat.le_of_ble_eq_true rfl, am_rc_of (by decide) h8⟩
theorem x81_56 : AW sv 81 56 [v0, v1, v2, v3] r h 0 0 Q = AW sv 81 70 [v0, v1, v2, v3] r h 0 0 Q := e_goto am_h81 dX8_bought_56 rfl
theorem x81_59 : AW sv 81 59 [.ref a, v1, v2, v3] r h 0 0 Q = AW sv 81 60 [.ref a, v1, v2, v3] (.ref a :: r) h 0 0 Q := e_pv am_h81 dX8_bought_59 rfl rfl rfl rfl
theorem x81_60 : AW sv 81 60 [v0, v1, v2, v3] (.ref 0 :: r) (am_toH σ) 0 0 Q = AW sv 81 63 [v0, v1, v2, v3] (.ref 1 :: r) (am_toH σ) 0 0 Q := e_getR am_h81 dX8_bought_60 fl_8_10 is8 rfl
theorem x81_63 (hr : am_St a) : AW sv 81 63 [v0, v1, v2, v3] (.ref a :: r) (am_toH σ) 0 0 Q = AW sv 81 66 [v0, v1, v2, v3] (.ref (a + 11) :: r) (am_toH σ) 0 0 Q := e_getR am_h81 dX8_bought_63 fl_8_147 (is5 hr) rfl
theorem x81_66 : AW sv 81 66 [v0, v1, v2, .int x] r h 0 0 Q = AW sv 81 67 [v0, v1, v2, .int x] (.int x :: r) h 0 0 Q := e_pv am_h81 dX8_bought_66 rfl rfl rfl rfl
theorem x81_67 (hr : am_St a) (h8 : am_cs r ≤ 8) : AW sv 81 67 [v0, v1, v2, v3] (.int x0 :: .ref (a + 11) :: r) (am_toH σ) 0 0 Q = AM sv 3 [.ref (a + 11), .int x0] (am_toH σ) (fun v h1 => AW sv 81 70 [v0, v1, v2, v3] (v.toList ++ r) h1 0 0 Q) := e_cV (as := [.int x0]) am_h81 dX8_bought_67 ml_8_213 (by decide) am_h3 rfl (is0 hr) rfl rfl ⟨by decide, Nat.le_of_ble_eq_true rfl, am_rc_of (by decide) h8⟩
theorem x81_70 : AW sv 81 70 [v0, v1, v2, v3] [.int x] h 0 0 Q = Q (some (.int x)) h := e_iret am_h81 dX8_bought_70 rfl ⟨rfl, rfl⟩
theorem n81 : AM sv 81 [.ref a, .int x0, .int x1] h Q = AW sv 81 0 [.ref a, .int x0, .int x1, .null] [] h 0 0 Q := rfl
theorem x82_0 : AW sv 82 0 [v0, v1, v2] r h 0 0 Q = AW sv 82 1 [v0, v1, v2] (.int (0) :: r) h 0 0 Q := e_iconstv am_h82 dX8_stances_0 c_iconst_0
theorem x82_1 (hc : v0.category = 1) : AW sv 82 1 [v0, v1, v2] (.int x :: r) h 0 0 Q = AW sv 82 2 [v0, .int x, v2] r h 0 0 Q := e_pv am_h82 dX8_stances_1 rfl rfl rfl (am_sti_of (Nat.le_of_ble_eq_true rfl) (am_c1_of rfl hc))
theorem x82_2 : AW sv 82 2 [v0, v1, v2] r h 0 0 Q = AW sv 82 3 [v0, v1, v2] (.int (0) :: r) h 0 0 Q := e_iconstv am_h82 dX8_stances_2 c_iconst_0
theorem x82_3 (hc : v1.category = 1) : AW sv 82 3 [v0, v1, v2] (.int x :: r) h 0 0 Q = AW sv 82 4 [v0, v1, .int x] r h 0 0 Q := e_pv am_h82 dX8_stances_3 rfl rfl rfl (am_sti_of (Nat.le_of_ble_eq_true rfl) (am_c1_of rfl hc))
theorem x82_4 : AW sv 82 4 [v0, v1, .int x] r h 0 0 Q = AW sv 82 5 [v0, v1, .int x] (.int x :: r) h 0 0 Q := e_pv am_h82 dX8_stances_4 rfl rfl rfl rfl
theorem x82_5 : AW sv 82 5 [v0, v1, v2] r h 0 0 Q = AW sv 82 6 [v0, v1, v2] (.int (4) :: r) h 0 0 Q := e_iconstv am_h82 dX8_stances_5 c_iconst_4
theorem x82_6 : AW sv 82 6 [v0, v1, v2] (.int y :: .int x :: r) h 0 0 Q = if y ≤ x then AW sv 82 32 [v0, v1, v2] r h 0 0 Q else AW sv 82 9 [v0, v1, v2] r h 0 0 Q := e_c_ge am_h82 dX8_stances_6 rfl
theorem x82_9 : AW sv 82 9 [.ref a, v1, v2] r h 0 0 Q = AW sv 82 10 [.ref a, v1, v2] (.ref a :: r) h 0 0 Q := e_pv am_h82 dX8_stances_9 rfl rfl rfl rfl
theorem x82_10 : AW sv 82 10 [v0, v1, v2] (.ref 0 :: r) (am_toH σ) 0 0 Q = AW sv 82 13 [v0, v1, v2] (.ref 1 :: r) (am_toH σ) 0 0 Q := e_getR am_h82 dX8_stances_10 fl_8_10 is8 rfl
theorem x82_13 : AW sv 82 13 [v0, v1, .int x] r h 0 0 Q = AW sv 82 14 [v0, v1, .int x] (.int x :: r) h 0 0 Q := e_pv am_h82 dX8_stances_13 rfl rfl rfl rfl
theorem x82_14 (hr : am_St a) (h8 : am_cs r ≤ 8) : AW sv 82 14 [v0, v1, v2] (.int x0 :: .ref a :: r) (am_toH σ) 0 0 Q = AM sv 33 [.ref a, .int x0] (am_toH σ) (fun v h1 => AW sv 82 17 [v0, v1, v2] (v.toList ++ r) h1 0 0 Q) := e_cV (as := [.int x0]) am_h82 dX8_stances_14 ml_8_216 (by decide) am_h33 rfl (is5 hr) rfl rfl ⟨by decide, Nat.le_of_ble_eq_true rfl, am_rc_of (by decide) h8⟩
theorem x82_17 : AW sv 82 17 [v0, v1, v2] (.int x :: r) h 0 0 Q = if ¬ x = 0 then AW sv 82 26 [v0, v1, v2] r h 0 0 Q else AW sv 82 20 [v0, v1, v2] r h 0 0 Q := e_z_ne am_h82 dX8_stances_17 rfl
theorem x82_20 : AW sv 82 20 [v0, .int x, v2] r h 0 0 Q = AW sv 82 21 [v0, .int x, v2] (.int x :: r) h 0 0 Q := e_pv am_h82 dX8_stances_20 rfl rfl rfl rfl
theorem x82_21 : AW sv 82 21 [v0, v1, v2] r h 0 0 Q = AW sv 82 22 [v0, v1, v2] (.int (1) :: r) h 0 0 Q := e_iconstv am_h82 dX8_stances_21 c_iconst_1
theorem x82_22 : AW sv 82 22 [v0, v1, .int x] r h 0 0 Q = AW sv 82 23 [v0, v1, .int x] (.int x :: r) h 0 0 Q := e_pv am_h82 dX8_stances_22 rfl rfl rfl rfl
theorem x82_23 : AW sv 82 23 [v0, v1, v2] (.int y :: .int x :: r) h 0 0 Q = AW sv 82 24 [v0, v1, v2] (.int (x <<< (y &&& 31)) :: r) h 0 0 Q := e_ishl am_h82 dX8_stances_23
theorem x82_24 : AW sv 82 24 [v0, v1, v2] (.int y :: .int x :: r) h 0 0 Q = AW sv 82 25 [v0, v1, v2] (.int (x ||| y) :: r) h 0 0 Q := e_ior am_h82 dX8_stances_24
theorem x82_25 (hc : v0.category = 1) : AW sv 82 25 [v0, v1, v2] (.int x :: r) h 0 0 Q = AW sv 82 26 [v0, .int x, v2] r h 0 0 Q := e_pv am_h82 dX8_stances_25 rfl rfl rfl (am_sti_of (Nat.le_of_ble_eq_true rfl) (am_c1_of rfl hc))
theorem x82_26 (hc : v1.category = 1) : AW sv 82 26 [v0, v1, .int x] r h 0 0 Q = AW sv 82 29 [v0, v1, .int (x + (1))] r h 0 0 Q := e_pv am_h82 dX8_stances_26 rfl rfl rfl (am_inc_of (ls := [v0, v1, .int x]) (k := 2) rfl c_iconst_1 (am_c1_of (ls := [v0, v1, .int x]) (k := 1) (v := v1) rfl hc))
theorem x82_29 : AW sv 82 29 [v0, v1, v2] r h 0 0 Q = AW sv 82 4 [v0, v1, v2] r h 0 0 Q := e_goto am_h82 dX8_stances_29 rfl
theorem x82_32 : AW sv 82 32 [v0, .int x, v2] r h 0 0 Q = AW sv 82 33 [v0, .int x, v2] (.int x :: r) h 0 0 Q := e_pv am_h82 dX8_stances_32 rfl rfl rfl rfl
theorem x82_33 : AW sv 82 33 [v0, v1, v2] [.int x] h 0 0 Q = Q (some (.int x)) h := e_iret am_h82 dX8_stances_33 rfl ⟨rfl, rfl⟩
theorem n82 : AM sv 82 [.ref a] h Q = AW sv 82 0 [.ref a, .null, .null] [] h 0 0 Q := rfl
theorem x83_0 : AW sv 83 0 [v0, .int x, v2] r h 0 0 Q = AW sv 83 1 [v0, .int x, v2] (.int x :: r) h 0 0 Q := e_pv am_h83 dX8_often_0 rfl rfl rfl rfl
theorem x83_1 : AW sv 83 1 [v0, v1, v2] (.int x :: r) h 0 0 Q = if x < 0 then AW sv 83 10 [v0, v1, v2] r h 0 0 Q else AW sv 83 4 [v0, v1, v2] r h 0 0 Q := e_z_lt am_h83 dX8_often_1 rfl
theorem x83_4 : AW sv 83 4 [v0, .int x, v2] r h 0 0 Q = AW sv 83 5 [v0, .int x, v2] (.int x :: r) h 0 0 Q := e_pv am_h83 dX8_often_4 rfl rfl rfl rfl
theorem x83_5 : AW sv 83 5 [v0, v1, v2] r h 0 0 Q = AW sv 83 7 [v0, v1, v2] (.int (99999) :: r) h 0 0 Q := e_ldc am_h83 dX8_often_5 (by decide +kernel)
theorem x83_7 : AW sv 83 7 [v0, v1, v2] (.int y :: .int x :: r) h 0 0 Q = if x ≤ y then AW sv 83 12 [v0, v1, v2] r h 0 0 Q else AW sv 83 10 [v0, v1, v2] r h 0 0 Q := e_c_le am_h83 dX8_often_7 rfl
theorem x83_10 : AW sv 83 10 [v0, v1, v2] r h 0 0 Q = AW sv 83 11 [v0, v1, v2] (.int (-1) :: r) h 0 0 Q := e_iconstv am_h83 dX8_often_10 c_iconst_m1
theorem x83_11 : AW sv 83 11 [v0, v1, v2] [.int x] h 0 0 Q = Q (some (.int x)) h := e_iret am_h83 dX8_often_11 rfl ⟨rfl, rfl⟩
theorem x83_12 : AW sv 83 12 [v0, v1, v2] r h 0 0 Q = AW sv 83 14 [v0, v1, v2] (.int (9) :: r) h 0 0 Q := e_bipushv am_h83 dX8_often_12 c_bipush_9
theorem x83_14 (hc : v1.category = 1) : AW sv 83 14 [v0, v1, v2] (.int x :: r) h 0 0 Q = AW sv 83 15 [v0, v1, .int x] r h 0 0 Q := e_pv am_h83 dX8_often_14 rfl rfl rfl (am_sti_of (Nat.le_of_ble_eq_true rfl) (am_c1_of rfl hc))
theorem x83_15 : AW sv 83 15 [v0, v1, .int x] r h 0 0 Q = AW sv 83 16 [v0, v1, .int x] (.int x :: r) h 0 0 Q := e_pv am_h83 dX8_often_15 rfl rfl rfl rfl
theorem x83_16 : AW sv 83 16 [v0, v1, v2] r h 0 0 Q = AW sv 83 17 [v0, v1, v2] (.int (1) :: r) h 0 0 Q := e_iconstv am_h83 dX8_often_16 c_iconst_1
theorem x83_17 : AW sv 83 17 [v0, v1, v2] (.int y :: .int x :: r) h 0 0 Q = if x < y then AW sv 83 40 [v0, v1, v2] r h 0 0 Q else AW sv 83 20 [v0, v1, v2] r h 0 0 Q := e_c_lt am_h83 dX8_often_17 rfl
theorem x83_20 : AW sv 83 20 [.ref a, v1, v2] r h 0 0 Q = AW sv 83 21 [.ref a, v1, v2] (.ref a :: r) h 0 0 Q := e_pv am_h83 dX8_often_20 rfl rfl rfl rfl
theorem x83_21 : AW sv 83 21 [v0, v1, v2] (.ref 0 :: r) (am_toH σ) 0 0 Q = AW sv 83 24 [v0, v1, v2] (.ref 1 :: r) (am_toH σ) 0 0 Q := e_getR am_h83 dX8_often_21 fl_8_10 is8 rfl
theorem x83_24 : AW sv 83 24 [v0, v1, .int x] r h 0 0 Q = AW sv 83 25 [v0, v1, .int x] (.int x :: r) h 0 0 Q := e_pv am_h83 dX8_often_24 rfl rfl rfl rfl
theorem x83_25 (hr : am_St a) (h8 : am_cs r ≤ 8) : AW sv 83 25 [v0, v1, v2] (.int x0 :: .ref a :: r) (am_toH σ) 0 0 Q = AM sv 32 [.ref a, .int x0] (am_toH σ) (fun v h1 => AW sv 83 28 [v0, v1, v2] (v.toList ++ r) h1 0 0 Q) := e_cV (as := [.int x0]) am_h83 dX8_often_25 ml_8_188 (by decide) am_h32 rfl (is5 hr) rfl rfl ⟨by decide, Nat.le_of_ble_eq_true rfl, am_rc_of (by decide) h8⟩
theorem x83_28 : AW sv 83 28 [v0, .int x, v2] r h 0 0 Q = AW sv 83 29 [v0, .int x, v2] (.int x :: r) h 0 0 Q := e_pv am_h83 dX8_often_28 rfl rfl rfl rfl
theorem x83_29 : AW sv 83 29 [v0, v1, v2] (.int y :: .int x :: r) h 0 0 Q = if y < x then AW sv 83 34 [v0, v1, v2] r h 0 0 Q else AW sv 83 32 [v0, v1, v2] r h 0 0 Q := e_c_gt am_h83 dX8_often_29 rfl
theorem x83_32 : AW sv 83 32 [v0, v1, .int x] r h 0 0 Q = AW sv 83 33 [v0, v1, .int x] (.int x :: r) h 0 0 Q := e_pv am_h83 dX8_often_32 rfl rfl rfl rfl
theorem x83_33 : AW sv 83 33 [v0, v1, v2] [.int x] h 0 0 Q = Q (some (.int x)) h := e_iret am_h83 dX8_often_33 rfl ⟨rfl, rfl⟩
theorem x83_34 (hc : v1.category = 1) : AW sv 83 34 [v0, v1, .int x] r h 0 0 Q = AW sv 83 37 [v0, v1, .int (x + (-1))] r h 0 0 Q := e_pv am_h83 dX8_often_34 rfl rfl rfl (am_inc_of (ls := [v0, v1, .int x]) (k := 2) rfl c_iconst_m1 (am_c1_of (ls := [v0, v1, .int x]) (k := 1) (v := v1) rfl hc))
theorem x83_37 : AW sv 83 37 [v0, v1, v2] r h 0 0 Q = AW sv 83 15 [v0, v1, v2] r h 0 0 Q := e_goto am_h83 dX8_often_37 rfl
theorem x83_40 : AW sv 83 40 [v0, v1, v2] r h 0 0 Q = AW sv 83 41 [v0, v1, v2] (.int (0) :: r) h 0 0 Q := e_iconstv am_h83 dX8_often_40 c_iconst_0
theorem x83_41 : AW sv 83 41 [v0, v1, v2] [.int x] h 0 0 Q = Q (some (.int x)) h := e_iret am_h83 dX8_often_41 rfl ⟨rfl, rfl⟩
theorem n83 : AM sv 83 [.ref a, .int x0] h Q = AW sv 83 0 [.ref a, .int x0, .null] [] h 0 0 Q := rfl
theorem x84_0 : AW sv 84 0 [.ref a] r h 0 0 Q = AW sv 84 1 [.ref a] (.ref a :: r) h 0 0 Q := e_pv am_h84 dX8_warning_0 rfl rfl rfl rfl
theorem x84_1 : AW sv 84 1 [v0] (.ref 0 :: r) (am_toH σ) 0 0 Q = AW sv 84 4 [v0] (.ref 43 :: r) (am_toH σ) 0 0 Q := e_getR am_h84 dX8_warning_1 fl_8_22 is8 rfl
theorem x84_4 : AW sv 84 4 [.ref a] r h 0 0 Q = AW sv 84 5 [.ref a] (.ref a :: r) h 0 0 Q := e_pv am_h84 dX8_warning_4 rfl rfl rfl rfl
theorem x84_5 : AW sv 84 5 [v0] (.ref 0 :: r) (am_toH σ) 0 0 Q = AW sv 84 8 [v0] (.ref 1 :: r) (am_toH σ) 0 0 Q := e_getR am_h84 dX8_warning_5 fl_8_10 is8 rfl
theorem x84_8 (h8 : am_cs r ≤ 8) : AW sv 84 8 [v0] (.ref b0 :: .ref 43 :: r) (am_toH σ) 0 0 Q = AM sv 57 [.ref 43, .ref b0] (am_toH σ) (fun v h1 => AW sv 84 11 [v0] (v.toList ++ r) h1 0 0 Q) := e_cV (as := [.ref b0]) am_h84 dX8_warning_8 ml_8_220 (by decide) am_h57 rfl is7 rfl rfl ⟨by decide, Nat.le_of_ble_eq_true rfl, am_rc_of (by decide) h8⟩
theorem x84_11 : AW sv 84 11 [.ref a] r h 0 0 Q = AW sv 84 12 [.ref a] (.ref a :: r) h 0 0 Q := e_pv am_h84 dX8_warning_11 rfl rfl rfl rfl
theorem x84_12 : AW sv 84 12 [v0] (.ref 0 :: r) (am_toH σ) 0 0 Q = AW sv 84 15 [v0] (.ref 1 :: r) (am_toH σ) 0 0 Q := e_getR am_h84 dX8_warning_12 fl_8_10 is8 rfl
theorem x84_15 : AW sv 84 15 [v0] r h 0 0 Q = AW sv 84 16 [v0] (.int (1) :: r) h 0 0 Q := e_iconstv am_h84 dX8_warning_15 c_iconst_1
theorem x84_16 (hr : am_St a) (h8 : am_cs r ≤ 8) : AW sv 84 16 [v0] (.int x0 :: .ref a :: r) (am_toH σ) 0 0 Q = AM sv 32 [.ref a, .int x0] (am_toH σ) (fun v h1 => AW sv 84 19 [v0] (v.toList ++ r) h1 0 0 Q) := e_cV (as := [.int x0]) am_h84 dX8_warning_16 ml_8_188 (by decide) am_h32 rfl (is5 hr) rfl rfl ⟨by decide, Nat.le_of_ble_eq_true rfl, am_rc_of (by decide) h8⟩
theorem x84_19 : AW sv 84 19 [v0] (.int y :: .int x :: r) h 0 0 Q = AW sv 84 20 [v0] (.int (x - y) :: r) h 0 0 Q := e_isub am_h84 dX8_warning_19
theorem x84_20 : AW sv 84 20 [v0] [.int x] h 0 0 Q = Q (some (.int x)) h := e_iret am_h84 dX8_warning_20 rfl ⟨rfl, rfl⟩
theorem n84 : AM sv 84 [.ref a] h Q = AW sv 84 0 [.ref a] [] h 0 0 Q := rfl
theorem x85_0 : AW sv 85 0 [v0, .int x] r h 0 0 Q = AW sv 85 1 [v0, .int x] (.int x :: r) h 0 0 Q := e_pv am_h85 dX8_shown_0 rfl rfl rfl rfl
theorem x85_1 : AW sv 85 1 [v0, v1] r h 0 0 Q = AW sv 85 2 [v0, v1] (.int (-1) :: r) h 0 0 Q := e_iconstv am_h85 dX8_shown_1 c_iconst_m1
theorem x85_2 : AW sv 85 2 [v0, v1] (.int y :: .int x :: r) h 0 0 Q = if x < y then AW sv 85 11 [v0, v1] r h 0 0 Q else AW sv 85 5 [v0, v1] r h 0 0 Q := e_c_lt am_h85 dX8_shown_2 rfl
theorem x85_5 : AW sv 85 5 [v0, .int x] r h 0 0 Q = AW sv 85 6 [v0, .int x] (.int x :: r) h 0 0 Q := e_pv am_h85 dX8_shown_5 rfl rfl rfl rfl
theorem x85_6 : AW sv 85 6 [v0, v1] r h 0 0 Q = AW sv 85 8 [v0, v1] (.int (16) :: r) h 0 0 Q := e_bipushv am_h85 dX8_shown_6 c_bipush_16
theorem x85_8 : AW sv 85 8 [v0, v1] (.int y :: .int x :: r) h 0 0 Q = if x < y then AW sv 85 13 [v0, v1] r h 0 0 Q else AW sv 85 11 [v0, v1] r h 0 0 Q := e_c_lt am_h85 dX8_shown_8 rfl
theorem x85_11 : AW sv 85 11 [v0, v1] r h 0 0 Q = AW sv 85 12 [v0, v1] (.int (-1) :: r) h 0 0 Q := e_iconstv am_h85 dX8_shown_11 c_iconst_m1
theorem x85_12 : AW sv 85 12 [v0, v1] [.int x] h 0 0 Q = Q (some (.int x)) h := e_iret am_h85 dX8_shown_12 rfl ⟨rfl, rfl⟩
theorem x85_13 : AW sv 85 13 [v0, .int x] r h 0 0 Q = AW sv 85 14 [v0, .int x] (.int x :: r) h 0 0 Q := e_pv am_h85 dX8_shown_13 rfl rfl rfl rfl
theorem x85_14 : AW sv 85 14 [v0, v1] r h 0 0 Q = AW sv 85 15 [v0, v1] (.int (-1) :: r) h 0 0 Q := e_iconstv am_h85 dX8_shown_14 c_iconst_m1
theorem x85_15 : AW sv 85 15 [v0, v1] (.int y :: .int x :: r) h 0 0 Q = if ¬ x = y then AW sv 85 28 [v0, v1] r h 0 0 Q else AW sv 85 18 [v0, v1] r h 0 0 Q := e_c_ne am_h85 dX8_shown_15 rfl
theorem x85_18 : AW sv 85 18 [.ref a, v1] r h 0 0 Q = AW sv 85 19 [.ref a, v1] (.ref a :: r) h 0 0 Q := e_pv am_h85 dX8_shown_18 rfl rfl rfl rfl
theorem x85_19 : AW sv 85 19 [v0, v1] (.ref 0 :: r) (am_toH σ) 0 0 Q = AW sv 85 22 [v0, v1] (.ref 1 :: r) (am_toH σ) 0 0 Q := e_getR am_h85 dX8_shown_19 fl_8_10 is8 rfl
theorem x85_22 (hr : am_St a) (h8 : am_cs r ≤ 8) : AW sv 85 22 [v0, v1] (.ref a :: r) (am_toH σ) 0 0 Q = AM sv 35 [.ref a] (am_toH σ) (fun v h1 => AW sv 85 25 [v0, v1] (v.toList ++ r) h1 0 0 Q) := e_cV (as := []) am_h85 dX8_shown_22 ml_8_224 (by decide) am_h35 rfl (is5 hr) rfl rfl ⟨by decide, Nat.le_of_ble_eq_true rfl, am_rc_of (by decide) h8⟩
theorem x85_25 : AW sv 85 25 [v0, v1] r h 0 0 Q = AW sv 85 36 [v0, v1] r h 0 0 Q := e_goto am_h85 dX8_shown_25 rfl
theorem x85_28 : AW sv 85 28 [.ref a, v1] r h 0 0 Q = AW sv 85 29 [.ref a, v1] (.ref a :: r) h 0 0 Q := e_pv am_h85 dX8_shown_28 rfl rfl rfl rfl
theorem x85_29 : AW sv 85 29 [v0, v1] (.ref 0 :: r) (am_toH σ) 0 0 Q = AW sv 85 32 [v0, v1] (.ref 1 :: r) (am_toH σ) 0 0 Q := e_getR am_h85 dX8_shown_29 fl_8_10 is8 rfl
theorem x85_32 : AW sv 85 32 [v0, .int x] r h 0 0 Q = AW sv 85 33 [v0, .int x] (.int x :: r) h 0 0 Q := e_pv am_h85 dX8_shown_32 rfl rfl rfl rfl
theorem x85_33 (hr : am_St a) (h8 : am_cs r ≤ 8) : AW sv 85 33 [v0, v1] (.int x0 :: .ref a :: r) (am_toH σ) 0 0 Q = AM sv 34 [.ref a, .int x0] (am_toH σ) (fun v h1 => AW sv 85 36 [v0, v1] (v.toList ++ r) h1 0 0 Q) := e_cV (as := [.int x0]) am_h85 dX8_shown_33 ml_8_228 (by decide) am_h34 rfl (is5 hr) rfl rfl ⟨by decide, Nat.le_of_ble_eq_true rfl, am_rc_of (by decide) h8⟩
theorem x85_36 : AW sv 85 36 [v0, v1] [.int x] h 0 0 Q = Q (some (.int x)) h := e_iret am_h85 dX8_shown_36 rfl ⟨rfl, rfl⟩
theorem n85 : AM sv 85 [.ref a, .int x0] h Q = AW sv 85 0 [.ref a, .int x0] [] h 0 0 Q := rfl
theorem x86_0 : AW sv 86 0 [v0, .int x, v2] r h 0 0 Q = AW sv 86 1 [v0, .int x, v2] (.int x :: r) h 0 0 Q := e_pv am_h86 dX8_point_0 rfl rfl rfl rfl
theorem x86_1 : AW sv 86 1 [v0, v1, v2] r h 0 0 Q = AW sv 86 3 [v0, v1, v2] (.int (16) :: r) h 0 0 Q := e_bipushv am_h86 dX8_point_1 c_bipush_16
theorem x86_3 (h8 : am_cs r ≤ 8) : AW sv 86 3 [v0, v1, v2] (.int x1 :: .int x0 :: r) h 0 0 Q = AM sv 97 [.int x0, .int x1] h (fun v h1 => AW sv 86 6 [v0, v1, v2] (v.toList ++ r) h1 0 0 Q) := e_cS (as := [.int x0, .int x1]) am_h86 dX8_point_3 ml_8_40 (by decide) am_h97 rfl rfl rfl ⟨by decide, Nat.le_of_ble_eq_true rfl, am_rc_of (by decide) h8⟩
theorem x86_6 : AW sv 86 6 [v0, v1, v2] (.int x :: r) h 0 0 Q = if x = 0 then AW sv 86 17 [v0, v1, v2] r h 0 0 Q else AW sv 86 9 [v0, v1, v2] r h 0 0 Q := e_z_eq am_h86 dX8_point_6 rfl
theorem x86_9 : AW sv 86 9 [v0, v1, .int x] r h 0 0 Q = AW sv 86 10 [v0, v1, .int x] (.int x :: r) h 0 0 Q := e_pv am_h86 dX8_point_9 rfl rfl rfl rfl
theorem x86_10 : AW sv 86 10 [v0, v1, v2] r h 0 0 Q = AW sv 86 11 [v0, v1, v2] (.int (4) :: r) h 0 0 Q := e_iconstv am_h86 dX8_point_10 c_iconst_4
theorem x86_11 (h8 : am_cs r ≤ 8) : AW sv 86 11 [v0, v1, v2] (.int x1 :: .int x0 :: r) h 0 0 Q = AM sv 97 [.int x0, .int x1] h (fun v h1 => AW sv 86 14 [v0, v1, v2] (v.toList ++ r) h1 0 0 Q) := e_cS (as := [.int x0, .int x1]) am_h86 dX8_point_11 ml_8_40 (by decide) am_h97 rfl rfl rfl ⟨by decide, Nat.le_of_ble_eq_true rfl, am_rc_of (by decide) h8⟩
theorem x86_14 : AW sv 86 14 [v0, v1, v2] (.int x :: r) h 0 0 Q = if ¬ x = 0 then AW sv 86 19 [v0, v1, v2] r h 0 0 Q else AW sv 86 17 [v0, v1, v2] r h 0 0 Q := e_z_ne am_h86 dX8_point_14 rfl
theorem x86_17 : AW sv 86 17 [v0, v1, v2] r h 0 0 Q = AW sv 86 18 [v0, v1, v2] (.int (-1) :: r) h 0 0 Q := e_iconstv am_h86 dX8_point_17 c_iconst_m1
theorem x86_18 : AW sv 86 18 [v0, v1, v2] [.int x] h 0 0 Q = Q (some (.int x)) h := e_iret am_h86 dX8_point_18 rfl ⟨rfl, rfl⟩
theorem x86_19 : AW sv 86 19 [.ref a, v1, v2] r h 0 0 Q = AW sv 86 20 [.ref a, v1, v2] (.ref a :: r) h 0 0 Q := e_pv am_h86 dX8_point_19 rfl rfl rfl rfl
theorem x86_20 : AW sv 86 20 [v0, v1, v2] (.ref 0 :: r) (am_toH σ) 0 0 Q = AW sv 86 23 [v0, v1, v2] (.ref 1 :: r) (am_toH σ) 0 0 Q := e_getR am_h86 dX8_point_20 fl_8_10 is8 rfl
theorem x86_23 (hr : am_St a) : AW sv 86 23 [v0, v1, v2] (.ref a :: r) (am_toH σ) 0 0 Q = AW sv 86 26 [v0, v1, v2] (.ref (a + 16) :: r) (am_toH σ) 0 0 Q := e_getR am_h86 dX8_point_23 fl_8_154 (is5 hr) rfl
theorem x86_26 (hr : am_St a) : AW sv 86 26 [v0, v1, v2] (.ref (a + 16) :: r) (am_toH σ) 0 0 Q = AW sv 86 29 [v0, v1, v2] (.int (σ.1 (a + 16) 2) :: r) (am_toH σ) 0 0 Q := e_getI am_h86 dX8_point_26 fl_8_158 (is2 hr) rfl
theorem x86_29 : AW sv 86 29 [v0, v1, v2] r h 0 0 Q = AW sv 86 31 [v0, v1, v2] (.int (24) :: r) h 0 0 Q := e_bipushv am_h86 dX8_point_29 c_bipush_24
theorem x86_31 : AW sv 86 31 [v0, v1, v2] (.int y :: .int x :: r) h 0 0 Q = if x < y then AW sv 86 37 [v0, v1, v2] r h 0 0 Q else AW sv 86 34 [v0, v1, v2] r h 0 0 Q := e_c_lt am_h86 dX8_point_31 rfl
theorem x86_34 : AW sv 86 34 [v0, v1, v2] r h 0 0 Q = AW sv 86 36 [v0, v1, v2] (.int (-3) :: r) h 0 0 Q := e_bipushv am_h86 dX8_point_34 c_bipush_m3
theorem x86_36 : AW sv 86 36 [v0, v1, v2] [.int x] h 0 0 Q = Q (some (.int x)) h := e_iret am_h86 dX8_point_36 rfl ⟨rfl, rfl⟩
theorem x86_37 : AW sv 86 37 [.ref a, v1, v2] r h 0 0 Q = AW sv 86 38 [.ref a, v1, v2] (.ref a :: r) h 0 0 Q := e_pv am_h86 dX8_point_37 rfl rfl rfl rfl
theorem x86_38 : AW sv 86 38 [v0, v1, v2] (.ref 0 :: r) (am_toH σ) 0 0 Q = AW sv 86 41 [v0, v1, v2] (.ref 1 :: r) (am_toH σ) 0 0 Q := e_getR am_h86 dX8_point_38 fl_8_10 is8 rfl
theorem x86_41 (hr : am_St a) : AW sv 86 41 [v0, v1, v2] (.ref a :: r) (am_toH σ) 0 0 Q = AW sv 86 44 [v0, v1, v2] (.ref (a + 16) :: r) (am_toH σ) 0 0 Q := e_getR am_h86 dX8_point_41 fl_8_154 (is5 hr) rfl
theorem x86_44 : AW sv 86 44 [v0, .int x, v2] r h 0 0 Q = AW sv 86 45 [v0, .int x, v2] (.int x :: r) h 0 0 Q := e_pv am_h86 dX8_point_44 rfl rfl rfl rfl
theorem x86_45 : AW sv 86 45 [v0, v1, .int x] r h 0 0 Q = AW sv 86 46 [v0, v1, .int x] (.int x :: r) h 0 0 Q := e_pv am_h86 dX8_point_45 rfl rfl rfl rfl
theorem x86_46 (hr : am_St a) (h8 : am_cs r ≤ 8) : AW sv 86 46 [v0, v1, v2] (.int x1 :: .int x0 :: .ref (a + 16) :: r) (am_toH σ) 0 0 Q = AM sv 13 [.ref (a + 16), .int x0, .int x1] (am_toH σ) (fun v h1 => AW sv 86 49 [v0, v1, v2] (v.toList ++ r) h1 0 0 Q) := e_cV (as := [.int x0, .int x1]) am_h86 dX8_point_46 ml_8_231 (by decide) am_h13 rfl (is2 hr) rfl rfl ⟨by decide, Nat.le_of_ble_eq_true rfl, am_rc_of (by decide) h8⟩
theorem x86_49 : AW sv 86 49 [.ref a, v1, v2] r h 0 0 Q = AW sv 86 50 [.ref a, v1, v2] (.ref a :: r) h 0 0 Q := e_pv am_h86 dX8_point_49 rfl rfl rfl rfl
theorem x86_50 : AW sv 86 50 [v0, v1, v2] (.ref 0 :: r) (am_toH σ) 0 0 Q = AW sv 86 53 [v0, v1, v2] (.ref 1 :: r) (am_toH σ) 0 0 Q := e_getR am_h86 dX8_point_50 fl_8_10 is8 rfl
theorem x86_53 (hr : am_St a) : AW sv 86 53 [v0, v1, v2] (.ref a :: r) (am_toH σ) 0 0 Q = AW sv 86 56 [v0, v1, v2] (.ref (a + 16) :: r) (am_toH σ) 0 0 Q := e_getR am_h86 dX8_point_53 fl_8_154 (is5 hr) rfl
theorem x86_56 (hr : am_St a) : AW sv 86 56 [v0, v1, v2] (.ref (a + 16) :: r) (am_toH σ) 0 0 Q = AW sv 86 59 [v0, v1, v2] (.int (σ.1 (a + 16) 2) :: r) (am_toH σ) 0 0 Q := e_getI am_h86 dX8_point_56 fl_8_158 (is2 hr) rfl
theorem x86_59 : AW sv 86 59 [v0, v1, v2] [.int x] h 0 0 Q = Q (some (.int x)) h := e_iret am_h86 dX8_point_59 rfl ⟨rfl, rfl⟩
theorem n86 : AM sv 86 [.ref a, .int x0, .int x1] h Q = AW sv 86 0 [.ref a, .int x0, .int x1] [] h 0 0 Q := rfl
theorem x87_0 : AW sv 87 0 [v0, .int x, v2] r h 0 0 Q = AW sv 87 1 [v0, .int x, v2] (.int x :: r) h 0 0 Q := e_pv am_h87 dX8_fits_0 rfl rfl rfl rfl
theorem x87_1 : AW sv 87 1 [v0, v1, v2] r h 0 0 Q = AW sv 87 2 [v0, v1, v2] (.int (2) :: r) h 0 0 Q := e_iconstv am_h87 dX8_fits_1 c_iconst_2
theorem x87_2 (h8 : am_cs r ≤ 8) : AW sv 87 2 [v0, v1, v2] (.int x1 :: .int x0 :: r) h 0 0 Q = AM sv 97 [.int x0, .int x1] h (fun v h1 => AW sv 87 5 [v0, v1, v2] (v.toList ++ r) h1 0 0 Q) := e_cS (as := [.int x0, .int x1]) am_h87 dX8_fits_2 ml_8_40 (by decide) am_h97 rfl rfl rfl ⟨by decide, Nat.le_of_ble_eq_true rfl, am_rc_of (by decide) h8⟩
theorem x87_5 : AW sv 87 5 [v0, v1, v2] (.int x :: r) h 0 0 Q = if ¬ x = 0 then AW sv 87 10 [v0, v1, v2] r h 0 0 Q else AW sv 87 8 [v0, v1, v2] r h 0 0 Q := e_z_ne am_h87 dX8_fits_5 rfl
theorem x87_8 : AW sv 87 8 [v0, v1, v2] r h 0 0 Q = AW sv 87 9 [v0, v1, v2] (.int (-1) :: r) h 0 0 Q := e_iconstv am_h87 dX8_fits_8 c_iconst_m1
theorem x87_9 : AW sv 87 9 [v0, v1, v2] [.int x] h 0 0 Q = Q (some (.int x)) h := e_iret am_h87 dX8_fits_9 rfl ⟨rfl, rfl⟩
theorem x87_10 : AW sv 87 10 [.ref a, v1, v2] r h 0 0 Q = AW sv 87 11 [.ref a, v1, v2] (.ref a :: r) h 0 0 Q := e_pv am_h87 dX8_fits_10 rfl rfl rfl rfl
theorem x87_11 : AW sv 87 11 [v0, v1, v2] (.ref 0 :: r) (am_toH σ) 0 0 Q = AW sv 87 14 [v0, v1, v2] (.ref 1 :: r) (am_toH σ) 0 0 Q := e_getR am_h87 dX8_fits_11 fl_8_10 is8 rfl
theorem x87_14 (hr : am_St a) : AW sv 87 14 [v0, v1, v2] (.ref a :: r) (am_toH σ) 0 0 Q = AW sv 87 17 [v0, v1, v2] (.ref (a + 16) :: r) (am_toH σ) 0 0 Q := e_getR am_h87 dX8_fits_14 fl_8_154 (is5 hr) rfl
theorem x87_17 (hr : am_St a) : AW sv 87 17 [v0, v1, v2] (.ref (a + 16) :: r) (am_toH σ) 0 0 Q = AW sv 87 20 [v0, v1, v2] (.int (σ.1 (a + 16) 2) :: r) (am_toH σ) 0 0 Q := e_getI am_h87 dX8_fits_17 fl_8_158 (is2 hr) rfl
theorem x87_20 : AW sv 87 20 [v0, v1, v2] (.int x :: r) h 0 0 Q = if ¬ x = 0 then AW sv 87 26 [v0, v1, v2] r h 0 0 Q else AW sv 87 23 [v0, v1, v2] r h 0 0 Q := e_z_ne am_h87 dX8_fits_20 rfl
theorem x87_23 : AW sv 87 23 [v0, v1, v2] r h 0 0 Q = AW sv 87 25 [v0, v1, v2] (.int (-2) :: r) h 0 0 Q := e_bipushv am_h87 dX8_fits_23 c_bipush_m2
theorem x87_25 : AW sv 87 25 [v0, v1, v2] [.int x] h 0 0 Q = Q (some (.int x)) h := e_iret am_h87 dX8_fits_25 rfl ⟨rfl, rfl⟩
theorem x87_26 : AW sv 87 26 [.ref a, v1, v2] r h 0 0 Q = AW sv 87 27 [.ref a, v1, v2] (.ref a :: r) h 0 0 Q := e_pv am_h87 dX8_fits_26 rfl rfl rfl rfl
theorem x87_27 : AW sv 87 27 [v0, v1, v2] (.ref 0 :: r) (am_toH σ) 0 0 Q = AW sv 87 30 [v0, v1, v2] (.ref 43 :: r) (am_toH σ) 0 0 Q := e_getR am_h87 dX8_fits_27 fl_8_22 is8 rfl
theorem x87_30 : AW sv 87 30 [.ref a, v1, v2] r h 0 0 Q = AW sv 87 31 [.ref a, v1, v2] (.ref a :: r) h 0 0 Q := e_pv am_h87 dX8_fits_30 rfl rfl rfl rfl
theorem x87_31 : AW sv 87 31 [v0, v1, v2] (.ref 0 :: r) (am_toH σ) 0 0 Q = AW sv 87 34 [v0, v1, v2] (.ref 1 :: r) (am_toH σ) 0 0 Q := e_getR am_h87 dX8_fits_31 fl_8_10 is8 rfl
theorem x87_34 (h8 : am_cs r ≤ 8) : AW sv 87 34 [v0, v1, v2] (.ref b0 :: .ref 43 :: r) (am_toH σ) 0 0 Q = AM sv 59 [.ref 43, .ref b0] (am_toH σ) (fun v h1 => AW sv 87 37 [v0, v1, v2] (v.toList ++ r) h1 0 0 Q) := e_cV (as := [.ref b0]) am_h87 dX8_fits_34 ml_8_233 (by decide) am_h59 rfl is7 rfl rfl ⟨by decide, Nat.le_of_ble_eq_true rfl, am_rc_of (by decide) h8⟩
theorem x87_37 (hc : v1.category = 1) : AW sv 87 37 [v0, v1, v2] (.int x :: r) h 0 0 Q = AW sv 87 38 [v0, v1, .int x] r h 0 0 Q := e_pv am_h87 dX8_fits_37 rfl rfl rfl (am_sti_of (Nat.le_of_ble_eq_true rfl) (am_c1_of rfl hc))
theorem x87_38 : AW sv 87 38 [v0, .int x, v2] r h 0 0 Q = AW sv 87 39 [v0, .int x, v2] (.int x :: r) h 0 0 Q := e_pv am_h87 dX8_fits_38 rfl rfl rfl rfl
theorem x87_39 : AW sv 87 39 [v0, v1, v2] (.int x :: r) h 0 0 Q = if ¬ x = 0 then AW sv 87 46 [v0, v1, v2] r h 0 0 Q else AW sv 87 42 [v0, v1, v2] r h 0 0 Q := e_z_ne am_h87 dX8_fits_39 rfl
theorem x87_42 : AW sv 87 42 [v0, v1, .int x] r h 0 0 Q = AW sv 87 43 [v0, v1, .int x] (.int x :: r) h 0 0 Q := e_pv am_h87 dX8_fits_42 rfl rfl rfl rfl
theorem x87_43 : AW sv 87 43 [v0, v1, v2] r h 0 0 Q = AW sv 87 58 [v0, v1, v2] r h 0 0 Q := e_goto am_h87 dX8_fits_43 rfl
theorem x87_46 : AW sv 87 46 [.ref a, v1, v2] r h 0 0 Q = AW sv 87 47 [.ref a, v1, v2] (.ref a :: r) h 0 0 Q := e_pv am_h87 dX8_fits_46 rfl rfl rfl rfl
theorem x87_47 : AW sv 87 47 [v0, v1, v2] (.ref 0 :: r) (am_toH σ) 0 0 Q = AW sv 87 50 [v0, v1, v2] (.ref 43 :: r) (am_toH σ) 0 0 Q := e_getR am_h87 dX8_fits_47 fl_8_22 is8 rfl
theorem x87_50 : AW sv 87 50 [.ref a, v1, v2] r h 0 0 Q = AW sv 87 51 [.ref a, v1, v2] (.ref a :: r) h 0 0 Q := e_pv am_h87 dX8_fits_50 rfl rfl rfl rfl
theorem x87_51 : AW sv 87 51 [v0, v1, v2] (.ref 0 :: r) (am_toH σ) 0 0 Q = AW sv 87 54 [v0, v1, v2] (.ref 1 :: r) (am_toH σ) 0 0 Q := e_getR am_h87 dX8_fits_51 fl_8_10 is8 rfl
theorem x87_54 : AW sv 87 54 [v0, v1, .int x] r h 0 0 Q = AW sv 87 55 [v0, v1, .int x] (.int x :: r) h 0 0 Q := e_pv am_h87 dX8_fits_54 rfl rfl rfl rfl
theorem x87_55 (h8 : am_cs r ≤ 8) : AW sv 87 55 [v0, v1, v2] (.int x1 :: .ref b0 :: .ref 43 :: r) (am_toH σ) 0 0 Q = AM sv 58 [.ref 43, .ref b0, .int x1] (am_toH σ) (fun v h1 => AW sv 87 58 [v0, v1, v2] (v.toList ++ r) h1 0 0 Q) := e_cV (as := [.ref b0, .int x1]) am_h87 dX8_fits_55 ml_8_236 (by decide) am_h58 rfl is7 rfl rfl ⟨by decide, Nat.le_of_ble_eq_true rfl, am_rc_of (by decide) h8⟩
theorem x87_58 : AW sv 87 58 [v0, v1, v2] [.int x] h 0 0 Q = Q (some (.int x)) h := e_iret am_h87 dX8_fits_58 rfl ⟨rfl, rfl⟩
theorem n87 : AM sv 87 [.ref a, .int x0] h Q = AW sv 87 0 [.ref a, .int x0, .null] [] h 0 0 Q := rfl
theorem x88_0 : AW sv 88 0 [v0, .int x, v2, v3, v4] r h 0 0 Q = AW sv 88 1 [v0, .int x, v2, v3, v4] (.int x :: r) h 0 0 Q := e_pv am_h88 dX8_apart_0 rfl rfl rfl rfl
theorem x88_1 : AW sv 88 1 [v0, v1, v2, v3, v4] r h 0 0 Q = AW sv 88 4 [v0, v1, v2, v3, v4] (.int (1000) :: r) h 0 0 Q := e_sipushv am_h88 dX8_apart_1 c_sipush_1000
theorem x88_4 (h8 : am_cs r ≤ 8) : AW sv 88 4 [v0, v1, v2, v3, v4] (.int x1 :: .int x0 :: r) h 0 0 Q = AM sv 97 [.int x0, .int x1] h (fun v h1 => AW sv 88 7 [v0, v1, v2, v3, v4] (v.toList ++ r) h1 0 0 Q) := e_cS (as := [.int x0, .int x1]) am_h88 dX8_apart_4 ml_8_40 (by decide) am_h97 rfl rfl rfl ⟨by decide, Nat.le_of_ble_eq_true rfl, am_rc_of (by decide) h8⟩
theorem x88_7 : AW sv 88 7 [v0, v1, v2, v3, v4] (.int x :: r) h 0 0 Q = if x = 0 then AW sv 88 41 [v0, v1, v2, v3, v4] r h 0 0 Q else AW sv 88 10 [v0, v1, v2, v3, v4] r h 0 0 Q := e_z_eq am_h88 dX8_apart_7 rfl
theorem x88_10 : AW sv 88 10 [v0, v1, .int x, v3, v4] r h 0 0 Q = AW sv 88 11 [v0, v1, .int x, v3, v4] (.int x :: r) h 0 0 Q := e_pv am_h88 dX8_apart_10 rfl rfl rfl rfl
theorem x88_11 : AW sv 88 11 [v0, v1, v2, v3, v4] r h 0 0 Q = AW sv 88 14 [v0, v1, v2, v3, v4] (.int (1000) :: r) h 0 0 Q := e_sipushv am_h88 dX8_apart_11 c_sipush_1000
theorem x88_14 (h8 : am_cs r ≤ 8) : AW sv 88 14 [v0, v1, v2, v3, v4] (.int x1 :: .int x0 :: r) h 0 0 Q = AM sv 97 [.int x0, .int x1] h (fun v h1 => AW sv 88 17 [v0, v1, v2, v3, v4] (v.toList ++ r) h1 0 0 Q) := e_cS (as := [.int x0, .int x1]) am_h88 dX8_apart_14 ml_8_40 (by decide) am_h97 rfl rfl rfl ⟨by decide, Nat.le_of_ble_eq_true rfl, am_rc_of (by decide) h8⟩
theorem x88_17 : AW sv 88 17 [v0, v1, v2, v3, v4] (.int x :: r) h 0 0 Q = if x = 0 then AW sv 88 41 [v0, v1, v2, v3, v4] r h 0 0 Q else AW sv 88 20 [v0, v1, v2, v3, v4] r h 0 0 Q := e_z_eq am_h88 dX8_apart_17 rfl
theorem x88_20 : AW sv 88 20 [v0, v1, v2, .int x, v4] r h 0 0 Q = AW sv 88 21 [v0, v1, v2, .int x, v4] (.int x :: r) h 0 0 Q := e_pv am_h88 dX8_apart_20 rfl rfl rfl rfl
theorem x88_21 : AW sv 88 21 [v0, v1, v2, v3, v4] r h 0 0 Q = AW sv 88 24 [v0, v1, v2, v3, v4] (.int (1000) :: r) h 0 0 Q := e_sipushv am_h88 dX8_apart_21 c_sipush_1000
theorem x88_24 (h8 : am_cs r ≤ 8) : AW sv 88 24 [v0, v1, v2, v3, v4] (.int x1 :: .int x0 :: r) h 0 0 Q = AM sv 97 [.int x0, .int x1] h (fun v h1 => AW sv 88 27 [v0, v1, v2, v3, v4] (v.toList ++ r) h1 0 0 Q) := e_cS (as := [.int x0, .int x1]) am_h88 dX8_apart_24 ml_8_40 (by decide) am_h97 rfl rfl rfl ⟨by decide, Nat.le_of_ble_eq_true rfl, am_rc_of (by decide) h8⟩
theorem x88_27 : AW sv 88 27 [v0, v1, v2, v3, v4] (.int x :: r) h 0 0 Q = if x = 0 then AW sv 88 41 [v0, v1, v2, v3, v4] r h 0 0 Q else AW sv 88 30 [v0, v1, v2, v3, v4] r h 0 0 Q := e_z_eq am_h88 dX8_apart_27 rfl
theorem x88_30 : AW sv 88 30 [v0, v1, v2, v3, .int x] r h 0 0 Q = AW sv 88 32 [v0, v1, v2, v3, .int x] (.int x :: r) h 0 0 Q := e_pv am_h88 dX8_apart_30 rfl rfl rfl rfl
theorem x88_32 : AW sv 88 32 [v0, v1, v2, v3, v4] r h 0 0 Q = AW sv 88 35 [v0, v1, v2, v3, v4] (.int (1000) :: r) h 0 0 Q := e_sipushv am_h88 dX8_apart_32 c_sipush_1000
theorem x88_35 (h8 : am_cs r ≤ 8) : AW sv 88 35 [v0, v1, v2, v3, v4] (.int x1 :: .int x0 :: r) h 0 0 Q = AM sv 97 [.int x0, .int x1] h (fun v h1 => AW sv 88 38 [v0, v1, v2, v3, v4] (v.toList ++ r) h1 0 0 Q) := e_cS (as := [.int x0, .int x1]) am_h88 dX8_apart_35 ml_8_40 (by decide) am_h97 rfl rfl rfl ⟨by decide, Nat.le_of_ble_eq_true rfl, am_rc_of (by decide) h8⟩
theorem x88_38 : AW sv 88 38 [v0, v1, v2, v3, v4] (.int x :: r) h 0 0 Q = if ¬ x = 0 then AW sv 88 44 [v0, v1, v2, v3, v4] r h 0 0 Q else AW sv 88 41 [v0, v1, v2, v3, v4] r h 0 0 Q := e_z_ne am_h88 dX8_apart_38 rfl
theorem x88_41 : AW sv 88 41 [v0, v1, v2, v3, v4] r h 0 0 Q = AW sv 88 43 [v0, v1, v2, v3, v4] (.int (-100001) :: r) h 0 0 Q := e_ldc am_h88 dX8_apart_41 (by decide +kernel)
theorem x88_43 : AW sv 88 43 [v0, v1, v2, v3, v4] [.int x] h 0 0 Q = Q (some (.int x)) h := e_iret am_h88 dX8_apart_43 rfl ⟨rfl, rfl⟩
theorem x88_44 : AW sv 88 44 [v0, .int x, v2, v3, v4] r h 0 0 Q = AW sv 88 45 [v0, .int x, v2, v3, v4] (.int x :: r) h 0 0 Q := e_pv am_h88 dX8_apart_44 rfl rfl rfl rfl
theorem x88_45 : AW sv 88 45 [v0, .int x, v2, v3, v4] r h 0 0 Q = AW sv 88 46 [v0, .int x, v2, v3, v4] (.int x :: r) h 0 0 Q := e_pv am_h88 dX8_apart_45 rfl rfl rfl rfl
theorem x88_46 : AW sv 88 46 [v0, v1, .int x, v3, v4] r h 0 0 Q = AW sv 88 47 [v0, v1, .int x, v3, v4] (.int x :: r) h 0 0 Q := e_pv am_h88 dX8_apart_46 rfl rfl rfl rfl
theorem x88_47 : AW sv 88 47 [v0, v1, v2, v3, v4] (.int y :: .int x :: r) h 0 0 Q = AW sv 88 48 [v0, v1, v2, v3, v4] (.int (x + y) :: r) h 0 0 Q := e_iadd am_h88 dX8_apart_47
theorem x88_48 (h8 : am_cs r ≤ 8) : AW sv 88 48 [v0, v1, v2, v3, v4] (.int x1 :: .int x0 :: r) h 0 0 Q = AM sv 101 [.int x0, .int x1] h (fun v h1 => AW sv 88 51 [v0, v1, v2, v3, v4] (v.toList ++ r) h1 0 0 Q) := e_cS (as := [.int x0, .int x1]) am_h88 dX8_apart_48 ml_8_239 (by decide) am_h101 rfl rfl rfl ⟨by decide, Nat.le_of_ble_eq_true rfl, am_rc_of (by decide) h8⟩
theorem x88_51 : AW sv 88 51 [v0, v1, v2, .int x, v4] r h 0 0 Q = AW sv 88 52 [v0, v1, v2, .int x, v4] (.int x :: r) h 0 0 Q := e_pv am_h88 dX8_apart_51 rfl rfl rfl rfl
theorem x88_52 : AW sv 88 52 [v0, v1, v2, .int x, v4] r h 0 0 Q = AW sv 88 53 [v0, v1, v2, .int x, v4] (.int x :: r) h 0 0 Q := e_pv am_h88 dX8_apart_52 rfl rfl rfl rfl
theorem x88_53 : AW sv 88 53 [v0, v1, v2, v3, .int x] r h 0 0 Q = AW sv 88 55 [v0, v1, v2, v3, .int x] (.int x :: r) h 0 0 Q := e_pv am_h88 dX8_apart_53 rfl rfl rfl rfl
theorem x88_55 : AW sv 88 55 [v0, v1, v2, v3, v4] (.int y :: .int x :: r) h 0 0 Q = AW sv 88 56 [v0, v1, v2, v3, v4] (.int (x + y) :: r) h 0 0 Q := e_iadd am_h88 dX8_apart_55
theorem x88_56 (h8 : am_cs r ≤ 8) : AW sv 88 56 [v0, v1, v2, v3, v4] (.int x1 :: .int x0 :: r) h 0 0 Q = AM sv 101 [.int x0, .int x1] h (fun v h1 => AW sv 88 59 [v0, v1, v2, v3, v4] (v.toList ++ r) h1 0 0 Q) := e_cS (as := [.int x0, .int x1]) am_h88 dX8_apart_56 ml_8_239 (by decide) am_h101 rfl rfl rfl ⟨by decide, Nat.le_of_ble_eq_true rfl, am_rc_of (by decide) h8⟩
theorem x88_59 : AW sv 88 59 [v0, v1, v2, v3, v4] (.int y :: .int x :: r) h 0 0 Q = AW sv 88 60 [v0, v1, v2, v3, v4] (.int (x - y) :: r) h 0 0 Q := e_isub am_h88 dX8_apart_59
theorem x88_60 : AW sv 88 60 [v0, v1, v2, v3, v4] [.int x] h 0 0 Q = Q (some (.int x)) h := e_iret am_h88 dX8_apart_60 rfl ⟨rfl, rfl⟩
theorem n88 : AM sv 88 [.ref a, .int x0, .int x1, .int x2, .int x3] h Q = AW sv 88 0 [.ref a, .int x0, .int x1, .int x2, .int x3] [] h 0 0 Q := rfl
theorem x89_0 : AW sv 89 0 [.ref a, v1] r h 0 0 Q = AW sv 89 1 [.ref a, v1] (.ref a :: r) h 0 0 Q := e_pv am_h89 dX8_clear_0 rfl rfl rfl rfl
theorem x89_1 : AW sv 89 1 [v0, v1] (.ref 0 :: r) (am_toH σ) 0 0 Q = AW sv 89 4 [v0, v1] (.ref 1 :: r) (am_toH σ) 0 0 Q := e_getR am_h89 dX8_clear_1 fl_8_10 is8 rfl
theorem x89_4 (hr : am_St a) : AW sv 89 4 [v0, v1] (.ref a :: r) (am_toH σ) 0 0 Q = AW sv 89 7 [v0, v1] (.ref (a + 11) :: r) (am_toH σ) 0 0 Q := e_getR am_h89 dX8_clear_4 fl_8_147 (is5 hr) rfl
theorem x89_7 (hr : am_St a) : AW sv 89 7 [v0, v1] (.ref (a + 11) :: r) (am_toH σ) 0 0 Q = AW sv 89 10 [v0, v1] (.int (σ.1 (a + 11) 4) :: r) (am_toH σ) 0 0 Q := e_getI am_h89 dX8_clear_7 fl_8_151 (is0 hr) rfl
theorem x89_10 : AW sv 89 10 [.ref a, v1] r h 0 0 Q = AW sv 89 11 [.ref a, v1] (.ref a :: r) h 0 0 Q := e_pv am_h89 dX8_clear_10 rfl rfl rfl rfl
theorem x89_11 : AW sv 89 11 [v0, v1] (.ref 0 :: r) (am_toH σ) 0 0 Q = AW sv 89 14 [v0, v1] (.ref 1 :: r) (am_toH σ) 0 0 Q := e_getR am_h89 dX8_clear_11 fl_8_10 is8 rfl
theorem x89_14 (hr : am_St a) : AW sv 89 14 [v0, v1] (.ref a :: r) (am_toH σ) 0 0 Q = AW sv 89 17 [v0, v1] (.ref (a + 16) :: r) (am_toH σ) 0 0 Q := e_getR am_h89 dX8_clear_14 fl_8_154 (is5 hr) rfl
theorem x89_17 (hr : am_St a) : AW sv 89 17 [v0, v1] (.ref (a + 16) :: r) (am_toH σ) 0 0 Q = AW sv 89 20 [v0, v1] (.int (σ.1 (a + 16) 2) :: r) (am_toH σ) 0 0 Q := e_getI am_h89 dX8_clear_17 fl_8_158 (is2 hr) rfl
theorem x89_20 : AW sv 89 20 [v0, v1] (.int y :: .int x :: r) h 0 0 Q = AW sv 89 21 [v0, v1] (.int (x + y) :: r) h 0 0 Q := e_iadd am_h89 dX8_clear_20
theorem x89_21 (hc : v0.category = 1) : AW sv 89 21 [v0, v1] (.int x :: r) h 0 0 Q = AW sv 89 22 [v0, .int x] r h 0 0 Q := e_pv am_h89 dX8_clear_21 rfl rfl rfl (am_sti_of (Nat.le_of_ble_eq_true rfl) (am_c1_of rfl hc))
theorem x89_22 : AW sv 89 22 [.ref a, v1] r h 0 0 Q = AW sv 89 23 [.ref a, v1] (.ref a :: r) h 0 0 Q := e_pv am_h89 dX8_clear_22 rfl rfl rfl rfl
theorem x89_23 : AW sv 89 23 [v0, v1] (.ref 0 :: r) (am_toH σ) 0 0 Q = AW sv 89 26 [v0, v1] (.ref 1 :: r) (am_toH σ) 0 0 Q := e_getR am_h89 dX8_clear_23 fl_8_10 is8 rfl
theorem x89_26 (hr : am_St a) : AW sv 89 26 [v0, v1] (.ref a :: r) (am_toH σ) 0 0 Q = AW sv 89 29 [v0, v1] (.ref (a + 11) :: r) (am_toH σ) 0 0 Q := e_getR am_h89 dX8_clear_26 fl_8_147 (is5 hr) rfl
theorem x89_29 : AW sv 89 29 [v0, v1] r h 0 0 Q = AW sv 89 30 [v0, v1] (.int (0) :: r) h 0 0 Q := e_iconstv am_h89 dX8_clear_29 c_iconst_0
theorem x89_30 (hr : am_St a) : AW sv 89 30 [v0, v1] (.int x :: .ref (a + 11) :: r) (am_toH σ) 0 0 Q = AW sv 89 33 [v0, v1] r (am_toH (am_wr σ (a + 11) (upd (σ.1 (a + 11)) 4 x))) 0 0 Q := e_putI am_h89 dX8_clear_30 fl_8_151 (is0 hr) rfl rfl rfl
theorem x89_33 : AW sv 89 33 [.ref a, v1] r h 0 0 Q = AW sv 89 34 [.ref a, v1] (.ref a :: r) h 0 0 Q := e_pv am_h89 dX8_clear_33 rfl rfl rfl rfl
theorem x89_34 : AW sv 89 34 [v0, v1] (.ref 0 :: r) (am_toH σ) 0 0 Q = AW sv 89 37 [v0, v1] (.ref 1 :: r) (am_toH σ) 0 0 Q := e_getR am_h89 dX8_clear_34 fl_8_10 is8 rfl
theorem x89_37 (hr : am_St a) : AW sv 89 37 [v0, v1] (.ref a :: r) (am_toH σ) 0 0 Q = AW sv 89 40 [v0, v1] (.ref (a + 16) :: r) (am_toH σ) 0 0 Q := e_getR am_h89 dX8_clear_37 fl_8_154 (is5 hr) rfl
theorem x89_40 : AW sv 89 40 [v0, v1] r h 0 0 Q = AW sv 89 41 [v0, v1] (.int (0) :: r) h 0 0 Q := e_iconstv am_h89 dX8_clear_40 c_iconst_0
theorem x89_41 (hr : am_St a) : AW sv 89 41 [v0, v1] (.int x :: .ref (a + 16) :: r) (am_toH σ) 0 0 Q = AW sv 89 44 [v0, v1] r (am_toH (am_wr σ (a + 16) (upd (σ.1 (a + 16)) 2 x))) 0 0 Q := e_putI am_h89 dX8_clear_41 fl_8_158 (is2 hr) rfl rfl rfl
theorem x89_44 : AW sv 89 44 [v0, .int x] r h 0 0 Q = AW sv 89 45 [v0, .int x] (.int x :: r) h 0 0 Q := e_pv am_h89 dX8_clear_44 rfl rfl rfl rfl
theorem x89_45 : AW sv 89 45 [v0, v1] [.int x] h 0 0 Q = Q (some (.int x)) h := e_iret am_h89 dX8_clear_45 rfl ⟨rfl, rfl⟩
theorem n89 : AM sv 89 [.ref a] h Q = AW sv 89 0 [.ref a, .null] [] h 0 0 Q := rfl
theorem x90_0 : AW sv 90 0 [.ref a] r h 0 0 Q = AW sv 90 1 [.ref a] (.ref a :: r) h 0 0 Q := e_pv am_h90 dX8_image_0 rfl rfl rfl rfl
theorem x90_1 : AW sv 90 1 [v0] (.ref 0 :: r) (am_toH σ) 0 0 Q = AW sv 90 4 [v0] (.ref 22 :: r) (am_toH σ) 0 0 Q := e_getR am_h90 dX8_image_1 fl_8_16 is8 rfl
theorem x90_4 : AW sv 90 4 [.ref a] r h 0 0 Q = AW sv 90 5 [.ref a] (.ref a :: r) h 0 0 Q := e_pv am_h90 dX8_image_4 rfl rfl rfl rfl
theorem x90_5 : AW sv 90 5 [v0] (.ref 0 :: r) (am_toH σ) 0 0 Q = AW sv 90 8 [v0] (.ref 1 :: r) (am_toH σ) 0 0 Q := e_getR am_h90 dX8_image_5 fl_8_10 is8 rfl
theorem x90_8 (hr : am_St a) (h8 : am_cs r ≤ 8) : AW sv 90 8 [v0] (.ref b0 :: .ref a :: r) (am_toH σ) 0 0 Q = AM sv 28 [.ref a, .ref b0] (am_toH σ) (fun v h1 => AW sv 90 11 [v0] (v.toList ++ r) h1 0 0 Q) := e_cV (as := [.ref b0]) am_h90 dX8_image_8 ml_8_242 (by decide) am_h28 rfl (is5 hr) rfl rfl ⟨by decide, Nat.le_of_ble_eq_true rfl, am_rc_of (by decide) h8⟩
theorem x90_11 : AW sv 90 11 [.ref a] r h 0 0 Q = AW sv 90 12 [.ref a] (.ref a :: r) h 0 0 Q := e_pv am_h90 dX8_image_11 rfl rfl rfl rfl
theorem x90_12 : AW sv 90 12 [v0] r h 0 0 Q = AW sv 90 13 [v0] (.int (1) :: r) h 0 0 Q := e_iconstv am_h90 dX8_image_12 c_iconst_1
theorem x90_13 (hz : x = 0 ∨ x = 1) : AW sv 90 13 [v0] (.int x :: .ref 0 :: r) (am_toH σ) 0 0 Q = AW sv 90 16 [v0] r (am_toH (am_wr σ 0 (upd (σ.1 0) 2 x))) 0 0 Q := e_putI am_h90 dX8_image_13 fl_8_245 is8 rfl rfl (am_vz_bool hz)
theorem x90_16 : AW sv 90 16 [v0] r h 0 0 Q = AW sv 90 17 [v0] (.int (1) :: r) h 0 0 Q := e_iconstv am_h90 dX8_image_16 c_iconst_1
theorem x90_17 : AW sv 90 17 [v0] [.int x] h 0 0 Q = Q (some (.int x)) h := e_iret am_h90 dX8_image_17 rfl ⟨rfl, rfl⟩
theorem n90 : AM sv 90 [.ref a] h Q = AW sv 90 0 [.ref a] [] h 0 0 Q := rfl
theorem x91_0 : AW sv 91 0 [.ref a] r h 0 0 Q = AW sv 91 1 [.ref a] (.ref a :: r) h 0 0 Q := e_pv am_h91 dX8_restore_0 rfl rfl rfl rfl
theorem x91_1 : AW sv 91 1 [v0] (.ref 0 :: r) (am_toH σ) 0 0 Q = AW sv 91 4 [v0] (.int (σ.1 0 2) :: r) (am_toH σ) 0 0 Q := e_getI am_h91 dX8_restore_1 fl_8_245 is8 rfl
theorem x91_4 : AW sv 91 4 [v0] (.int x :: r) h 0 0 Q = if ¬ x = 0 then AW sv 91 10 [v0] r h 0 0 Q else AW sv 91 7 [v0] r h 0 0 Q := e_z_ne am_h91 dX8_restore_4 rfl
theorem x91_7 : AW sv 91 7 [v0] r h 0 0 Q = AW sv 91 9 [v0] (.int (-4) :: r) h 0 0 Q := e_bipushv am_h91 dX8_restore_7 c_bipush_m4
theorem x91_9 : AW sv 91 9 [v0] [.int x] h 0 0 Q = Q (some (.int x)) h := e_iret am_h91 dX8_restore_9 rfl ⟨rfl, rfl⟩
theorem x91_10 : AW sv 91 10 [.ref a] r h 0 0 Q = AW sv 91 11 [.ref a] (.ref a :: r) h 0 0 Q := e_pv am_h91 dX8_restore_10 rfl rfl rfl rfl
theorem x91_11 : AW sv 91 11 [v0] (.ref 0 :: r) (am_toH σ) 0 0 Q = AW sv 91 14 [v0] (.ref 1 :: r) (am_toH σ) 0 0 Q := e_getR am_h91 dX8_restore_11 fl_8_10 is8 rfl
theorem x91_14 : AW sv 91 14 [.ref a] r h 0 0 Q = AW sv 91 15 [.ref a] (.ref a :: r) h 0 0 Q := e_pv am_h91 dX8_restore_14 rfl rfl rfl rfl
theorem x91_15 : AW sv 91 15 [v0] (.ref 0 :: r) (am_toH σ) 0 0 Q = AW sv 91 18 [v0] (.ref 22 :: r) (am_toH σ) 0 0 Q := e_getR am_h91 dX8_restore_15 fl_8_16 is8 rfl
theorem x91_18 (hr : am_St a) (h8 : am_cs r ≤ 8) : AW sv 91 18 [v0] (.ref b0 :: .ref a :: r) (am_toH σ) 0 0 Q = AM sv 28 [.ref a, .ref b0] (am_toH σ) (fun v h1 => AW sv 91 21 [v0] (v.toList ++ r) h1 0 0 Q) := e_cV (as := [.ref b0]) am_h91 dX8_restore_18 ml_8_242 (by decide) am_h28 rfl (is5 hr) rfl rfl ⟨by decide, Nat.le_of_ble_eq_true rfl, am_rc_of (by decide) h8⟩
theorem x91_21 : AW sv 91 21 [v0] r h 0 0 Q = AW sv 91 22 [v0] (.int (1) :: r) h 0 0 Q := e_iconstv am_h91 dX8_restore_21 c_iconst_1
theorem x91_22 : AW sv 91 22 [v0] [.int x] h 0 0 Q = Q (some (.int x)) h := e_iret am_h91 dX8_restore_22 rfl ⟨rfl, rfl⟩
theorem n91 : AM sv 91 [.ref a] h Q = AW sv 91 0 [.ref a] [] h 0 0 Q := rfl
theorem x92_0 : AW sv 92 0 [v0, .int x, v2, v3, v4, v5, v6, v7, v8, v9] r h 0 0 Q = AW sv 92 1 [v0, .int x, v2, v3, v4, v5, v6, v7, v8, v9] (.int x :: r) h 0 0 Q := e_pv am_h92 dX8_eyes_0 rfl rfl rfl rfl
theorem x92_1 : AW sv 92 1 [v0, v1, v2, v3, v4, v5, v6, v7, v8, v9] r h 0 0 Q = AW sv 92 3 [v0, v1, v2, v3, v4, v5, v6, v7, v8, v9] (.int (16) :: r) h 0 0 Q := e_bipushv am_h92 dX8_eyes_1 c_bipush_16
theorem x92_3 (h8 : am_cs r ≤ 8) : AW sv 92 3 [v0, v1, v2, v3, v4, v5, v6, v7, v8, v9] (.int x1 :: .int x0 :: r) h 0 0 Q = AM sv 97 [.int x0, .int x1] h (fun v h1 => AW sv 92 6 [v0, v1, v2, v3, v4, v5, v6, v7, v8, v9] (v.toList ++ r) h1 0 0 Q) := e_cS (as := [.int x0, .int x1]) am_h92 dX8_eyes_3 ml_8_40 (by decide) am_h97 rfl rfl rfl ⟨by decide, Nat.le_of_ble_eq_true rfl, am_rc_of (by decide) h8⟩
theorem x92_6 : AW sv 92 6 [v0, v1, v2, v3, v4, v5, v6, v7, v8, v9] (.int x :: r) h 0 0 Q = if x = 0 then AW sv 92 40 [v0, v1, v2, v3, v4, v5, v6, v7, v8, v9] r h 0 0 Q else AW sv 92 9 [v0, v1, v2, v3, v4, v5, v6, v7, v8, v9] r h 0 0 Q := e_z_eq am_h92 dX8_eyes_6 rfl
theorem x92_9 : AW sv 92 9 [v0, v1, .int x, v3, v4, v5, v6, v7, v8, v9] r h 0 0 Q = AW sv 92 10 [v0, v1, .int x, v3, v4, v5, v6, v7, v8, v9] (.int x :: r) h 0 0 Q := e_pv am_h92 dX8_eyes_9 rfl rfl rfl rfl
theorem x92_10 : AW sv 92 10 [v0, v1, v2, v3, v4, v5, v6, v7, v8, v9] r h 0 0 Q = AW sv 92 11 [v0, v1, v2, v3, v4, v5, v6, v7, v8, v9] (.int (4) :: r) h 0 0 Q := e_iconstv am_h92 dX8_eyes_10 c_iconst_4
theorem x92_11 (h8 : am_cs r ≤ 8) : AW sv 92 11 [v0, v1, v2, v3, v4, v5, v6, v7, v8, v9] (.int x1 :: .int x0 :: r) h 0 0 Q = AM sv 97 [.int x0, .int x1] h (fun v h1 => AW sv 92 14 [v0, v1, v2, v3, v4, v5, v6, v7, v8, v9] (v.toList ++ r) h1 0 0 Q) := e_cS (as := [.int x0, .int x1]) am_h92 dX8_eyes_11 ml_8_40 (by decide) am_h97 rfl rfl rfl ⟨by decide, Nat.le_of_ble_eq_true rfl, am_rc_of (by decide) h8⟩
theorem x92_14 : AW sv 92 14 [v0, v1, v2, v3, v4, v5, v6, v7, v8, v9] (.int x :: r) h 0 0 Q = if x = 0 then AW sv 92 40 [v0, v1, v2, v3, v4, v5, v6, v7, v8, v9] r h 0 0 Q else AW sv 92 17 [v0, v1, v2, v3, v4, v5, v6, v7, v8, v9] r h 0 0 Q := e_z_eq am_h92 dX8_eyes_14 rfl
theorem x92_17 : AW sv 92 17 [v0, v1, v2, .int x, v4, v5, v6, v7, v8, v9] r h 0 0 Q = AW sv 92 18 [v0, v1, v2, .int x, v4, v5, v6, v7, v8, v9] (.int x :: r) h 0 0 Q := e_pv am_h92 dX8_eyes_17 rfl rfl rfl rfl
theorem x92_18 : AW sv 92 18 [v0, v1, v2, v3, v4, v5, v6, v7, v8, v9] r h 0 0 Q = AW sv 92 19 [v0, v1, v2, v3, v4, v5, v6, v7, v8, v9] (.int (3) :: r) h 0 0 Q := e_iconstv am_h92 dX8_eyes_18 c_iconst_3
theorem x92_19 (h8 : am_cs r ≤ 8) : AW sv 92 19 [v0, v1, v2, v3, v4, v5, v6, v7, v8, v9] (.int x1 :: .int x0 :: r) h 0 0 Q = AM sv 97 [.int x0, .int x1] h (fun v h1 => AW sv 92 22 [v0, v1, v2, v3, v4, v5, v6, v7, v8, v9] (v.toList ++ r) h1 0 0 Q) := e_cS (as := [.int x0, .int x1]) am_h92 dX8_eyes_19 ml_8_40 (by decide) am_h97 rfl rfl rfl ⟨by decide, Nat.le_of_ble_eq_true rfl, am_rc_of (by decide) h8⟩
theorem x92_22 : AW sv 92 22 [v0, v1, v2, v3, v4, v5, v6, v7, v8, v9] (.int x :: r) h 0 0 Q = if x = 0 then AW sv 92 40 [v0, v1, v2, v3, v4, v5, v6, v7, v8, v9] r h 0 0 Q else AW sv 92 25 [v0, v1, v2, v3, v4, v5, v6, v7, v8, v9] r h 0 0 Q := e_z_eq am_h92 dX8_eyes_22 rfl
theorem x92_25 : AW sv 92 25 [v0, v1, v2, v3, v4, .int x, v6, v7, v8, v9] r h 0 0 Q = AW sv 92 27 [v0, v1, v2, v3, v4, .int x, v6, v7, v8, v9] (.int x :: r) h 0 0 Q := e_pv am_h92 dX8_eyes_25 rfl rfl rfl rfl
theorem x92_27 : AW sv 92 27 [v0, v1, v2, v3, v4, v5, v6, v7, v8, v9] r h 0 0 Q = AW sv 92 28 [v0, v1, v2, v3, v4, v5, v6, v7, v8, v9] (.int (1) :: r) h 0 0 Q := e_iconstv am_h92 dX8_eyes_27 c_iconst_1
theorem x92_28 : AW sv 92 28 [v0, v1, v2, v3, v4, v5, v6, v7, v8, v9] (.int y :: .int x :: r) h 0 0 Q = if x < y then AW sv 92 40 [v0, v1, v2, v3, v4, v5, v6, v7, v8, v9] r h 0 0 Q else AW sv 92 31 [v0, v1, v2, v3, v4, v5, v6, v7, v8, v9] r h 0 0 Q := e_c_lt am_h92 dX8_eyes_28 rfl
theorem x92_31 : AW sv 92 31 [v0, v1, v2, v3, v4, .int x, v6, v7, v8, v9] r h 0 0 Q = AW sv 92 33 [v0, v1, v2, v3, v4, .int x, v6, v7, v8, v9] (.int x :: r) h 0 0 Q := e_pv am_h92 dX8_eyes_31 rfl rfl rfl rfl
theorem x92_33 : AW sv 92 33 [v0, v1, v2, v3, v4, v5, v6, v7, v8, v9] r h 0 0 Q = AW sv 92 35 [v0, v1, v2, v3, v4, v5, v6, v7, v8, v9] (.int (16) :: r) h 0 0 Q := e_bipushv am_h92 dX8_eyes_33 c_bipush_16
theorem x92_35 : AW sv 92 35 [v0, .int x, v2, v3, v4, v5, v6, v7, v8, v9] r h 0 0 Q = AW sv 92 36 [v0, .int x, v2, v3, v4, v5, v6, v7, v8, v9] (.int x :: r) h 0 0 Q := e_pv am_h92 dX8_eyes_35 rfl rfl rfl rfl
theorem x92_36 : AW sv 92 36 [v0, v1, v2, v3, v4, v5, v6, v7, v8, v9] (.int y :: .int x :: r) h 0 0 Q = AW sv 92 37 [v0, v1, v2, v3, v4, v5, v6, v7, v8, v9] (.int (x - y) :: r) h 0 0 Q := e_isub am_h92 dX8_eyes_36
theorem x92_37 : AW sv 92 37 [v0, v1, v2, v3, v4, v5, v6, v7, v8, v9] (.int y :: .int x :: r) h 0 0 Q = if x ≤ y then AW sv 92 42 [v0, v1, v2, v3, v4, v5, v6, v7, v8, v9] r h 0 0 Q else AW sv 92 40 [v0, v1, v2, v3, v4, v5, v6, v7, v8, v9] r h 0 0 Q := e_c_le am_h92 dX8_eyes_37 rfl
theorem x92_40 : AW sv 92 40 [v0, v1, v2, v3, v4, v5, v6, v7, v8, v9] r h 0 0 Q = AW sv 92 41 [v0, v1, v2, v3, v4, v5, v6, v7, v8, v9] (.int (-1) :: r) h 0 0 Q := e_iconstv am_h92 dX8_eyes_40 c_iconst_m1
theorem x92_41 : AW sv 92 41 [v0, v1, v2, v3, v4, v5, v6, v7, v8, v9] [.int x] h 0 0 Q = Q (some (.int x)) h := e_iret am_h92 dX8_eyes_41 rfl ⟨rfl, rfl⟩
theorem x92_42 : AW sv 92 42 [.ref a, v1, v2, v3, v4, v5, v6, v7, v8, v9] r h 0 0 Q = AW sv 92 43 [.ref a, v1, v2, v3, v4, v5, v6, v7, v8, v9] (.ref a :: r) h 0 0 Q := e_pv am_h92 dX8_eyes_42 rfl rfl rfl rfl
theorem x92_43 : AW sv 92 43 [v0, v1, v2, v3, v4, v5, v6, v7, v8, v9] (.ref 0 :: r) (am_toH σ) 0 0 Q = AW sv 92 46 [v0, v1, v2, v3, v4, v5, v6, v7, v8, v9] (.ref 67 :: r) (am_toH σ) 0 0 Q := e_getR am_h92 dX8_eyes_43 fl_8_36 is8 rfl
theorem x92_46 : AW sv 92 46 [v0, v1, .int x, v3, v4, v5, v6, v7, v8, v9] r h 0 0 Q = AW sv 92 47 [v0, v1, .int x, v3, v4, v5, v6, v7, v8, v9] (.int x :: r) h 0 0 Q := e_pv am_h92 dX8_eyes_46 rfl rfl rfl rfl
theorem x92_47 : AW sv 92 47 [v0, v1, v2, .int x, v4, v5, v6, v7, v8, v9] r h 0 0 Q = AW sv 92 48 [v0, v1, v2, .int x, v4, v5, v6, v7, v8, v9] (.int x :: r) h 0 0 Q := e_pv am_h92 dX8_eyes_47 rfl rfl rfl rfl
theorem x92_48 (h8 : am_cs r ≤ 8) : AW sv 92 48 [v0, v1, v2, v3, v4, v5, v6, v7, v8, v9] (.int x1 :: .int x0 :: .ref 67 :: r) (am_toH σ) 0 0 Q = AM sv 20 [.ref 67, .int x0, .int x1] (am_toH σ) (fun v h1 => AW sv 92 51 [v0, v1, v2, v3, v4, v5, v6, v7, v8, v9] (v.toList ++ r) h1 0 0 Q) := e_cV (as := [.int x0, .int x1]) am_h92 dX8_eyes_48 ml_8_249 (by decide) am_h20 rfl is4 rfl rfl ⟨by decide, Nat.le_of_ble_eq_true rfl, am_rc_of (by decide) h8⟩
theorem x92_51 (hc : v5.category = 1) : AW sv 92 51 [v0, v1, v2, v3, v4, v5, v6, v7, v8, v9] (.int x :: r) h 0 0 Q = AW sv 92 53 [v0, v1, v2, v3, v4, v5, .int x, v7, v8, v9] r h 0 0 Q := e_pv am_h92 dX8_eyes_51 rfl rfl rfl (am_sti_of (Nat.le_of_ble_eq_true rfl) (am_c1_of rfl hc))
theorem x92_53 : AW sv 92 53 [v0, v1, v2, v3, v4, v5, .int x, v7, v8, v9] r h 0 0 Q = AW sv 92 55 [v0, v1, v2, v3, v4, v5, .int x, v7, v8, v9] (.int x :: r) h 0 0 Q := e_pv am_h92 dX8_eyes_53 rfl rfl rfl rfl
theorem x92_55 : AW sv 92 55 [v0, v1, v2, v3, v4, v5, v6, v7, v8, v9] (.int x :: r) h 0 0 Q = if x = 0 then AW sv 92 61 [v0, v1, v2, v3, v4, v5, v6, v7, v8, v9] r h 0 0 Q else AW sv 92 58 [v0, v1, v2, v3, v4, v5, v6, v7, v8, v9] r h 0 0 Q := e_z_eq am_h92 dX8_eyes_55 rfl
theorem x92_58 : AW sv 92 58 [v0, v1, v2, v3, v4, v5, .int x, v7, v8, v9] r h 0 0 Q = AW sv 92 60 [v0, v1, v2, v3, v4, v5, .int x, v7, v8, v9] (.int x :: r) h 0 0 Q := e_pv am_h92 dX8_eyes_58 rfl rfl rfl rfl
theorem x92_60 : AW sv 92 60 [v0, v1, v2, v3, v4, v5, v6, v7, v8, v9] [.int x] h 0 0 Q = Q (some (.int x)) h := e_iret am_h92 dX8_eyes_60 rfl ⟨rfl, rfl⟩
theorem x92_61 : AW sv 92 61 [.ref a, v1, v2, v3, v4, v5, v6, v7, v8, v9] r h 0 0 Q = AW sv 92 62 [.ref a, v1, v2, v3, v4, v5, v6, v7, v8, v9] (.ref a :: r) h 0 0 Q := e_pv am_h92 dX8_eyes_61 rfl rfl rfl rfl
theorem x92_62 : AW sv 92 62 [v0, v1, v2, v3, v4, v5, v6, v7, v8, v9] (.ref 0 :: r) (am_toH σ) 0 0 Q = AW sv 92 65 [v0, v1, v2, v3, v4, v5, v6, v7, v8, v9] (.ref 67 :: r) (am_toH σ) 0 0 Q := e_getR am_h92 dX8_eyes_62 fl_8_36 is8 rfl
theorem x92_65 : AW sv 92 65 [v0, v1, .int x, v3, v4, v5, v6, v7, v8, v9] r h 0 0 Q = AW sv 92 66 [v0, v1, .int x, v3, v4, v5, v6, v7, v8, v9] (.int x :: r) h 0 0 Q := e_pv am_h92 dX8_eyes_65 rfl rfl rfl rfl
theorem x92_66 : AW sv 92 66 [v0, v1, v2, v3, .int x, v5, v6, v7, v8, v9] r h 0 0 Q = AW sv 92 68 [v0, v1, v2, v3, .int x, v5, v6, v7, v8, v9] (.int x :: r) h 0 0 Q := e_pv am_h92 dX8_eyes_66 rfl rfl rfl rfl
theorem x92_68 : AW sv 92 68 [v0, v1, v2, v3, v4, .int x, v6, v7, v8, v9] r h 0 0 Q = AW sv 92 70 [v0, v1, v2, v3, v4, .int x, v6, v7, v8, v9] (.int x :: r) h 0 0 Q := e_pv am_h92 dX8_eyes_68 rfl rfl rfl rfl
theorem x92_70 (h8 : am_cs r ≤ 8) : AW sv 92 70 [v0, v1, v2, v3, v4, v5, v6, v7, v8, v9] (.int x2 :: .int x1 :: .int x0 :: .ref 67 :: r) (am_toH σ) 0 0 Q = AM sv 21 [.ref 67, .int x0, .int x1, .int x2] (am_toH σ) (fun v h1 => AW sv 92 73 [v0, v1, v2, v3, v4, v5, v6, v7, v8, v9] (v.toList ++ r) h1 0 0 Q) := e_cV (as := [.int x0, .int x1, .int x2]) am_h92 dX8_eyes_70 ml_8_252 (by decide) am_h21 rfl is4 rfl rfl ⟨by decide, Nat.le_of_ble_eq_true rfl, am_rc_of (by decide) h8⟩
theorem x92_73 : AW sv 92 73 [v0, v1, v2, v3, v4, v5, v6, v7, v8, v9] (.int x :: r) h 0 0 Q = if ¬ x = 0 then AW sv 92 79 [v0, v1, v2, v3, v4, v5, v6, v7, v8, v9] r h 0 0 Q else AW sv 92 76 [v0, v1, v2, v3, v4, v5, v6, v7, v8, v9] r h 0 0 Q := e_z_ne am_h92 dX8_eyes_73 rfl
theorem x92_76 : AW sv 92 76 [v0, v1, v2, v3, v4, v5, v6, v7, v8, v9] r h 0 0 Q = AW sv 92 78 [v0, v1, v2, v3, v4, v5, v6, v7, v8, v9] (.int (-13) :: r) h 0 0 Q := e_bipushv am_h92 dX8_eyes_76 c_bipush_m13
theorem x92_78 : AW sv 92 78 [v0, v1, v2, v3, v4, v5, v6, v7, v8, v9] [.int x] h 0 0 Q = Q (some (.int x)) h := e_iret am_h92 dX8_eyes_78 rfl ⟨rfl, rfl⟩
theorem x92_79 : AW sv 92 79 [.ref a, v1, v2, v3, v4, v5, v6, v7, v8, v9] r h 0 0 Q = AW sv 92 80 [.ref a, v1, v2, v3, v4, v5, v6, v7, v8, v9] (.ref a :: r) h 0 0 Q := e_pv am_h92 dX8_eyes_79 rfl rfl rfl rfl
theorem x92_80 : AW sv 92 80 [v0, v1, v2, v3, v4, v5, v6, v7, v8, v9] (.ref 0 :: r) (am_toH σ) 0 0 Q = AW sv 92 83 [v0, v1, v2, v3, v4, v5, v6, v7, v8, v9] (.ref 67 :: r) (am_toH σ) 0 0 Q := e_getR am_h92 dX8_eyes_80 fl_8_36 is8 rfl
theorem x92_83 : AW sv 92 83 [v0, v1, .int x, v3, v4, v5, v6, v7, v8, v9] r h 0 0 Q = AW sv 92 84 [v0, v1, .int x, v3, v4, v5, v6, v7, v8, v9] (.int x :: r) h 0 0 Q := e_pv am_h92 dX8_eyes_83 rfl rfl rfl rfl
theorem x92_84 : AW sv 92 84 [v0, v1, v2, v3, .int x, v5, v6, v7, v8, v9] r h 0 0 Q = AW sv 92 86 [v0, v1, v2, v3, .int x, v5, v6, v7, v8, v9] (.int x :: r) h 0 0 Q := e_pv am_h92 dX8_eyes_84 rfl rfl rfl rfl
theorem x92_86 : AW sv 92 86 [v0, v1, v2, v3, v4, .int x, v6, v7, v8, v9] r h 0 0 Q = AW sv 92 88 [v0, v1, v2, v3, v4, .int x, v6, v7, v8, v9] (.int x :: r) h 0 0 Q := e_pv am_h92 dX8_eyes_86 rfl rfl rfl rfl
theorem x92_88 (h8 : am_cs r ≤ 8) : AW sv 92 88 [v0, v1, v2, v3, v4, v5, v6, v7, v8, v9] (.int x2 :: .int x1 :: .int x0 :: .ref 67 :: r) (am_toH σ) 0 0 Q = AM sv 26 [.ref 67, .int x0, .int x1, .int x2] (am_toH σ) (fun v h1 => AW sv 92 91 [v0, v1, v2, v3, v4, v5, v6, v7, v8, v9] (v.toList ++ r) h1 0 0 Q) := e_cV (as := [.int x0, .int x1, .int x2]) am_h92 dX8_eyes_88 ml_8_255 (by decide) am_h26 rfl is4 rfl rfl ⟨by decide, Nat.le_of_ble_eq_true rfl, am_rc_of (by decide) h8⟩
theorem x92_91 (hc : v6.category = 1) : AW sv 92 91 [v0, v1, v2, v3, v4, v5, v6, v7, v8, v9] (.int x :: r) h 0 0 Q = AW sv 92 93 [v0, v1, v2, v3, v4, v5, v6, .int x, v8, v9] r h 0 0 Q := e_pv am_h92 dX8_eyes_91 rfl rfl rfl (am_sti_of (Nat.le_of_ble_eq_true rfl) (am_c1_of rfl hc))
theorem x92_93 : AW sv 92 93 [v0, v1, v2, v3, v4, v5, v6, .int x, v8, v9] r h 0 0 Q = AW sv 92 95 [v0, v1, v2, v3, v4, v5, v6, .int x, v8, v9] (.int x :: r) h 0 0 Q := e_pv am_h92 dX8_eyes_93 rfl rfl rfl rfl
theorem x92_95 : AW sv 92 95 [v0, v1, v2, v3, v4, v5, v6, v7, v8, v9] r h 0 0 Q = AW sv 92 96 [v0, v1, v2, v3, v4, v5, v6, v7, v8, v9] (.int (-1) :: r) h 0 0 Q := e_iconstv am_h92 dX8_eyes_95 c_iconst_m1
theorem x92_96 : AW sv 92 96 [v0, v1, v2, v3, v4, v5, v6, v7, v8, v9] (.int y :: .int x :: r) h 0 0 Q = if ¬ x = y then AW sv 92 102 [v0, v1, v2, v3, v4, v5, v6, v7, v8, v9] r h 0 0 Q else AW sv 92 99 [v0, v1, v2, v3, v4, v5, v6, v7, v8, v9] r h 0 0 Q := e_c_ne am_h92 dX8_eyes_96 rfl
theorem x92_99 : AW sv 92 99 [v0, v1, v2, v3, v4, v5, v6, v7, v8, v9] r h 0 0 Q = AW sv 92 101 [v0, v1, v2, v3, v4, v5, v6, v7, v8, v9] (.int (-2) :: r) h 0 0 Q := e_bipushv am_h92 dX8_eyes_99 c_bipush_m2
theorem x92_101 : AW sv 92 101 [v0, v1, v2, v3, v4, v5, v6, v7, v8, v9] [.int x] h 0 0 Q = Q (some (.int x)) h := e_iret am_h92 dX8_eyes_101 rfl ⟨rfl, rfl⟩
theorem x92_102 : AW sv 92 102 [.ref a, v1, v2, v3, v4, v5, v6, v7, v8, v9] r h 0 0 Q = AW sv 92 103 [.ref a, v1, v2, v3, v4, v5, v6, v7, v8, v9] (.ref a :: r) h 0 0 Q := e_pv am_h92 dX8_eyes_102 rfl rfl rfl rfl
theorem x92_103 : AW sv 92 103 [v0, v1, v2, v3, v4, v5, v6, v7, v8, v9] (.ref 0 :: r) (am_toH σ) 0 0 Q = AW sv 92 106 [v0, v1, v2, v3, v4, v5, v6, v7, v8, v9] (.ref 1 :: r) (am_toH σ) 0 0 Q := e_getR am_h92 dX8_eyes_103 fl_8_10 is8 rfl
theorem x92_106 (hr : am_St a) : AW sv 92 106 [v0, v1, v2, v3, v4, v5, v6, v7, v8, v9] (.ref a :: r) (am_toH σ) 0 0 Q = AW sv 92 109 [v0, v1, v2, v3, v4, v5, v6, v7, v8, v9] (.ref (a + 16) :: r) (am_toH σ) 0 0 Q := e_getR am_h92 dX8_eyes_106 fl_8_154 (is5 hr) rfl
theorem x92_109 (hr : am_St a) : AW sv 92 109 [v0, v1, v2, v3, v4, v5, v6, v7, v8, v9] (.ref (a + 16) :: r) (am_toH σ) 0 0 Q = AW sv 92 112 [v0, v1, v2, v3, v4, v5, v6, v7, v8, v9] (.int (σ.1 (a + 16) 2) :: r) (am_toH σ) 0 0 Q := e_getI am_h92 dX8_eyes_109 fl_8_158 (is2 hr) rfl
theorem x92_112 : AW sv 92 112 [v0, v1, v2, v3, v4, v5, v6, .int x, v8, v9] r h 0 0 Q = AW sv 92 114 [v0, v1, v2, v3, v4, v5, v6, .int x, v8, v9] (.int x :: r) h 0 0 Q := e_pv am_h92 dX8_eyes_112 rfl rfl rfl rfl
theorem x92_114 : AW sv 92 114 [v0, v1, v2, v3, v4, v5, v6, v7, v8, v9] (.int y :: .int x :: r) h 0 0 Q = AW sv 92 115 [v0, v1, v2, v3, v4, v5, v6, v7, v8, v9] (.int (x + y) :: r) h 0 0 Q := e_iadd am_h92 dX8_eyes_114
theorem x92_115 : AW sv 92 115 [v0, v1, v2, v3, v4, v5, v6, v7, v8, v9] r h 0 0 Q = AW sv 92 117 [v0, v1, v2, v3, v4, v5, v6, v7, v8, v9] (.int (24) :: r) h 0 0 Q := e_bipushv am_h92 dX8_eyes_115 c_bipush_24
theorem x92_117 : AW sv 92 117 [v0, v1, v2, v3, v4, v5, v6, v7, v8, v9] (.int y :: .int x :: r) h 0 0 Q = if x ≤ y then AW sv 92 123 [v0, v1, v2, v3, v4, v5, v6, v7, v8, v9] r h 0 0 Q else AW sv 92 120 [v0, v1, v2, v3, v4, v5, v6, v7, v8, v9] r h 0 0 Q := e_c_le am_h92 dX8_eyes_117 rfl
theorem x92_120 : AW sv 92 120 [v0, v1, v2, v3, v4, v5, v6, v7, v8, v9] r h 0 0 Q = AW sv 92 122 [v0, v1, v2, v3, v4, v5, v6, v7, v8, v9] (.int (-3) :: r) h 0 0 Q := e_bipushv am_h92 dX8_eyes_120 c_bipush_m3
theorem x92_122 : AW sv 92 122 [v0, v1, v2, v3, v4, v5, v6, v7, v8, v9] [.int x] h 0 0 Q = Q (some (.int x)) h := e_iret am_h92 dX8_eyes_122 rfl ⟨rfl, rfl⟩
theorem x92_123 : AW sv 92 123 [v0, v1, v2, v3, v4, v5, v6, v7, v8, v9] r h 0 0 Q = AW sv 92 124 [v0, v1, v2, v3, v4, v5, v6, v7, v8, v9] (.int (0) :: r) h 0 0 Q := e_iconstv am_h92 dX8_eyes_123 c_iconst_0
theorem x92_124 (hc : v7.category = 1) : AW sv 92 124 [v0, v1, v2, v3, v4, v5, v6, v7, v8, v9] (.int x :: r) h 0 0 Q = AW sv 92 126 [v0, v1, v2, v3, v4, v5, v6, v7, .int x, v9] r h 0 0 Q := e_pv am_h92 dX8_eyes_124 rfl rfl rfl (am_sti_of (Nat.le_of_ble_eq_true rfl) (am_c1_of rfl hc))
theorem x92_126 : AW sv 92 126 [v0, v1, v2, v3, v4, v5, v6, v7, .int x, v9] r h 0 0 Q = AW sv 92 128 [v0, v1, v2, v3, v4, v5, v6, v7, .int x, v9] (.int x :: r) h 0 0 Q := e_pv am_h92 dX8_eyes_126 rfl rfl rfl rfl
theorem x92_128 : AW sv 92 128 [v0, v1, v2, v3, v4, .int x, v6, v7, v8, v9] r h 0 0 Q = AW sv 92 130 [v0, v1, v2, v3, v4, .int x, v6, v7, v8, v9] (.int x :: r) h 0 0 Q := e_pv am_h92 dX8_eyes_128 rfl rfl rfl rfl
theorem x92_130 : AW sv 92 130 [v0, v1, v2, v3, v4, v5, v6, v7, v8, v9] (.int y :: .int x :: r) h 0 0 Q = if y ≤ x then AW sv 92 176 [v0, v1, v2, v3, v4, v5, v6, v7, v8, v9] r h 0 0 Q else AW sv 92 133 [v0, v1, v2, v3, v4, v5, v6, v7, v8, v9] r h 0 0 Q := e_c_ge am_h92 dX8_eyes_130 rfl
theorem x92_133 : AW sv 92 133 [.ref a, v1, v2, v3, v4, v5, v6, v7, v8, v9] r h 0 0 Q = AW sv 92 134 [.ref a, v1, v2, v3, v4, v5, v6, v7, v8, v9] (.ref a :: r) h 0 0 Q := e_pv am_h92 dX8_eyes_133 rfl rfl rfl rfl
theorem x92_134 : AW sv 92 134 [v0, v1, v2, v3, v4, v5, v6, v7, v8, v9] (.ref 0 :: r) (am_toH σ) 0 0 Q = AW sv 92 137 [v0, v1, v2, v3, v4, v5, v6, v7, v8, v9] (.ref 67 :: r) (am_toH σ) 0 0 Q := e_getR am_h92 dX8_eyes_134 fl_8_36 is8 rfl
theorem x92_137 : AW sv 92 137 [v0, v1, .int x, v3, v4, v5, v6, v7, v8, v9] r h 0 0 Q = AW sv 92 138 [v0, v1, .int x, v3, v4, v5, v6, v7, v8, v9] (.int x :: r) h 0 0 Q := e_pv am_h92 dX8_eyes_137 rfl rfl rfl rfl
theorem x92_138 : AW sv 92 138 [v0, v1, v2, v3, .int x, v5, v6, v7, v8, v9] r h 0 0 Q = AW sv 92 140 [v0, v1, v2, v3, .int x, v5, v6, v7, v8, v9] (.int x :: r) h 0 0 Q := e_pv am_h92 dX8_eyes_138 rfl rfl rfl rfl
theorem x92_140 : AW sv 92 140 [v0, v1, v2, v3, v4, v5, v6, v7, .int x, v9] r h 0 0 Q = AW sv 92 142 [v0, v1, v2, v3, v4, v5, v6, v7, .int x, v9] (.int x :: r) h 0 0 Q := e_pv am_h92 dX8_eyes_140 rfl rfl rfl rfl
theorem x92_142 : AW sv 92 142 [v0, v1, v2, v3, v4, v5, v6, v7, v8, v9] (.int y :: .int x :: r) h 0 0 Q = AW sv 92 143 [v0, v1, v2, v3, v4, v5, v6, v7, v8, v9] (.int (x + y) :: r) h 0 0 Q := e_iadd am_h92 dX8_eyes_142
theorem x92_143 (h8 : am_cs r ≤ 8) : AW sv 92 143 [v0, v1, v2, v3, v4, v5, v6, v7, v8, v9] (.int x1 :: .int x0 :: .ref 67 :: r) (am_toH σ) 0 0 Q = AM sv 23 [.ref 67, .int x0, .int x1] (am_toH σ) (fun v h1 => AW sv 92 146 [v0, v1, v2, v3, v4, v5, v6, v7, v8, v9] (v.toList ++ r) h1 0 0 Q) := e_cV (as := [.int x0, .int x1]) am_h92 dX8_eyes_143 ml_8_259 (by decide) am_h23 rfl is4 rfl rfl ⟨by decide, Nat.le_of_ble_eq_true rfl, am_rc_of (by decide) h8⟩
theorem x92_146 (hc : v8.category = 1) : AW sv 92 146 [v0, v1, v2, v3, v4, v5, v6, v7, v8, v9] (.int x :: r) h 0 0 Q = AW sv 92 148 [v0, v1, v2, v3, v4, v5, v6, v7, v8, .int x] r h 0 0 Q := e_pv am_h92 dX8_eyes_146 rfl rfl rfl (am_sti_of (Nat.le_of_ble_eq_true rfl) (am_c1_of rfl hc))
theorem x92_148 : AW sv 92 148 [v0, v1, v2, v3, v4, v5, v6, v7, v8, .int x] r h 0 0 Q = AW sv 92 150 [v0, v1, v2, v3, v4, v5, v6, v7, v8, .int x] (.int x :: r) h 0 0 Q := e_pv am_h92 dX8_eyes_148 rfl rfl rfl rfl
theorem x92_150 : AW sv 92 150 [v0, v1, v2, v3, v4, v5, v6, v7, v8, v9] r h 0 0 Q = AW sv 92 151 [v0, v1, v2, v3, v4, v5, v6, v7, v8, v9] (.int (-1) :: r) h 0 0 Q := e_iconstv am_h92 dX8_eyes_150 c_iconst_m1
theorem x92_151 : AW sv 92 151 [v0, v1, v2, v3, v4, v5, v6, v7, v8, v9] (.int y :: .int x :: r) h 0 0 Q = if x = y then AW sv 92 170 [v0, v1, v2, v3, v4, v5, v6, v7, v8, v9] r h 0 0 Q else AW sv 92 154 [v0, v1, v2, v3, v4, v5, v6, v7, v8, v9] r h 0 0 Q := e_c_eq am_h92 dX8_eyes_151 rfl
theorem x92_154 : AW sv 92 154 [.ref a, v1, v2, v3, v4, v5, v6, v7, v8, v9] r h 0 0 Q = AW sv 92 155 [.ref a, v1, v2, v3, v4, v5, v6, v7, v8, v9] (.ref a :: r) h 0 0 Q := e_pv am_h92 dX8_eyes_154 rfl rfl rfl rfl
theorem x92_155 : AW sv 92 155 [v0, v1, v2, v3, v4, v5, v6, v7, v8, v9] (.ref 0 :: r) (am_toH σ) 0 0 Q = AW sv 92 158 [v0, v1, v2, v3, v4, v5, v6, v7, v8, v9] (.ref 1 :: r) (am_toH σ) 0 0 Q := e_getR am_h92 dX8_eyes_155 fl_8_10 is8 rfl
theorem x92_158 (hr : am_St a) : AW sv 92 158 [v0, v1, v2, v3, v4, v5, v6, v7, v8, v9] (.ref a :: r) (am_toH σ) 0 0 Q = AW sv 92 161 [v0, v1, v2, v3, v4, v5, v6, v7, v8, v9] (.ref (a + 16) :: r) (am_toH σ) 0 0 Q := e_getR am_h92 dX8_eyes_158 fl_8_154 (is5 hr) rfl
theorem x92_161 : AW sv 92 161 [v0, .int x, v2, v3, v4, v5, v6, v7, v8, v9] r h 0 0 Q = AW sv 92 162 [v0, .int x, v2, v3, v4, v5, v6, v7, v8, v9] (.int x :: r) h 0 0 Q := e_pv am_h92 dX8_eyes_161 rfl rfl rfl rfl
theorem x92_162 : AW sv 92 162 [v0, v1, v2, v3, v4, v5, v6, v7, .int x, v9] r h 0 0 Q = AW sv 92 164 [v0, v1, v2, v3, v4, v5, v6, v7, .int x, v9] (.int x :: r) h 0 0 Q := e_pv am_h92 dX8_eyes_162 rfl rfl rfl rfl
theorem x92_164 : AW sv 92 164 [v0, v1, v2, v3, v4, v5, v6, v7, v8, v9] (.int y :: .int x :: r) h 0 0 Q = AW sv 92 165 [v0, v1, v2, v3, v4, v5, v6, v7, v8, v9] (.int (x + y) :: r) h 0 0 Q := e_iadd am_h92 dX8_eyes_164
theorem x92_165 : AW sv 92 165 [v0, v1, v2, v3, v4, v5, v6, v7, v8, .int x] r h 0 0 Q = AW sv 92 167 [v0, v1, v2, v3, v4, v5, v6, v7, v8, .int x] (.int x :: r) h 0 0 Q := e_pv am_h92 dX8_eyes_165 rfl rfl rfl rfl
theorem x92_167 (hr : am_St a) (h8 : am_cs r ≤ 8) : AW sv 92 167 [v0, v1, v2, v3, v4, v5, v6, v7, v8, v9] (.int x1 :: .int x0 :: .ref (a + 16) :: r) (am_toH σ) 0 0 Q = AM sv 13 [.ref (a + 16), .int x0, .int x1] (am_toH σ) (fun v h1 => AW sv 92 170 [v0, v1, v2, v3, v4, v5, v6, v7, v8, v9] (v.toList ++ r) h1 0 0 Q) := e_cV (as := [.int x0, .int x1]) am_h92 dX8_eyes_167 ml_8_231 (by decide) am_h13 rfl (is2 hr) rfl rfl ⟨by decide, Nat.le_of_ble_eq_true rfl, am_rc_of (by decide) h8⟩
theorem x92_170 (hc : v7.category = 1) : AW sv 92 170 [v0, v1, v2, v3, v4, v5, v6, v7, .int x, v9] r h 0 0 Q = AW sv 92 173 [v0, v1, v2, v3, v4, v5, v6, v7, .int (x + (1)), v9] r h 0 0 Q := e_pv am_h92 dX8_eyes_170 rfl rfl rfl (am_inc_of (ls := [v0, v1, v2, v3, v4, v5, v6, v7, .int x, v9]) (k := 8) rfl c_iconst_1 (am_c1_of (ls := [v0, v1, v2, v3, v4, v5, v6, v7, .int x, v9]) (k := 7) (v := v7) rfl hc))
theorem x92_173 : AW sv 92 173 [v0, v1, v2, v3, v4, v5, v6, v7, v8, v9] r h 0 0 Q = AW sv 92 126 [v0, v1, v2, v3, v4, v5, v6, v7, v8, v9] r h 0 0 Q := e_goto am_h92 dX8_eyes_173 rfl
theorem x92_176 : AW sv 92 176 [v0, v1, v2, v3, v4, v5, v6, .int x, v8, v9] r h 0 0 Q = AW sv 92 178 [v0, v1, v2, v3, v4, v5, v6, .int x, v8, v9] (.int x :: r) h 0 0 Q := e_pv am_h92 dX8_eyes_176 rfl rfl rfl rfl
theorem x92_178 : AW sv 92 178 [v0, v1, v2, v3, v4, v5, v6, v7, v8, v9] [.int x] h 0 0 Q = Q (some (.int x)) h := e_iret am_h92 dX8_eyes_178 rfl ⟨rfl, rfl⟩
theorem n92 : AM sv 92 [.ref a, .int x0, .int x1, .int x2, .int x3, .int x4] h Q = AW sv 92 0 [.ref a, .int x0, .int x1, .int x2, .int x3, .int x4, .null, .null, .null, .null] [] h 0 0 Q := rfl
theorem x93_0 : AW sv 93 0 [v0, .int x, v2, v3] r h 0 0 Q = AW sv 93 1 [v0, .int x, v2, v3] (.int x :: r) h 0 0 Q := e_pv am_h93 dX8_sheet_0 rfl rfl rfl rfl
theorem x93_1 : AW sv 93 1 [v0, v1, v2, v3] r h 0 0 Q = AW sv 93 2 [v0, v1, v2, v3] (.int (4) :: r) h 0 0 Q := e_iconstv am_h93 dX8_sheet_1 c_iconst_4
theorem x93_2 (h8 : am_cs r ≤ 8) : AW sv 93 2 [v0, v1, v2, v3] (.int x1 :: .int x0 :: r) h 0 0 Q = AM sv 97 [.int x0, .int x1] h (fun v h1 => AW sv 93 5 [v0, v1, v2, v3] (v.toList ++ r) h1 0 0 Q) := e_cS (as := [.int x0, .int x1]) am_h93 dX8_sheet_2 ml_8_40 (by decide) am_h97 rfl rfl rfl ⟨by decide, Nat.le_of_ble_eq_true rfl, am_rc_of (by decide) h8⟩
theorem x93_5 : AW sv 93 5 [v0, v1, v2, v3] (.int x :: r) h 0 0 Q = if x = 0 then AW sv 93 22 [v0, v1, v2, v3] r h 0 0 Q else AW sv 93 8 [v0, v1, v2, v3] r h 0 0 Q := e_z_eq am_h93 dX8_sheet_5 rfl
theorem x93_8 : AW sv 93 8 [v0, v1, .int x, v3] r h 0 0 Q = AW sv 93 9 [v0, v1, .int x, v3] (.int x :: r) h 0 0 Q := e_pv am_h93 dX8_sheet_8 rfl rfl rfl rfl
theorem x93_9 : AW sv 93 9 [v0, v1, v2, v3] r h 0 0 Q = AW sv 93 10 [v0, v1, v2, v3] (.int (3) :: r) h 0 0 Q := e_iconstv am_h93 dX8_sheet_9 c_iconst_3
theorem x93_10 (h8 : am_cs r ≤ 8) : AW sv 93 10 [v0, v1, v2, v3] (.int x1 :: .int x0 :: r) h 0 0 Q = AM sv 97 [.int x0, .int x1] h (fun v h1 => AW sv 93 13 [v0, v1, v2, v3] (v.toList ++ r) h1 0 0 Q) := e_cS (as := [.int x0, .int x1]) am_h93 dX8_sheet_10 ml_8_40 (by decide) am_h97 rfl rfl rfl ⟨by decide, Nat.le_of_ble_eq_true rfl, am_rc_of (by decide) h8⟩
theorem x93_13 : AW sv 93 13 [v0, v1, v2, v3] (.int x :: r) h 0 0 Q = if x = 0 then AW sv 93 22 [v0, v1, v2, v3] r h 0 0 Q else AW sv 93 16 [v0, v1, v2, v3] r h 0 0 Q := e_z_eq am_h93 dX8_sheet_13 rfl
theorem x93_16 : AW sv 93 16 [v0, v1, v2, .int x] r h 0 0 Q = AW sv 93 17 [v0, v1, v2, .int x] (.int x :: r) h 0 0 Q := e_pv am_h93 dX8_sheet_16 rfl rfl rfl rfl
theorem x93_17 : AW sv 93 17 [v0, v1, v2, v3] r h 0 0 Q = AW sv 93 19 [v0, v1, v2, v3] (.int (16) :: r) h 0 0 Q := e_bipushv am_h93 dX8_sheet_17 c_bipush_16
theorem x93_19 : AW sv 93 19 [v0, v1, v2, v3] (.int y :: .int x :: r) h 0 0 Q = if x ≤ y then AW sv 93 24 [v0, v1, v2, v3] r h 0 0 Q else AW sv 93 22 [v0, v1, v2, v3] r h 0 0 Q := e_c_le am_h93 dX8_sheet_19 rfl
theorem x93_22 : AW sv 93 22 [v0, v1, v2, v3] r h 0 0 Q = AW sv 93 23 [v0, v1, v2, v3] (.int (-1) :: r) h 0 0 Q := e_iconstv am_h93 dX8_sheet_22 c_iconst_m1
theorem x93_23 : AW sv 93 23 [v0, v1, v2, v3] [.int x] h 0 0 Q = Q (some (.int x)) h := e_iret am_h93 dX8_sheet_23 rfl ⟨rfl, rfl⟩
theorem x93_24 : AW sv 93 24 [v0, v1, v2, .int x] r h 0 0 Q = AW sv 93 25 [v0, v1, v2, .int x] (.int x :: r) h 0 0 Q := e_pv am_h93 dX8_sheet_24 rfl rfl rfl rfl
theorem x93_25 : AW sv 93 25 [v0, v1, v2, v3] (.int x :: r) h 0 0 Q = if 0 ≤ x then AW sv 93 31 [v0, v1, v2, v3] r h 0 0 Q else AW sv 93 28 [v0, v1, v2, v3] r h 0 0 Q := e_z_ge am_h93 dX8_sheet_25 rfl
theorem x93_28 : AW sv 93 28 [v0, v1, v2, v3] r h 0 0 Q = AW sv 93 30 [v0, v1, v2, v3] (.int (-14) :: r) h 0 0 Q := e_bipushv am_h93 dX8_sheet_28 c_bipush_m14
theorem x93_30 : AW sv 93 30 [v0, v1, v2, v3] [.int x] h 0 0 Q = Q (some (.int x)) h := e_iret am_h93 dX8_sheet_30 rfl ⟨rfl, rfl⟩
theorem x93_31 : AW sv 93 31 [.ref a, v1, v2, v3] r h 0 0 Q = AW sv 93 32 [.ref a, v1, v2, v3] (.ref a :: r) h 0 0 Q := e_pv am_h93 dX8_sheet_31 rfl rfl rfl rfl
theorem x93_32 : AW sv 93 32 [v0, v1, v2, v3] (.ref 0 :: r) (am_toH σ) 0 0 Q = AW sv 93 35 [v0, v1, v2, v3] (.ref 67 :: r) (am_toH σ) 0 0 Q := e_getR am_h93 dX8_sheet_32 fl_8_36 is8 rfl
theorem x93_35 : AW sv 93 35 [v0, .int x, v2, v3] r h 0 0 Q = AW sv 93 36 [v0, .int x, v2, v3] (.int x :: r) h 0 0 Q := e_pv am_h93 dX8_sheet_35 rfl rfl rfl rfl
theorem x93_36 : AW sv 93 36 [v0, v1, .int x, v3] r h 0 0 Q = AW sv 93 37 [v0, v1, .int x, v3] (.int x :: r) h 0 0 Q := e_pv am_h93 dX8_sheet_36 rfl rfl rfl rfl
theorem x93_37 : AW sv 93 37 [v0, v1, v2, .int x] r h 0 0 Q = AW sv 93 38 [v0, v1, v2, .int x] (.int x :: r) h 0 0 Q := e_pv am_h93 dX8_sheet_37 rfl rfl rfl rfl
theorem x93_38 (h8 : am_cs r ≤ 8) : AW sv 93 38 [v0, v1, v2, v3] (.int x2 :: .int x1 :: .int x0 :: .ref 67 :: r) (am_toH σ) 0 0 Q = AM sv 22 [.ref 67, .int x0, .int x1, .int x2] (am_toH σ) (fun v h1 => AW sv 93 41 [v0, v1, v2, v3] (v.toList ++ r) h1 0 0 Q) := e_cV (as := [.int x0, .int x1, .int x2]) am_h93 dX8_sheet_38 ml_8_262 (by decide) am_h22 rfl is4 rfl rfl ⟨by decide, Nat.le_of_ble_eq_true rfl, am_rc_of (by decide) h8⟩
theorem x93_41 : AW sv 93 41 [v0, v1, v2, .int x] r h 0 0 Q = AW sv 93 42 [v0, v1, v2, .int x] (.int x :: r) h 0 0 Q := e_pv am_h93 dX8_sheet_41 rfl rfl rfl rfl
theorem x93_42 : AW sv 93 42 [v0, v1, v2, v3] [.int x] h 0 0 Q = Q (some (.int x)) h := e_iret am_h93 dX8_sheet_42 rfl ⟨rfl, rfl⟩
theorem n93 : AM sv 93 [.ref a, .int x0, .int x1, .int x2] h Q = AW sv 93 0 [.ref a, .int x0, .int x1, .int x2] [] h 0 0 Q := rfl
theorem x94_0 : AW sv 94 0 [v0, .int x] r h 0 0 Q = AW sv 94 1 [v0, .int x] (.int x :: r) h 0 0 Q := e_pv am_h94 dX8_drop_0 rfl rfl rfl rfl
theorem x94_1 : AW sv 94 1 [v0, v1] r h 0 0 Q = AW sv 94 2 [v0, v1] (.int (4) :: r) h 0 0 Q := e_iconstv am_h94 dX8_drop_1 c_iconst_4
theorem x94_2 (h8 : am_cs r ≤ 8) : AW sv 94 2 [v0, v1] (.int x1 :: .int x0 :: r) h 0 0 Q = AM sv 97 [.int x0, .int x1] h (fun v h1 => AW sv 94 5 [v0, v1] (v.toList ++ r) h1 0 0 Q) := e_cS (as := [.int x0, .int x1]) am_h94 dX8_drop_2 ml_8_40 (by decide) am_h97 rfl rfl rfl ⟨by decide, Nat.le_of_ble_eq_true rfl, am_rc_of (by decide) h8⟩
theorem x94_5 : AW sv 94 5 [v0, v1] (.int x :: r) h 0 0 Q = if ¬ x = 0 then AW sv 94 10 [v0, v1] r h 0 0 Q else AW sv 94 8 [v0, v1] r h 0 0 Q := e_z_ne am_h94 dX8_drop_5 rfl
theorem x94_8 : AW sv 94 8 [v0, v1] r h 0 0 Q = AW sv 94 9 [v0, v1] (.int (-1) :: r) h 0 0 Q := e_iconstv am_h94 dX8_drop_8 c_iconst_m1
theorem x94_9 : AW sv 94 9 [v0, v1] [.int x] h 0 0 Q = Q (some (.int x)) h := e_iret am_h94 dX8_drop_9 rfl ⟨rfl, rfl⟩
theorem x94_10 : AW sv 94 10 [.ref a, v1] r h 0 0 Q = AW sv 94 11 [.ref a, v1] (.ref a :: r) h 0 0 Q := e_pv am_h94 dX8_drop_10 rfl rfl rfl rfl
theorem x94_11 : AW sv 94 11 [v0, v1] (.ref 0 :: r) (am_toH σ) 0 0 Q = AW sv 94 14 [v0, v1] (.ref 67 :: r) (am_toH σ) 0 0 Q := e_getR am_h94 dX8_drop_11 fl_8_36 is8 rfl
theorem x94_14 : AW sv 94 14 [v0, .int x] r h 0 0 Q = AW sv 94 15 [v0, .int x] (.int x :: r) h 0 0 Q := e_pv am_h94 dX8_drop_14 rfl rfl rfl rfl
theorem x94_15 (h8 : am_cs r ≤ 8) : AW sv 94 15 [v0, v1] (.int x0 :: .ref 67 :: r) (am_toH σ) 0 0 Q = AM sv 19 [.ref 67, .int x0] (am_toH σ) (fun v h1 => AW sv 94 18 [v0, v1] (v.toList ++ r) h1 0 0 Q) := e_cV (as := [.int x0]) am_h94 dX8_drop_15 ml_8_266 (by decide) am_h19 rfl is4 rfl rfl ⟨by decide, Nat.le_of_ble_eq_true rfl, am_rc_of (by decide) h8⟩
theorem x94_18 : AW sv 94 18 [v0, v1] (.int x :: r) h 0 0 Q = if x = 0 then AW sv 94 24 [v0, v1] r h 0 0 Q else AW sv 94 21 [v0, v1] r h 0 0 Q := e_z_eq am_h94 dX8_drop_18 rfl
theorem x94_21 : AW sv 94 21 [v0, v1] r h 0 0 Q = AW sv 94 23 [v0, v1] (.int (-11) :: r) h 0 0 Q := e_bipushv am_h94 dX8_drop_21 c_bipush_m11
theorem x94_23 : AW sv 94 23 [v0, v1] [.int x] h 0 0 Q = Q (some (.int x)) h := e_iret am_h94 dX8_drop_23 rfl ⟨rfl, rfl⟩
theorem x94_24 : AW sv 94 24 [.ref a, v1] r h 0 0 Q = AW sv 94 25 [.ref a, v1] (.ref a :: r) h 0 0 Q := e_pv am_h94 dX8_drop_24 rfl rfl rfl rfl
theorem x94_25 : AW sv 94 25 [v0, v1] (.ref 0 :: r) (am_toH σ) 0 0 Q = AW sv 94 28 [v0, v1] (.ref 67 :: r) (am_toH σ) 0 0 Q := e_getR am_h94 dX8_drop_25 fl_8_36 is8 rfl
theorem x94_28 : AW sv 94 28 [v0, v1] (.ref 67 :: r) (am_toH σ) 0 0 Q = AW sv 94 31 [v0, v1] (.ref 68 :: r) (am_toH σ) 0 0 Q := e_getR am_h94 dX8_drop_28 fl_8_269 is4 rfl
theorem x94_31 : AW sv 94 31 [v0, .int x] r h 0 0 Q = AW sv 94 32 [v0, .int x] (.int x :: r) h 0 0 Q := e_pv am_h94 dX8_drop_31 rfl rfl rfl rfl
theorem x94_32 : AW sv 94 32 [v0, v1] r h 0 0 Q = AW sv 94 33 [v0, v1] (.int (-1) :: r) h 0 0 Q := e_iconstv am_h94 dX8_drop_32 c_iconst_m1
theorem x94_33 (hi : am_in y (am_ln a) = true) : AW sv 94 33 [v0, v1] (.int x :: .int y :: .ref a :: r) (am_toH σ) 0 0 Q = AW sv 94 34 [v0, v1] r (am_toH (am_wr σ a (upd (σ.1 a) y.toNatClampNeg x))) 0 0 Q := e_iast am_h94 dX8_drop_33 hi
theorem x94_34 : AW sv 94 34 [.ref a, v1] r h 0 0 Q = AW sv 94 35 [.ref a, v1] (.ref a :: r) h 0 0 Q := e_pv am_h94 dX8_drop_34 rfl rfl rfl rfl
theorem x94_35 : AW sv 94 35 [v0, v1] (.ref 0 :: r) (am_toH σ) 0 0 Q = AW sv 94 38 [v0, v1] (.ref 67 :: r) (am_toH σ) 0 0 Q := e_getR am_h94 dX8_drop_35 fl_8_36 is8 rfl
theorem x94_38 : AW sv 94 38 [v0, v1] (.ref 67 :: r) (am_toH σ) 0 0 Q = AW sv 94 41 [v0, v1] (.ref 69 :: r) (am_toH σ) 0 0 Q := e_getR am_h94 dX8_drop_38 fl_8_272 is4 rfl
theorem x94_41 : AW sv 94 41 [v0, .int x] r h 0 0 Q = AW sv 94 42 [v0, .int x] (.int x :: r) h 0 0 Q := e_pv am_h94 dX8_drop_41 rfl rfl rfl rfl
theorem x94_42 (hi : am_in x (am_ln a) = true) : AW sv 94 42 [v0, v1] (.int x :: .ref a :: r) (am_toH σ) 0 0 Q = AW sv 94 43 [v0, v1] (.int (σ.1 a x.toNatClampNeg) :: r) (am_toH σ) 0 0 Q := e_iald am_h94 dX8_drop_42 hi
theorem x94_43 : AW sv 94 43 [v0, v1] [.int x] h 0 0 Q = Q (some (.int x)) h := e_iret am_h94 dX8_drop_43 rfl ⟨rfl, rfl⟩
theorem n94 : AM sv 94 [.ref a, .int x0] h Q = AW sv 94 0 [.ref a, .int x0] [] h 0 0 Q := rfl
theorem x95_0 : AW sv 95 0 [v0, .int x, v2, v3, v4, v5] r h 0 0 Q = AW sv 95 1 [v0, .int x, v2, v3, v4, v5] (.int x :: r) h 0 0 Q := e_pv am_h95 dX8_item_0 rfl rfl rfl rfl
theorem x95_1 : AW sv 95 1 [v0, v1, v2, v3, v4, v5] r h 0 0 Q = AW sv 95 2 [v0, v1, v2, v3, v4, v5] (.int (4) :: r) h 0 0 Q := e_iconstv am_h95 dX8_item_1 c_iconst_4
theorem x95_2 (h8 : am_cs r ≤ 8) : AW sv 95 2 [v0, v1, v2, v3, v4, v5] (.int x1 :: .int x0 :: r) h 0 0 Q = AM sv 97 [.int x0, .int x1] h (fun v h1 => AW sv 95 5 [v0, v1, v2, v3, v4, v5] (v.toList ++ r) h1 0 0 Q) := e_cS (as := [.int x0, .int x1]) am_h95 dX8_item_2 ml_8_40 (by decide) am_h97 rfl rfl rfl ⟨by decide, Nat.le_of_ble_eq_true rfl, am_rc_of (by decide) h8⟩
theorem x95_5 : AW sv 95 5 [v0, v1, v2, v3, v4, v5] (.int x :: r) h 0 0 Q = if x = 0 then AW sv 95 16 [v0, v1, v2, v3, v4, v5] r h 0 0 Q else AW sv 95 8 [v0, v1, v2, v3, v4, v5] r h 0 0 Q := e_z_eq am_h95 dX8_item_5 rfl
theorem x95_8 : AW sv 95 8 [v0, v1, .int x, v3, v4, v5] r h 0 0 Q = AW sv 95 9 [v0, v1, .int x, v3, v4, v5] (.int x :: r) h 0 0 Q := e_pv am_h95 dX8_item_8 rfl rfl rfl rfl
theorem x95_9 : AW sv 95 9 [v0, v1, v2, v3, v4, v5] r h 0 0 Q = AW sv 95 10 [v0, v1, v2, v3, v4, v5] (.int (3) :: r) h 0 0 Q := e_iconstv am_h95 dX8_item_9 c_iconst_3
theorem x95_10 (h8 : am_cs r ≤ 8) : AW sv 95 10 [v0, v1, v2, v3, v4, v5] (.int x1 :: .int x0 :: r) h 0 0 Q = AM sv 97 [.int x0, .int x1] h (fun v h1 => AW sv 95 13 [v0, v1, v2, v3, v4, v5] (v.toList ++ r) h1 0 0 Q) := e_cS (as := [.int x0, .int x1]) am_h95 dX8_item_10 ml_8_40 (by decide) am_h97 rfl rfl rfl ⟨by decide, Nat.le_of_ble_eq_true rfl, am_rc_of (by decide) h8⟩
theorem x95_13 : AW sv 95 13 [v0, v1, v2, v3, v4, v5] (.int x :: r) h 0 0 Q = if ¬ x = 0 then AW sv 95 18 [v0, v1, v2, v3, v4, v5] r h 0 0 Q else AW sv 95 16 [v0, v1, v2, v3, v4, v5] r h 0 0 Q := e_z_ne am_h95 dX8_item_13 rfl
theorem x95_16 : AW sv 95 16 [v0, v1, v2, v3, v4, v5] r h 0 0 Q = AW sv 95 17 [v0, v1, v2, v3, v4, v5] (.int (-1) :: r) h 0 0 Q := e_iconstv am_h95 dX8_item_16 c_iconst_m1
theorem x95_17 : AW sv 95 17 [v0, v1, v2, v3, v4, v5] [.int x] h 0 0 Q = Q (some (.int x)) h := e_iret am_h95 dX8_item_17 rfl ⟨rfl, rfl⟩
theorem x95_18 : AW sv 95 18 [.ref a, v1, v2, v3, v4, v5] r h 0 0 Q = AW sv 95 19 [.ref a, v1, v2, v3, v4, v5] (.ref a :: r) h 0 0 Q := e_pv am_h95 dX8_item_18 rfl rfl rfl rfl
theorem x95_19 : AW sv 95 19 [v0, v1, v2, v3, v4, v5] (.ref 0 :: r) (am_toH σ) 0 0 Q = AW sv 95 22 [v0, v1, v2, v3, v4, v5] (.ref 67 :: r) (am_toH σ) 0 0 Q := e_getR am_h95 dX8_item_19 fl_8_36 is8 rfl
theorem x95_22 : AW sv 95 22 [v0, .int x, v2, v3, v4, v5] r h 0 0 Q = AW sv 95 23 [v0, .int x, v2, v3, v4, v5] (.int x :: r) h 0 0 Q := e_pv am_h95 dX8_item_22 rfl rfl rfl rfl
theorem x95_23 : AW sv 95 23 [v0, v1, .int x, v3, v4, v5] r h 0 0 Q = AW sv 95 24 [v0, v1, .int x, v3, v4, v5] (.int x :: r) h 0 0 Q := e_pv am_h95 dX8_item_23 rfl rfl rfl rfl
theorem x95_24 (h8 : am_cs r ≤ 8) : AW sv 95 24 [v0, v1, v2, v3, v4, v5] (.int x1 :: .int x0 :: .ref 67 :: r) (am_toH σ) 0 0 Q = AM sv 20 [.ref 67, .int x0, .int x1] (am_toH σ) (fun v h1 => AW sv 95 27 [v0, v1, v2, v3, v4, v5] (v.toList ++ r) h1 0 0 Q) := e_cV (as := [.int x0, .int x1]) am_h95 dX8_item_24 ml_8_249 (by decide) am_h20 rfl is4 rfl rfl ⟨by decide, Nat.le_of_ble_eq_true rfl, am_rc_of (by decide) h8⟩
theorem x95_27 (hc : v4.category = 1) : AW sv 95 27 [v0, v1, v2, v3, v4, v5] (.int x :: r) h 0 0 Q = AW sv 95 29 [v0, v1, v2, v3, v4, .int x] r h 0 0 Q := e_pv am_h95 dX8_item_27 rfl rfl rfl (am_sti_of (Nat.le_of_ble_eq_true rfl) (am_c1_of rfl hc))
theorem x95_29 : AW sv 95 29 [v0, v1, v2, v3, v4, .int x] r h 0 0 Q = AW sv 95 31 [v0, v1, v2, v3, v4, .int x] (.int x :: r) h 0 0 Q := e_pv am_h95 dX8_item_29 rfl rfl rfl rfl
theorem x95_31 : AW sv 95 31 [v0, v1, v2, v3, v4, v5] (.int x :: r) h 0 0 Q = if x = 0 then AW sv 95 37 [v0, v1, v2, v3, v4, v5] r h 0 0 Q else AW sv 95 34 [v0, v1, v2, v3, v4, v5] r h 0 0 Q := e_z_eq am_h95 dX8_item_31 rfl
theorem x95_34 : AW sv 95 34 [v0, v1, v2, v3, v4, .int x] r h 0 0 Q = AW sv 95 36 [v0, v1, v2, v3, v4, .int x] (.int x :: r) h 0 0 Q := e_pv am_h95 dX8_item_34 rfl rfl rfl rfl
theorem x95_36 : AW sv 95 36 [v0, v1, v2, v3, v4, v5] [.int x] h 0 0 Q = Q (some (.int x)) h := e_iret am_h95 dX8_item_36 rfl ⟨rfl, rfl⟩
theorem x95_37 : AW sv 95 37 [.ref a, v1, v2, v3, v4, v5] r h 0 0 Q = AW sv 95 38 [.ref a, v1, v2, v3, v4, v5] (.ref a :: r) h 0 0 Q := e_pv am_h95 dX8_item_37 rfl rfl rfl rfl
theorem x95_38 : AW sv 95 38 [v0, v1, v2, v3, v4, v5] (.ref 0 :: r) (am_toH σ) 0 0 Q = AW sv 95 41 [v0, v1, v2, v3, v4, v5] (.ref 67 :: r) (am_toH σ) 0 0 Q := e_getR am_h95 dX8_item_38 fl_8_36 is8 rfl
theorem x95_41 : AW sv 95 41 [v0, .int x, v2, v3, v4, v5] r h 0 0 Q = AW sv 95 42 [v0, .int x, v2, v3, v4, v5] (.int x :: r) h 0 0 Q := e_pv am_h95 dX8_item_41 rfl rfl rfl rfl
theorem x95_42 : AW sv 95 42 [v0, v1, v2, .int x, v4, v5] r h 0 0 Q = AW sv 95 43 [v0, v1, v2, .int x, v4, v5] (.int x :: r) h 0 0 Q := e_pv am_h95 dX8_item_42 rfl rfl rfl rfl
theorem x95_43 : AW sv 95 43 [v0, v1, v2, v3, v4, v5] r h 0 0 Q = AW sv 95 44 [v0, v1, v2, v3, v4, v5] (.int (1) :: r) h 0 0 Q := e_iconstv am_h95 dX8_item_43 c_iconst_1
theorem x95_44 (h8 : am_cs r ≤ 8) : AW sv 95 44 [v0, v1, v2, v3, v4, v5] (.int x2 :: .int x1 :: .int x0 :: .ref 67 :: r) (am_toH σ) 0 0 Q = AM sv 21 [.ref 67, .int x0, .int x1, .int x2] (am_toH σ) (fun v h1 => AW sv 95 47 [v0, v1, v2, v3, v4, v5] (v.toList ++ r) h1 0 0 Q) := e_cV (as := [.int x0, .int x1, .int x2]) am_h95 dX8_item_44 ml_8_252 (by decide) am_h21 rfl is4 rfl rfl ⟨by decide, Nat.le_of_ble_eq_true rfl, am_rc_of (by decide) h8⟩
theorem x95_47 : AW sv 95 47 [v0, v1, v2, v3, v4, v5] (.int x :: r) h 0 0 Q = if ¬ x = 0 then AW sv 95 53 [v0, v1, v2, v3, v4, v5] r h 0 0 Q else AW sv 95 50 [v0, v1, v2, v3, v4, v5] r h 0 0 Q := e_z_ne am_h95 dX8_item_47 rfl
theorem x95_50 : AW sv 95 50 [v0, v1, v2, v3, v4, v5] r h 0 0 Q = AW sv 95 52 [v0, v1, v2, v3, v4, v5] (.int (-13) :: r) h 0 0 Q := e_bipushv am_h95 dX8_item_50 c_bipush_m13
theorem x95_52 : AW sv 95 52 [v0, v1, v2, v3, v4, v5] [.int x] h 0 0 Q = Q (some (.int x)) h := e_iret am_h95 dX8_item_52 rfl ⟨rfl, rfl⟩
theorem x95_53 : AW sv 95 53 [.ref a, v1, v2, v3, v4, v5] r h 0 0 Q = AW sv 95 54 [.ref a, v1, v2, v3, v4, v5] (.ref a :: r) h 0 0 Q := e_pv am_h95 dX8_item_53 rfl rfl rfl rfl
theorem x95_54 : AW sv 95 54 [v0, v1, v2, v3, v4, v5] (.ref 0 :: r) (am_toH σ) 0 0 Q = AW sv 95 57 [v0, v1, v2, v3, v4, v5] (.ref 67 :: r) (am_toH σ) 0 0 Q := e_getR am_h95 dX8_item_54 fl_8_36 is8 rfl
theorem x95_57 : AW sv 95 57 [v0, .int x, v2, v3, v4, v5] r h 0 0 Q = AW sv 95 58 [v0, .int x, v2, v3, v4, v5] (.int x :: r) h 0 0 Q := e_pv am_h95 dX8_item_57 rfl rfl rfl rfl
theorem x95_58 : AW sv 95 58 [v0, v1, v2, .int x, v4, v5] r h 0 0 Q = AW sv 95 59 [v0, v1, v2, .int x, v4, v5] (.int x :: r) h 0 0 Q := e_pv am_h95 dX8_item_58 rfl rfl rfl rfl
theorem x95_59 : AW sv 95 59 [v0, v1, v2, v3, .int x, v5] r h 0 0 Q = AW sv 95 61 [v0, v1, v2, v3, .int x, v5] (.int x :: r) h 0 0 Q := e_pv am_h95 dX8_item_59 rfl rfl rfl rfl
theorem x95_61 (h8 : am_cs r ≤ 8) : AW sv 95 61 [v0, v1, v2, v3, v4, v5] (.int x2 :: .int x1 :: .int x0 :: .ref 67 :: r) (am_toH σ) 0 0 Q = AM sv 24 [.ref 67, .int x0, .int x1, .int x2] (am_toH σ) (fun v h1 => AW sv 95 64 [v0, v1, v2, v3, v4, v5] (v.toList ++ r) h1 0 0 Q) := e_cV (as := [.int x0, .int x1, .int x2]) am_h95 dX8_item_61 ml_8_275 (by decide) am_h24 rfl is4 rfl rfl ⟨by decide, Nat.le_of_ble_eq_true rfl, am_rc_of (by decide) h8⟩
theorem x95_64 : AW sv 95 64 [v0, v1, v2, v3, v4, v5] r h 0 0 Q = AW sv 95 65 [v0, v1, v2, v3, v4, v5] (.int (1) :: r) h 0 0 Q := e_iconstv am_h95 dX8_item_64 c_iconst_1
theorem x95_65 : AW sv 95 65 [v0, v1, v2, v3, v4, v5] [.int x] h 0 0 Q = Q (some (.int x)) h := e_iret am_h95 dX8_item_65 rfl ⟨rfl, rfl⟩
theorem n95 : AM sv 95 [.ref a, .int x0, .int x1, .int x2, .int x3] h Q = AW sv 95 0 [.ref a, .int x0, .int x1, .int x2, .int x3, .null] [] h 0 0 Q := rfl
theorem x96_0 : AW sv 96 0 [v0, .int x, v2, v3, v4, v5] r h 0 0 Q = AW sv 96 1 [v0, .int x, v2, v3, v4, v5] (.int x :: r) h 0 0 Q := e_pv am_h96 dX8_copy_0 rfl rfl rfl rfl
theorem x96_1 : AW sv 96 1 [v0, v1, v2, v3, v4, v5] r h 0 0 Q = AW sv 96 2 [v0, v1, v2, v3, v4, v5] (.int (4) :: r) h 0 0 Q := e_iconstv am_h96 dX8_copy_1 c_iconst_4
theorem x96_2 (h8 : am_cs r ≤ 8) : AW sv 96 2 [v0, v1, v2, v3, v4, v5] (.int x1 :: .int x0 :: r) h 0 0 Q = AM sv 97 [.int x0, .int x1] h (fun v h1 => AW sv 96 5 [v0, v1, v2, v3, v4, v5] (v.toList ++ r) h1 0 0 Q) := e_cS (as := [.int x0, .int x1]) am_h96 dX8_copy_2 ml_8_40 (by decide) am_h97 rfl rfl rfl ⟨by decide, Nat.le_of_ble_eq_true rfl, am_rc_of (by decide) h8⟩
theorem x96_5 : AW sv 96 5 [v0, v1, v2, v3, v4, v5] (.int x :: r) h 0 0 Q = if x = 0 then AW sv 96 16 [v0, v1, v2, v3, v4, v5] r h 0 0 Q else AW sv 96 8 [v0, v1, v2, v3, v4, v5] r h 0 0 Q := e_z_eq am_h96 dX8_copy_5 rfl
theorem x96_8 : AW sv 96 8 [v0, v1, v2, .int x, v4, v5] r h 0 0 Q = AW sv 96 9 [v0, v1, v2, .int x, v4, v5] (.int x :: r) h 0 0 Q := e_pv am_h96 dX8_copy_8 rfl rfl rfl rfl
theorem x96_9 : AW sv 96 9 [v0, v1, v2, v3, v4, v5] r h 0 0 Q = AW sv 96 10 [v0, v1, v2, v3, v4, v5] (.int (4) :: r) h 0 0 Q := e_iconstv am_h96 dX8_copy_9 c_iconst_4
theorem x96_10 (h8 : am_cs r ≤ 8) : AW sv 96 10 [v0, v1, v2, v3, v4, v5] (.int x1 :: .int x0 :: r) h 0 0 Q = AM sv 97 [.int x0, .int x1] h (fun v h1 => AW sv 96 13 [v0, v1, v2, v3, v4, v5] (v.toList ++ r) h1 0 0 Q) := e_cS (as := [.int x0, .int x1]) am_h96 dX8_copy_10 ml_8_40 (by decide) am_h97 rfl rfl rfl ⟨by decide, Nat.le_of_ble_eq_true rfl, am_rc_of (by decide) h8⟩
theorem x96_13 : AW sv 96 13 [v0, v1, v2, v3, v4, v5] (.int x :: r) h 0 0 Q = if ¬ x = 0 then AW sv 96 18 [v0, v1, v2, v3, v4, v5] r h 0 0 Q else AW sv 96 16 [v0, v1, v2, v3, v4, v5] r h 0 0 Q := e_z_ne am_h96 dX8_copy_13 rfl
theorem x96_16 : AW sv 96 16 [v0, v1, v2, v3, v4, v5] r h 0 0 Q = AW sv 96 17 [v0, v1, v2, v3, v4, v5] (.int (-1) :: r) h 0 0 Q := e_iconstv am_h96 dX8_copy_16 c_iconst_m1
theorem x96_17 : AW sv 96 17 [v0, v1, v2, v3, v4, v5] [.int x] h 0 0 Q = Q (some (.int x)) h := e_iret am_h96 dX8_copy_17 rfl ⟨rfl, rfl⟩
theorem x96_18 : AW sv 96 18 [.ref a, v1, v2, v3, v4, v5] r h 0 0 Q = AW sv 96 19 [.ref a, v1, v2, v3, v4, v5] (.ref a :: r) h 0 0 Q := e_pv am_h96 dX8_copy_18 rfl rfl rfl rfl
theorem x96_19 : AW sv 96 19 [v0, v1, v2, v3, v4, v5] (.ref 0 :: r) (am_toH σ) 0 0 Q = AW sv 96 22 [v0, v1, v2, v3, v4, v5] (.ref 67 :: r) (am_toH σ) 0 0 Q := e_getR am_h96 dX8_copy_19 fl_8_36 is8 rfl
theorem x96_22 : AW sv 96 22 [v0, .int x, v2, v3, v4, v5] r h 0 0 Q = AW sv 96 23 [v0, .int x, v2, v3, v4, v5] (.int x :: r) h 0 0 Q := e_pv am_h96 dX8_copy_22 rfl rfl rfl rfl
theorem x96_23 (h8 : am_cs r ≤ 8) : AW sv 96 23 [v0, v1, v2, v3, v4, v5] (.int x0 :: .ref 67 :: r) (am_toH σ) 0 0 Q = AM sv 19 [.ref 67, .int x0] (am_toH σ) (fun v h1 => AW sv 96 26 [v0, v1, v2, v3, v4, v5] (v.toList ++ r) h1 0 0 Q) := e_cV (as := [.int x0]) am_h96 dX8_copy_23 ml_8_266 (by decide) am_h19 rfl is4 rfl rfl ⟨by decide, Nat.le_of_ble_eq_true rfl, am_rc_of (by decide) h8⟩
theorem x96_26 : AW sv 96 26 [v0, v1, v2, v3, v4, v5] (.int x :: r) h 0 0 Q = if ¬ x = 0 then AW sv 96 40 [v0, v1, v2, v3, v4, v5] r h 0 0 Q else AW sv 96 29 [v0, v1, v2, v3, v4, v5] r h 0 0 Q := e_z_ne am_h96 dX8_copy_26 rfl
theorem x96_29 : AW sv 96 29 [.ref a, v1, v2, v3, v4, v5] r h 0 0 Q = AW sv 96 30 [.ref a, v1, v2, v3, v4, v5] (.ref a :: r) h 0 0 Q := e_pv am_h96 dX8_copy_29 rfl rfl rfl rfl
theorem x96_30 : AW sv 96 30 [v0, v1, v2, v3, v4, v5] (.ref 0 :: r) (am_toH σ) 0 0 Q = AW sv 96 33 [v0, v1, v2, v3, v4, v5] (.ref 67 :: r) (am_toH σ) 0 0 Q := e_getR am_h96 dX8_copy_30 fl_8_36 is8 rfl
theorem x96_33 : AW sv 96 33 [v0, v1, v2, .int x, v4, v5] r h 0 0 Q = AW sv 96 34 [v0, v1, v2, .int x, v4, v5] (.int x :: r) h 0 0 Q := e_pv am_h96 dX8_copy_33 rfl rfl rfl rfl
theorem x96_34 (h8 : am_cs r ≤ 8) : AW sv 96 34 [v0, v1, v2, v3, v4, v5] (.int x0 :: .ref 67 :: r) (am_toH σ) 0 0 Q = AM sv 19 [.ref 67, .int x0] (am_toH σ) (fun v h1 => AW sv 96 37 [v0, v1, v2, v3, v4, v5] (v.toList ++ r) h1 0 0 Q) := e_cV (as := [.int x0]) am_h96 dX8_copy_34 ml_8_266 (by decide) am_h19 rfl is4 rfl rfl ⟨by decide, Nat.le_of_ble_eq_true rfl, am_rc_of (by decide) h8⟩
theorem x96_37 : AW sv 96 37 [v0, v1, v2, v3, v4, v5] (.int x :: r) h 0 0 Q = if x = 0 then AW sv 96 43 [v0, v1, v2, v3, v4, v5] r h 0 0 Q else AW sv 96 40 [v0, v1, v2, v3, v4, v5] r h 0 0 Q := e_z_eq am_h96 dX8_copy_37 rfl
theorem x96_40 : AW sv 96 40 [v0, v1, v2, v3, v4, v5] r h 0 0 Q = AW sv 96 42 [v0, v1, v2, v3, v4, v5] (.int (-11) :: r) h 0 0 Q := e_bipushv am_h96 dX8_copy_40 c_bipush_m11
theorem x96_42 : AW sv 96 42 [v0, v1, v2, v3, v4, v5] [.int x] h 0 0 Q = Q (some (.int x)) h := e_iret am_h96 dX8_copy_42 rfl ⟨rfl, rfl⟩
theorem x96_43 : AW sv 96 43 [.ref a, v1, v2, v3, v4, v5] r h 0 0 Q = AW sv 96 44 [.ref a, v1, v2, v3, v4, v5] (.ref a :: r) h 0 0 Q := e_pv am_h96 dX8_copy_43 rfl rfl rfl rfl
theorem x96_44 : AW sv 96 44 [v0, v1, v2, v3, v4, v5] (.ref 0 :: r) (am_toH σ) 0 0 Q = AW sv 96 47 [v0, v1, v2, v3, v4, v5] (.ref 67 :: r) (am_toH σ) 0 0 Q := e_getR am_h96 dX8_copy_44 fl_8_36 is8 rfl
theorem x96_47 : AW sv 96 47 [v0, v1, v2, v3, v4, v5] (.ref 67 :: r) (am_toH σ) 0 0 Q = AW sv 96 50 [v0, v1, v2, v3, v4, v5] (.ref 68 :: r) (am_toH σ) 0 0 Q := e_getR am_h96 dX8_copy_47 fl_8_269 is4 rfl
theorem x96_50 : AW sv 96 50 [v0, .int x, v2, v3, v4, v5] r h 0 0 Q = AW sv 96 51 [v0, .int x, v2, v3, v4, v5] (.int x :: r) h 0 0 Q := e_pv am_h96 dX8_copy_50 rfl rfl rfl rfl
theorem x96_51 (hi : am_in x (am_ln a) = true) : AW sv 96 51 [v0, v1, v2, v3, v4, v5] (.int x :: .ref a :: r) (am_toH σ) 0 0 Q = AW sv 96 52 [v0, v1, v2, v3, v4, v5] (.int (σ.1 a x.toNatClampNeg) :: r) (am_toH σ) 0 0 Q := e_iald am_h96 dX8_copy_51 hi
theorem x96_52 : AW sv 96 52 [.ref a, v1, v2, v3, v4, v5] r h 0 0 Q = AW sv 96 53 [.ref a, v1, v2, v3, v4, v5] (.ref a :: r) h 0 0 Q := e_pv am_h96 dX8_copy_52 rfl rfl rfl rfl
theorem x96_53 : AW sv 96 53 [v0, v1, v2, v3, v4, v5] (.ref 0 :: r) (am_toH σ) 0 0 Q = AW sv 96 56 [v0, v1, v2, v3, v4, v5] (.ref 67 :: r) (am_toH σ) 0 0 Q := e_getR am_h96 dX8_copy_53 fl_8_36 is8 rfl
theorem x96_56 : AW sv 96 56 [v0, v1, v2, v3, v4, v5] (.ref 67 :: r) (am_toH σ) 0 0 Q = AW sv 96 59 [v0, v1, v2, v3, v4, v5] (.ref 68 :: r) (am_toH σ) 0 0 Q := e_getR am_h96 dX8_copy_56 fl_8_269 is4 rfl
theorem x96_59 : AW sv 96 59 [v0, v1, v2, .int x, v4, v5] r h 0 0 Q = AW sv 96 60 [v0, v1, v2, .int x, v4, v5] (.int x :: r) h 0 0 Q := e_pv am_h96 dX8_copy_59 rfl rfl rfl rfl
theorem x96_60 (hi : am_in x (am_ln a) = true) : AW sv 96 60 [v0, v1, v2, v3, v4, v5] (.int x :: .ref a :: r) (am_toH σ) 0 0 Q = AW sv 96 61 [v0, v1, v2, v3, v4, v5] (.int (σ.1 a x.toNatClampNeg) :: r) (am_toH σ) 0 0 Q := e_iald am_h96 dX8_copy_60 hi
theorem x96_61 : AW sv 96 61 [v0, v1, v2, v3, v4, v5] (.int y :: .int x :: r) h 0 0 Q = if x = y then AW sv 96 67 [v0, v1, v2, v3, v4, v5] r h 0 0 Q else AW sv 96 64 [v0, v1, v2, v3, v4, v5] r h 0 0 Q := e_c_eq am_h96 dX8_copy_61 rfl
theorem x96_64 : AW sv 96 64 [v0, v1, v2, v3, v4, v5] r h 0 0 Q = AW sv 96 66 [v0, v1, v2, v3, v4, v5] (.int (-12) :: r) h 0 0 Q := e_bipushv am_h96 dX8_copy_64 c_bipush_m12
theorem x96_66 : AW sv 96 66 [v0, v1, v2, v3, v4, v5] [.int x] h 0 0 Q = Q (some (.int x)) h := e_iret am_h96 dX8_copy_66 rfl ⟨rfl, rfl⟩
theorem x96_67 : AW sv 96 67 [.ref a, v1, v2, v3, v4, v5] r h 0 0 Q = AW sv 96 68 [.ref a, v1, v2, v3, v4, v5] (.ref a :: r) h 0 0 Q := e_pv am_h96 dX8_copy_67 rfl rfl rfl rfl
theorem x96_68 : AW sv 96 68 [v0, v1, v2, v3, v4, v5] (.ref 0 :: r) (am_toH σ) 0 0 Q = AW sv 96 71 [v0, v1, v2, v3, v4, v5] (.ref 67 :: r) (am_toH σ) 0 0 Q := e_getR am_h96 dX8_copy_68 fl_8_36 is8 rfl
theorem x96_71 : AW sv 96 71 [v0, .int x, v2, v3, v4, v5] r h 0 0 Q = AW sv 96 72 [v0, .int x, v2, v3, v4, v5] (.int x :: r) h 0 0 Q := e_pv am_h96 dX8_copy_71 rfl rfl rfl rfl
theorem x96_72 : AW sv 96 72 [v0, v1, .int x, v3, v4, v5] r h 0 0 Q = AW sv 96 73 [v0, v1, .int x, v3, v4, v5] (.int x :: r) h 0 0 Q := e_pv am_h96 dX8_copy_72 rfl rfl rfl rfl
theorem x96_73 : AW sv 96 73 [v0, v1, v2, v3, v4, .int x] r h 0 0 Q = AW sv 96 75 [v0, v1, v2, v3, v4, .int x] (.int x :: r) h 0 0 Q := e_pv am_h96 dX8_copy_73 rfl rfl rfl rfl
theorem x96_75 (h8 : am_cs r ≤ 8) : AW sv 96 75 [v0, v1, v2, v3, v4, v5] (.int x2 :: .int x1 :: .int x0 :: .ref 67 :: r) (am_toH σ) 0 0 Q = AM sv 21 [.ref 67, .int x0, .int x1, .int x2] (am_toH σ) (fun v h1 => AW sv 96 78 [v0, v1, v2, v3, v4, v5] (v.toList ++ r) h1 0 0 Q) := e_cV (as := [.int x0, .int x1, .int x2]) am_h96 dX8_copy_75 ml_8_252 (by decide) am_h21 rfl is4 rfl rfl ⟨by decide, Nat.le_of_ble_eq_true rfl, am_rc_of (by decide) h8⟩
theorem x96_78 : AW sv 96 78 [v0, v1, v2, v3, v4, v5] (.int x :: r) h 0 0 Q = if x = 0 then AW sv 96 96 [v0, v1, v2, v3, v4, v5] r h 0 0 Q else AW sv 96 81 [v0, v1, v2, v3, v4, v5] r h 0 0 Q := e_z_eq am_h96 dX8_copy_78 rfl
theorem x96_81 : AW sv 96 81 [.ref a, v1, v2, v3, v4, v5] r h 0 0 Q = AW sv 96 82 [.ref a, v1, v2, v3, v4, v5] (.ref a :: r) h 0 0 Q := e_pv am_h96 dX8_copy_81 rfl rfl rfl rfl
theorem x96_82 : AW sv 96 82 [v0, v1, v2, v3, v4, v5] (.ref 0 :: r) (am_toH σ) 0 0 Q = AW sv 96 85 [v0, v1, v2, v3, v4, v5] (.ref 67 :: r) (am_toH σ) 0 0 Q := e_getR am_h96 dX8_copy_82 fl_8_36 is8 rfl
theorem x96_85 : AW sv 96 85 [v0, v1, v2, .int x, v4, v5] r h 0 0 Q = AW sv 96 86 [v0, v1, v2, .int x, v4, v5] (.int x :: r) h 0 0 Q := e_pv am_h96 dX8_copy_85 rfl rfl rfl rfl
theorem x96_86 : AW sv 96 86 [v0, v1, v2, v3, .int x, v5] r h 0 0 Q = AW sv 96 88 [v0, v1, v2, v3, .int x, v5] (.int x :: r) h 0 0 Q := e_pv am_h96 dX8_copy_86 rfl rfl rfl rfl
theorem x96_88 : AW sv 96 88 [v0, v1, v2, v3, v4, .int x] r h 0 0 Q = AW sv 96 90 [v0, v1, v2, v3, v4, .int x] (.int x :: r) h 0 0 Q := e_pv am_h96 dX8_copy_88 rfl rfl rfl rfl
theorem x96_90 (h8 : am_cs r ≤ 8) : AW sv 96 90 [v0, v1, v2, v3, v4, v5] (.int x2 :: .int x1 :: .int x0 :: .ref 67 :: r) (am_toH σ) 0 0 Q = AM sv 21 [.ref 67, .int x0, .int x1, .int x2] (am_toH σ) (fun v h1 => AW sv 96 93 [v0, v1, v2, v3, v4, v5] (v.toList ++ r) h1 0 0 Q) := e_cV (as := [.int x0, .int x1, .int x2]) am_h96 dX8_copy_90 ml_8_252 (by decide) am_h21 rfl is4 rfl rfl ⟨by decide, Nat.le_of_ble_eq_true rfl, am_rc_of (by decide) h8⟩
theorem x96_93 : AW sv 96 93 [v0, v1, v2, v3, v4, v5] (.int x :: r) h 0 0 Q = if ¬ x = 0 then AW sv 96 99 [v0, v1, v2, v3, v4, v5] r h 0 0 Q else AW sv 96 96 [v0, v1, v2, v3, v4, v5] r h 0 0 Q := e_z_ne am_h96 dX8_copy_93 rfl
theorem x96_96 : AW sv 96 96 [v0, v1, v2, v3, v4, v5] r h 0 0 Q = AW sv 96 98 [v0, v1, v2, v3, v4, v5] (.int (-13) :: r) h 0 0 Q := e_bipushv am_h96 dX8_copy_96 c_bipush_m13
theorem x96_98 : AW sv 96 98 [v0, v1, v2, v3, v4, v5] [.int x] h 0 0 Q = Q (some (.int x)) h := e_iret am_h96 dX8_copy_98 rfl ⟨rfl, rfl⟩
theorem x96_99 : AW sv 96 99 [.ref a, v1, v2, v3, v4, v5] r h 0 0 Q = AW sv 96 100 [.ref a, v1, v2, v3, v4, v5] (.ref a :: r) h 0 0 Q := e_pv am_h96 dX8_copy_99 rfl rfl rfl rfl
theorem x96_100 : AW sv 96 100 [v0, v1, v2, v3, v4, v5] (.ref 0 :: r) (am_toH σ) 0 0 Q = AW sv 96 103 [v0, v1, v2, v3, v4, v5] (.ref 67 :: r) (am_toH σ) 0 0 Q := e_getR am_h96 dX8_copy_100 fl_8_36 is8 rfl
theorem x96_103 : AW sv 96 103 [v0, .int x, v2, v3, v4, v5] r h 0 0 Q = AW sv 96 104 [v0, .int x, v2, v3, v4, v5] (.int x :: r) h 0 0 Q := e_pv am_h96 dX8_copy_103 rfl rfl rfl rfl
theorem x96_104 : AW sv 96 104 [v0, v1, .int x, v3, v4, v5] r h 0 0 Q = AW sv 96 105 [v0, v1, .int x, v3, v4, v5] (.int x :: r) h 0 0 Q := e_pv am_h96 dX8_copy_104 rfl rfl rfl rfl
theorem x96_105 : AW sv 96 105 [v0, v1, v2, .int x, v4, v5] r h 0 0 Q = AW sv 96 106 [v0, v1, v2, .int x, v4, v5] (.int x :: r) h 0 0 Q := e_pv am_h96 dX8_copy_105 rfl rfl rfl rfl
theorem x96_106 : AW sv 96 106 [v0, v1, v2, v3, .int x, v5] r h 0 0 Q = AW sv 96 108 [v0, v1, v2, v3, .int x, v5] (.int x :: r) h 0 0 Q := e_pv am_h96 dX8_copy_106 rfl rfl rfl rfl
theorem x96_108 : AW sv 96 108 [v0, v1, v2, v3, v4, .int x] r h 0 0 Q = AW sv 96 110 [v0, v1, v2, v3, v4, .int x] (.int x :: r) h 0 0 Q := e_pv am_h96 dX8_copy_108 rfl rfl rfl rfl
theorem x96_110 (h8 : am_cs r ≤ 8) : AW sv 96 110 [v0, v1, v2, v3, v4, v5] (.int x4 :: .int x3 :: .int x2 :: .int x1 :: .int x0 :: .ref 67 :: r) (am_toH σ) 0 0 Q = AM sv 25 [.ref 67, .int x0, .int x1, .int x2, .int x3, .int x4] (am_toH σ) (fun v h1 => AW sv 96 113 [v0, v1, v2, v3, v4, v5] (v.toList ++ r) h1 0 0 Q) := e_cV (as := [.int x0, .int x1, .int x2, .int x3, .int x4]) am_h96 dX8_copy_110 ml_8_277 (by decide) am_h25 rfl is4 rfl rfl ⟨by decide, Nat.le_of_ble_eq_true rfl, am_rc_of (by decide) h8⟩
theorem x96_113 : AW sv 96 113 [v0, v1, v2, v3, v4, .int x] r h 0 0 Q = AW sv 96 115 [v0, v1, v2, v3, v4, .int x] (.int x :: r) h 0 0 Q := e_pv am_h96 dX8_copy_113 rfl rfl rfl rfl
theorem x96_115 : AW sv 96 115 [v0, v1, v2, v3, v4, v5] [.int x] h 0 0 Q = Q (some (.int x)) h := e_iret am_h96 dX8_copy_115 rfl ⟨rfl, rfl⟩
theorem n96 : AM sv 96 [.ref a, .int x0, .int x1, .int x2, .int x3, .int x4] h Q = AW sv 96 0 [.ref a, .int x0, .int x1, .int x2, .int x3, .int x4] [] h 0 0 Q := rfl
theorem x97_0 : AW sv 97 0 [.int x, v1] r h 0 0 Q = AW sv 97 1 [.int x, v1] (.int x :: r) h 0 0 Q := e_pv am_h97 dX8_isBelow_0 rfl rfl rfl rfl
theorem x97_1 : AW sv 97 1 [v0, v1] (.int x :: r) h 0 0 Q = if x < 0 then AW sv 97 13 [v0, v1] r h 0 0 Q else AW sv 97 4 [v0, v1] r h 0 0 Q := e_z_lt am_h97 dX8_isBelow_1 rfl
theorem x97_4 : AW sv 97 4 [.int x, v1] r h 0 0 Q = AW sv 97 5 [.int x, v1] (.int x :: r) h 0 0 Q := e_pv am_h97 dX8_isBelow_4 rfl rfl rfl rfl
theorem x97_5 : AW sv 97 5 [v0, .int x] r h 0 0 Q = AW sv 97 6 [v0, .int x] (.int x :: r) h 0 0 Q := e_pv am_h97 dX8_isBelow_5 rfl rfl rfl rfl
theorem x97_6 : AW sv 97 6 [v0, v1] (.int y :: .int x :: r) h 0 0 Q = if y ≤ x then AW sv 97 13 [v0, v1] r h 0 0 Q else AW sv 97 9 [v0, v1] r h 0 0 Q := e_c_ge am_h97 dX8_isBelow_6 rfl
theorem x97_9 : AW sv 97 9 [v0, v1] r h 0 0 Q = AW sv 97 10 [v0, v1] (.int (1) :: r) h 0 0 Q := e_iconstv am_h97 dX8_isBelow_9 c_iconst_1
theorem x97_10 : AW sv 97 10 [v0, v1] r h 0 0 Q = AW sv 97 14 [v0, v1] r h 0 0 Q := e_goto am_h97 dX8_isBelow_10 rfl
theorem x97_13 : AW sv 97 13 [v0, v1] r h 0 0 Q = AW sv 97 14 [v0, v1] (.int (0) :: r) h 0 0 Q := e_iconstv am_h97 dX8_isBelow_13 c_iconst_0
theorem x97_14 (hz : x = 0 ∨ x = 1) : AW sv 97 14 [v0, v1] [.int x] h 0 0 Q = Q (some (.int x)) h := e_zret am_h97 dX8_isBelow_14 rfl ⟨rfl, rfl⟩ hz
theorem n97 : AM sv 97 [.int x0, .int x1] h Q = AW sv 97 0 [.int x0, .int x1] [] h 0 0 Q := rfl
theorem x98_0 : AW sv 98 0 [.int x] r h 0 0 Q = AW sv 98 1 [.int x] (.int x :: r) h 0 0 Q := e_pv am_h98 dX8_isShowing_0 rfl rfl rfl rfl
theorem x98_1 : AW sv 98 1 [v0] r h 0 0 Q = AW sv 98 2 [v0] (.int (1) :: r) h 0 0 Q := e_iconstv am_h98 dX8_isShowing_1 c_iconst_1
theorem x98_2 : AW sv 98 2 [v0] (.int y :: .int x :: r) h 0 0 Q = if x < y then AW sv 98 15 [v0] r h 0 0 Q else AW sv 98 5 [v0] r h 0 0 Q := e_c_lt am_h98 dX8_isShowing_2 rfl
theorem x98_5 : AW sv 98 5 [.int x] r h 0 0 Q = AW sv 98 6 [.int x] (.int x :: r) h 0 0 Q := e_pv am_h98 dX8_isShowing_5 rfl rfl rfl rfl
theorem x98_6 : AW sv 98 6 [v0] r h 0 0 Q = AW sv 98 8 [v0] (.int (9) :: r) h 0 0 Q := e_bipushv am_h98 dX8_isShowing_6 c_bipush_9
theorem x98_8 : AW sv 98 8 [v0] (.int y :: .int x :: r) h 0 0 Q = if y < x then AW sv 98 15 [v0] r h 0 0 Q else AW sv 98 11 [v0] r h 0 0 Q := e_c_gt am_h98 dX8_isShowing_8 rfl
theorem x98_11 : AW sv 98 11 [v0] r h 0 0 Q = AW sv 98 12 [v0] (.int (1) :: r) h 0 0 Q := e_iconstv am_h98 dX8_isShowing_11 c_iconst_1
theorem x98_12 : AW sv 98 12 [v0] r h 0 0 Q = AW sv 98 16 [v0] r h 0 0 Q := e_goto am_h98 dX8_isShowing_12 rfl
theorem x98_15 : AW sv 98 15 [v0] r h 0 0 Q = AW sv 98 16 [v0] (.int (0) :: r) h 0 0 Q := e_iconstv am_h98 dX8_isShowing_15 c_iconst_0
theorem x98_16 (hz : x = 0 ∨ x = 1) : AW sv 98 16 [v0] [.int x] h 0 0 Q = Q (some (.int x)) h := e_zret am_h98 dX8_isShowing_16 rfl ⟨rfl, rfl⟩ hz
theorem n98 : AM sv 98 [.int x0] h Q = AW sv 98 0 [.int x0] [] h 0 0 Q := rfl
theorem x99_0 : AW sv 99 0 [.ref a, v1, v2, v3] r h 0 0 Q = AW sv 99 1 [.ref a, v1, v2, v3] (.ref a :: r) h 0 0 Q := e_pv am_h99 dX8_exchange_0 rfl rfl rfl rfl
theorem x99_1 : AW sv 99 1 [v0, .int x, v2, v3] r h 0 0 Q = AW sv 99 2 [v0, .int x, v2, v3] (.int x :: r) h 0 0 Q := e_pv am_h99 dX8_exchange_1 rfl rfl rfl rfl
theorem x99_2 (hi : am_in x (am_ln a) = true) : AW sv 99 2 [v0, v1, v2, v3] (.int x :: .ref a :: r) (am_toH σ) 0 0 Q = AW sv 99 3 [v0, v1, v2, v3] (.int (σ.1 a x.toNatClampNeg) :: r) (am_toH σ) 0 0 Q := e_iald am_h99 dX8_exchange_2 hi
theorem x99_3 (hc : v2.category = 1) : AW sv 99 3 [v0, v1, v2, v3] (.int x :: r) h 0 0 Q = AW sv 99 4 [v0, v1, v2, .int x] r h 0 0 Q := e_pv am_h99 dX8_exchange_3 rfl rfl rfl (am_sti_of (Nat.le_of_ble_eq_true rfl) (am_c1_of rfl hc))
theorem x99_4 : AW sv 99 4 [.ref a, v1, v2, v3] r h 0 0 Q = AW sv 99 5 [.ref a, v1, v2, v3] (.ref a :: r) h 0 0 Q := e_pv am_h99 dX8_exchange_4 rfl rfl rfl rfl
theorem x99_5 : AW sv 99 5 [v0, .int x, v2, v3] r h 0 0 Q = AW sv 99 6 [v0, .int x, v2, v3] (.int x :: r) h 0 0 Q := e_pv am_h99 dX8_exchange_5 rfl rfl rfl rfl
theorem x99_6 : AW sv 99 6 [v0, v1, .int x, v3] r h 0 0 Q = AW sv 99 7 [v0, v1, .int x, v3] (.int x :: r) h 0 0 Q := e_pv am_h99 dX8_exchange_6 rfl rfl rfl rfl
theorem x99_7 (hi : am_in y (am_ln a) = true) : AW sv 99 7 [v0, v1, v2, v3] (.int x :: .int y :: .ref a :: r) (am_toH σ) 0 0 Q = AW sv 99 8 [v0, v1, v2, v3] r (am_toH (am_wr σ a (upd (σ.1 a) y.toNatClampNeg x))) 0 0 Q := e_iast am_h99 dX8_exchange_7 hi
theorem x99_8 : AW sv 99 8 [v0, v1, v2, .int x] r h 0 0 Q = AW sv 99 9 [v0, v1, v2, .int x] (.int x :: r) h 0 0 Q := e_pv am_h99 dX8_exchange_8 rfl rfl rfl rfl
theorem x99_9 : AW sv 99 9 [v0, v1, v2, v3] [.int x] h 0 0 Q = Q (some (.int x)) h := e_iret am_h99 dX8_exchange_9 rfl ⟨rfl, rfl⟩
theorem n99 : AM sv 99 [.ref b0, .int x1, .int x2] h Q = AW sv 99 0 [.ref b0, .int x1, .int x2, .null] [] h 0 0 Q := rfl
theorem x100_0 : AW sv 100 0 [v0, v1, v2] r h 0 0 Q = AW sv 100 1 [v0, v1, v2] (.int (0) :: r) h 0 0 Q := e_iconstv am_h100 dX8_toldIn_0 c_iconst_0
theorem x100_1 (hc : v0.category = 1) : AW sv 100 1 [v0, v1, v2] (.int x :: r) h 0 0 Q = AW sv 100 2 [v0, .int x, v2] r h 0 0 Q := e_pv am_h100 dX8_toldIn_1 rfl rfl rfl (am_sti_of (Nat.le_of_ble_eq_true rfl) (am_c1_of rfl hc))
theorem x100_2 : AW sv 100 2 [v0, v1, v2] r h 0 0 Q = AW sv 100 3 [v0, v1, v2] (.int (0) :: r) h 0 0 Q := e_iconstv am_h100 dX8_toldIn_2 c_iconst_0
theorem x100_3 (hc : v1.category = 1) : AW sv 100 3 [v0, v1, v2] (.int x :: r) h 0 0 Q = AW sv 100 4 [v0, v1, .int x] r h 0 0 Q := e_pv am_h100 dX8_toldIn_3 rfl rfl rfl (am_sti_of (Nat.le_of_ble_eq_true rfl) (am_c1_of rfl hc))
theorem x100_4 : AW sv 100 4 [v0, v1, .int x] r h 0 0 Q = AW sv 100 5 [v0, v1, .int x] (.int x :: r) h 0 0 Q := e_pv am_h100 dX8_toldIn_4 rfl rfl rfl rfl
theorem x100_5 : AW sv 100 5 [.ref a, v1, v2] r h 0 0 Q = AW sv 100 6 [.ref a, v1, v2] (.ref a :: r) h 0 0 Q := e_pv am_h100 dX8_toldIn_5 rfl rfl rfl rfl
theorem x100_6 (hi : 0 < am_ln a) : AW sv 100 6 [v0, v1, v2] (.ref a :: r) (am_toH σ) 0 0 Q = AW sv 100 7 [v0, v1, v2] (.int (Int32.ofNat (am_ln a)) :: r) (am_toH σ) 0 0 Q := e_alen am_h100 dX8_toldIn_6 hi
theorem x100_7 : AW sv 100 7 [v0, v1, v2] (.int y :: .int x :: r) h 0 0 Q = if y ≤ x then AW sv 100 25 [v0, v1, v2] r h 0 0 Q else AW sv 100 10 [v0, v1, v2] r h 0 0 Q := e_c_ge am_h100 dX8_toldIn_7 rfl
theorem x100_10 : AW sv 100 10 [.ref a, v1, v2] r h 0 0 Q = AW sv 100 11 [.ref a, v1, v2] (.ref a :: r) h 0 0 Q := e_pv am_h100 dX8_toldIn_10 rfl rfl rfl rfl
theorem x100_11 : AW sv 100 11 [v0, v1, .int x] r h 0 0 Q = AW sv 100 12 [v0, v1, .int x] (.int x :: r) h 0 0 Q := e_pv am_h100 dX8_toldIn_11 rfl rfl rfl rfl
theorem x100_12 (hi : am_in x (am_ln a) = true) : AW sv 100 12 [v0, v1, v2] (.int x :: .ref a :: r) (am_toH σ) 0 0 Q = AW sv 100 13 [v0, v1, v2] (.int (σ.1 a x.toNatClampNeg) :: r) (am_toH σ) 0 0 Q := e_iald am_h100 dX8_toldIn_12 hi
theorem x100_13 : AW sv 100 13 [v0, v1, v2] (.int x :: r) h 0 0 Q = if x = 0 then AW sv 100 19 [v0, v1, v2] r h 0 0 Q else AW sv 100 16 [v0, v1, v2] r h 0 0 Q := e_z_eq am_h100 dX8_toldIn_13 rfl
theorem x100_16 (hc : v0.category = 1) : AW sv 100 16 [v0, .int x, v2] r h 0 0 Q = AW sv 100 19 [v0, .int (x + (1)), v2] r h 0 0 Q := e_pv am_h100 dX8_toldIn_16 rfl rfl rfl (am_inc_of (ls := [v0, .int x, v2]) (k := 1) rfl c_iconst_1 (am_c1_of (ls := [v0, .int x, v2]) (k := 0) (v := v0) rfl hc))
theorem x100_19 (hc : v1.category = 1) : AW sv 100 19 [v0, v1, .int x] r h 0 0 Q = AW sv 100 22 [v0, v1, .int (x + (1))] r h 0 0 Q := e_pv am_h100 dX8_toldIn_19 rfl rfl rfl (am_inc_of (ls := [v0, v1, .int x]) (k := 2) rfl c_iconst_1 (am_c1_of (ls := [v0, v1, .int x]) (k := 1) (v := v1) rfl hc))
theorem x100_22 : AW sv 100 22 [v0, v1, v2] r h 0 0 Q = AW sv 100 4 [v0, v1, v2] r h 0 0 Q := e_goto am_h100 dX8_toldIn_22 rfl
theorem x100_25 : AW sv 100 25 [v0, .int x, v2] r h 0 0 Q = AW sv 100 26 [v0, .int x, v2] (.int x :: r) h 0 0 Q := e_pv am_h100 dX8_toldIn_25 rfl rfl rfl rfl
theorem x100_26 : AW sv 100 26 [v0, v1, v2] [.int x] h 0 0 Q = Q (some (.int x)) h := e_iret am_h100 dX8_toldIn_26 rfl ⟨rfl, rfl⟩
theorem n100 : AM sv 100 [.ref b0] h Q = AW sv 100 0 [.ref b0, .null, .null] [] h 0 0 Q := rfl
theorem x101_0 : AW sv 101 0 [v0, .int x] r h 0 0 Q = AW sv 101 1 [v0, .int x] (.int x :: r) h 0 0 Q := e_pv am_h101 dX8_thousandths_0 rfl rfl rfl rfl
theorem x101_1 : AW sv 101 1 [v0, v1] (.int x :: r) h 0 0 Q = if 0 < x then AW sv 101 8 [v0, v1] r h 0 0 Q else AW sv 101 4 [v0, v1] r h 0 0 Q := e_z_gt am_h101 dX8_thousandths_1 rfl
theorem x101_4 : AW sv 101 4 [v0, v1] r h 0 0 Q = AW sv 101 5 [v0, v1] (.int (0) :: r) h 0 0 Q := e_iconstv am_h101 dX8_thousandths_4 c_iconst_0
theorem x101_5 : AW sv 101 5 [v0, v1] r h 0 0 Q = AW sv 101 15 [v0, v1] r h 0 0 Q := e_goto am_h101 dX8_thousandths_5 rfl
theorem x101_8 : AW sv 101 8 [v0, v1] r h 0 0 Q = AW sv 101 11 [v0, v1] (.int (1000) :: r) h 0 0 Q := e_sipushv am_h101 dX8_thousandths_8 c_sipush_1000
theorem x101_11 : AW sv 101 11 [.int x, v1] r h 0 0 Q = AW sv 101 12 [.int x, v1] (.int x :: r) h 0 0 Q := e_pv am_h101 dX8_thousandths_11 rfl rfl rfl rfl
theorem x101_12 : AW sv 101 12 [v0, v1] (.int y :: .int x :: r) h 0 0 Q = AW sv 101 13 [v0, v1] (.int (x * y) :: r) h 0 0 Q := e_imul am_h101 dX8_thousandths_12
theorem x101_13 : AW sv 101 13 [v0, .int x] r h 0 0 Q = AW sv 101 14 [v0, .int x] (.int x :: r) h 0 0 Q := e_pv am_h101 dX8_thousandths_13 rfl rfl rfl rfl
theorem x101_14 (hy : ¬ y = 0) : AW sv 101 14 [v0, v1] (.int y :: .int x :: r) h 0 0 Q = AW sv 101 15 [v0, v1] (.int (x / y) :: r) h 0 0 Q := e_idiv am_h101 dX8_thousandths_14 hy
theorem x101_15 : AW sv 101 15 [v0, v1] [.int x] h 0 0 Q = Q (some (.int x)) h := e_iret am_h101 dX8_thousandths_15 rfl ⟨rfl, rfl⟩
theorem n101 : AM sv 101 [.int x0, .int x1] h Q = AW sv 101 0 [.int x0, .int x1] [] h 0 0 Q := rfl
theorem x102_0 : AW sv 102 0 [v0, v1, v2, v3] r h 0 0 Q = AW sv 102 1 [v0, v1, v2, v3] (.int (0) :: r) h 0 0 Q := e_iconstv am_h102 dX8_commonDivisor_0 c_iconst_0
theorem x102_1 (hc : v1.category = 1) : AW sv 102 1 [v0, v1, v2, v3] (.int x :: r) h 0 0 Q = AW sv 102 2 [v0, v1, .int x, v3] r h 0 0 Q := e_pv am_h102 dX8_commonDivisor_1 rfl rfl rfl (am_sti_of (Nat.le_of_ble_eq_true rfl) (am_c1_of rfl hc))
theorem x102_2 : AW sv 102 2 [v0, v1, .int x, v3] r h 0 0 Q = AW sv 102 3 [v0, v1, .int x, v3] (.int x :: r) h 0 0 Q := e_pv am_h102 dX8_commonDivisor_2 rfl rfl rfl rfl
theorem x102_3 : AW sv 102 3 [v0, v1, v2, v3] r h 0 0 Q = AW sv 102 5 [v0, v1, v2, v3] (.int (64) :: r) h 0 0 Q := e_bipushv am_h102 dX8_commonDivisor_3 c_bipush_64
theorem x102_5 : AW sv 102 5 [v0, v1, v2, v3] (.int y :: .int x :: r) h 0 0 Q = if y ≤ x then AW sv 102 26 [v0, v1, v2, v3] r h 0 0 Q else AW sv 102 8 [v0, v1, v2, v3] r h 0 0 Q := e_c_ge am_h102 dX8_commonDivisor_5 rfl
theorem x102_8 : AW sv 102 8 [v0, .int x, v2, v3] r h 0 0 Q = AW sv 102 9 [v0, .int x, v2, v3] (.int x :: r) h 0 0 Q := e_pv am_h102 dX8_commonDivisor_8 rfl rfl rfl rfl
theorem x102_9 : AW sv 102 9 [v0, v1, v2, v3] (.int x :: r) h 0 0 Q = if x = 0 then AW sv 102 26 [v0, v1, v2, v3] r h 0 0 Q else AW sv 102 12 [v0, v1, v2, v3] r h 0 0 Q := e_z_eq am_h102 dX8_commonDivisor_9 rfl
theorem x102_12 : AW sv 102 12 [.int x, v1, v2, v3] r h 0 0 Q = AW sv 102 13 [.int x, v1, v2, v3] (.int x :: r) h 0 0 Q := e_pv am_h102 dX8_commonDivisor_12 rfl rfl rfl rfl
theorem x102_13 : AW sv 102 13 [v0, .int x, v2, v3] r h 0 0 Q = AW sv 102 14 [v0, .int x, v2, v3] (.int x :: r) h 0 0 Q := e_pv am_h102 dX8_commonDivisor_13 rfl rfl rfl rfl
theorem x102_14 (hy : ¬ y = 0) : AW sv 102 14 [v0, v1, v2, v3] (.int y :: .int x :: r) h 0 0 Q = AW sv 102 15 [v0, v1, v2, v3] (.int (x - x / y * y) :: r) h 0 0 Q := e_irem am_h102 dX8_commonDivisor_14 hy
theorem x102_15 (hc : v2.category = 1) : AW sv 102 15 [v0, v1, v2, v3] (.int x :: r) h 0 0 Q = AW sv 102 16 [v0, v1, v2, .int x] r h 0 0 Q := e_pv am_h102 dX8_commonDivisor_15 rfl rfl rfl (am_sti_of (Nat.le_of_ble_eq_true rfl) (am_c1_of rfl hc))
theorem x102_16 : AW sv 102 16 [v0, .int x, v2, v3] r h 0 0 Q = AW sv 102 17 [v0, .int x, v2, v3] (.int x :: r) h 0 0 Q := e_pv am_h102 dX8_commonDivisor_16 rfl rfl rfl rfl
theorem x102_17 : AW sv 102 17 [v0, v1, v2, v3] (.int x :: r) h 0 0 Q = AW sv 102 18 [.int x, v1, v2, v3] r h 0 0 Q := e_pv am_h102 dX8_commonDivisor_17 rfl rfl rfl (am_sti_of (Nat.le_of_ble_eq_true rfl) (show am_c1 [v0, v1, v2, v3] 0 = true from rfl))
theorem x102_18 : AW sv 102 18 [v0, v1, v2, .int x] r h 0 0 Q = AW sv 102 19 [v0, v1, v2, .int x] (.int x :: r) h 0 0 Q := e_pv am_h102 dX8_commonDivisor_18 rfl rfl rfl rfl
theorem x102_19 (hc : v0.category = 1) : AW sv 102 19 [v0, v1, v2, v3] (.int x :: r) h 0 0 Q = AW sv 102 20 [v0, .int x, v2, v3] r h 0 0 Q := e_pv am_h102 dX8_commonDivisor_19 rfl rfl rfl (am_sti_of (Nat.le_of_ble_eq_true rfl) (am_c1_of rfl hc))
theorem x102_20 (hc : v1.category = 1) : AW sv 102 20 [v0, v1, .int x, v3] r h 0 0 Q = AW sv 102 23 [v0, v1, .int (x + (1)), v3] r h 0 0 Q := e_pv am_h102 dX8_commonDivisor_20 rfl rfl rfl (am_inc_of (ls := [v0, v1, .int x, v3]) (k := 2) rfl c_iconst_1 (am_c1_of (ls := [v0, v1, .int x, v3]) (k := 1) (v := v1) rfl hc))
theorem x102_23 : AW sv 102 23 [v0, v1, v2, v3] r h 0 0 Q = AW sv 102 2 [v0, v1, v2, v3] r h 0 0 Q := e_goto am_h102 dX8_commonDivisor_23 rfl
theorem x102_26 : AW sv 102 26 [.int x, v1, v2, v3] r h 0 0 Q = AW sv 102 27 [.int x, v1, v2, v3] (.int x :: r) h 0 0 Q := e_pv am_h102 dX8_commonDivisor_26 rfl rfl rfl rfl
theorem x102_27 : AW sv 102 27 [v0, v1, v2, v3] [.int x] h 0 0 Q = Q (some (.int x)) h := e_iret am_h102 dX8_commonDivisor_27 rfl ⟨rfl, rfl⟩
theorem n102 : AM sv 102 [.int x0, .int x1] h Q = AW sv 102 0 [.int x0, .int x1, .null, .null] [] h 0 0 Q := rfl
theorem x103_0 : AW sv 103 0 [.int x, v1, v2, v3] r h 0 0 Q = AW sv 103 1 [.int x, v1, v2, v3] (.int x :: r) h 0 0 Q := e_pv am_h103 dX8_canSee_0 rfl rfl rfl rfl
theorem x103_1 : AW sv 103 1 [v0, v1, v2, v3] r h 0 0 Q = AW sv 103 2 [v0, v1, v2, v3] (.int (4) :: r) h 0 0 Q := e_iconstv am_h103 dX8_canSee_1 c_iconst_4
theorem x103_2 (hy : ¬ y = 0) : AW sv 103 2 [v0, v1, v2, v3] (.int y :: .int x :: r) h 0 0 Q = AW sv 103 3 [v0, v1, v2, v3] (.int (x - x / y * y) :: r) h 0 0 Q := e_irem am_h103 dX8_canSee_2 hy
theorem x103_3 : AW sv 103 3 [v0, v1, .int x, v3] r h 0 0 Q = AW sv 103 4 [v0, v1, .int x, v3] (.int x :: r) h 0 0 Q := e_pv am_h103 dX8_canSee_3 rfl rfl rfl rfl
theorem x103_4 : AW sv 103 4 [v0, v1, v2, v3] (.int y :: .int x :: r) h 0 0 Q = AW sv 103 5 [v0, v1, v2, v3] (.int (x - y) :: r) h 0 0 Q := e_isub am_h103 dX8_canSee_4
theorem x103_5 (hc : v2.category = 1) : AW sv 103 5 [v0, v1, v2, v3] (.int x :: r) h 0 0 Q = AW sv 103 6 [v0, v1, v2, .int x] r h 0 0 Q := e_pv am_h103 dX8_canSee_5 rfl rfl rfl (am_sti_of (Nat.le_of_ble_eq_true rfl) (am_c1_of rfl hc))
theorem x103_6 : AW sv 103 6 [v0, .int x, v2, v3] r h 0 0 Q = AW sv 103 7 [v0, .int x, v2, v3] (.int x :: r) h 0 0 Q := e_pv am_h103 dX8_canSee_6 rfl rfl rfl rfl
theorem x103_7 : AW sv 103 7 [v0, v1, v2, v3] r h 0 0 Q = AW sv 103 8 [v0, v1, v2, v3] (.int (1) :: r) h 0 0 Q := e_iconstv am_h103 dX8_canSee_7 c_iconst_1
theorem x103_8 : AW sv 103 8 [v0, v1, v2, v3] (.int y :: .int x :: r) h 0 0 Q = if ¬ x = y then AW sv 103 23 [v0, v1, v2, v3] r h 0 0 Q else AW sv 103 11 [v0, v1, v2, v3] r h 0 0 Q := e_c_ne am_h103 dX8_canSee_8 rfl
theorem x103_11 : AW sv 103 11 [v0, v1, v2, .int x] r h 0 0 Q = AW sv 103 12 [v0, v1, v2, .int x] (.int x :: r) h 0 0 Q := e_pv am_h103 dX8_canSee_11 rfl rfl rfl rfl
theorem x103_12 : AW sv 103 12 [v0, v1, v2, v3] r h 0 0 Q = AW sv 103 14 [v0, v1, v2, v3] (.int (-2) :: r) h 0 0 Q := e_bipushv am_h103 dX8_canSee_12 c_bipush_m2
theorem x103_14 : AW sv 103 14 [v0, v1, v2, v3] (.int y :: .int x :: r) h 0 0 Q = if x ≤ y then AW sv 103 21 [v0, v1, v2, v3] r h 0 0 Q else AW sv 103 17 [v0, v1, v2, v3] r h 0 0 Q := e_c_le am_h103 dX8_canSee_14 rfl
theorem x103_17 : AW sv 103 17 [v0, v1, v2, v3] r h 0 0 Q = AW sv 103 18 [v0, v1, v2, v3] (.int (1) :: r) h 0 0 Q := e_iconstv am_h103 dX8_canSee_17 c_iconst_1
theorem x103_18 : AW sv 103 18 [v0, v1, v2, v3] r h 0 0 Q = AW sv 103 22 [v0, v1, v2, v3] r h 0 0 Q := e_goto am_h103 dX8_canSee_18 rfl
theorem x103_21 : AW sv 103 21 [v0, v1, v2, v3] r h 0 0 Q = AW sv 103 22 [v0, v1, v2, v3] (.int (0) :: r) h 0 0 Q := e_iconstv am_h103 dX8_canSee_21 c_iconst_0
theorem x103_22 (hz : x = 0 ∨ x = 1) : AW sv 103 22 [v0, v1, v2, v3] [.int x] h 0 0 Q = Q (some (.int x)) h := e_zret am_h103 dX8_canSee_22 rfl ⟨rfl, rfl⟩ hz
theorem x103_23 : AW sv 103 23 [v0, .int x, v2, v3] r h 0 0 Q = AW sv 103 24 [v0, .int x, v2, v3] (.int x :: r) h 0 0 Q := e_pv am_h103 dX8_canSee_23 rfl rfl rfl rfl
theorem x103_24 : AW sv 103 24 [v0, v1, v2, v3] (.int x :: r) h 0 0 Q = if ¬ x = 0 then AW sv 103 32 [v0, v1, v2, v3] r h 0 0 Q else AW sv 103 27 [v0, v1, v2, v3] r h 0 0 Q := e_z_ne am_h103 dX8_canSee_24 rfl
theorem x103_27 : AW sv 103 27 [v0, v1, v2, .int x] r h 0 0 Q = AW sv 103 28 [v0, v1, v2, .int x] (.int x :: r) h 0 0 Q := e_pv am_h103 dX8_canSee_27 rfl rfl rfl rfl
theorem x103_28 : AW sv 103 28 [v0, v1, v2, v3] r h 0 0 Q = AW sv 103 29 [v0, v1, v2, v3] (.int (2) :: r) h 0 0 Q := e_iconstv am_h103 dX8_canSee_28 c_iconst_2
theorem x103_29 : AW sv 103 29 [v0, v1, v2, v3] (.int y :: .int x :: r) h 0 0 Q = if y ≤ x then AW sv 103 36 [v0, v1, v2, v3] r h 0 0 Q else AW sv 103 32 [v0, v1, v2, v3] r h 0 0 Q := e_c_ge am_h103 dX8_canSee_29 rfl
theorem x103_32 : AW sv 103 32 [v0, v1, v2, v3] r h 0 0 Q = AW sv 103 33 [v0, v1, v2, v3] (.int (1) :: r) h 0 0 Q := e_iconstv am_h103 dX8_canSee_32 c_iconst_1
theorem x103_33 : AW sv 103 33 [v0, v1, v2, v3] r h 0 0 Q = AW sv 103 37 [v0, v1, v2, v3] r h 0 0 Q := e_goto am_h103 dX8_canSee_33 rfl
theorem x103_36 : AW sv 103 36 [v0, v1, v2, v3] r h 0 0 Q = AW sv 103 37 [v0, v1, v2, v3] (.int (0) :: r) h 0 0 Q := e_iconstv am_h103 dX8_canSee_36 c_iconst_0
theorem x103_37 (hz : x = 0 ∨ x = 1) : AW sv 103 37 [v0, v1, v2, v3] [.int x] h 0 0 Q = Q (some (.int x)) h := e_zret am_h103 dX8_canSee_37 rfl ⟨rfl, rfl⟩ hz
theorem n103 : AM sv 103 [.int x0, .int x1, .int x2] h Q = AW sv 103 0 [.int x0, .int x1, .int x2, .null] [] h 0 0 Q := rfl
end XR
