section XR
variable {sv : am_V} {h : am_H} {σ : am_S} {Q : Option Value → am_H → Prop} {r : List Value} {x y n x0 x1 x2 x3 x4 x5 : Int32} {u w u0 u1 u2 : Int64} {a b b0 b1 b2 b3 b4 : Nat} {v z v0 v1 v2 v3 v4 v5 v6 v7 v8 v9 v10 v11 v12 v13 v14 v15 : Value}
theorem x104_0 : AW sv 104 0 [.long u, v1, v2, v3, v4, v5] r h 0 0 Q = AW sv 104 1 [.long u, v1, v2, v3, v4, v5] (.long u :: r) h 0 0 Q := e_pv am_h104 dX9_in_0 rfl rfl rfl rfl
theorem x104_1 : AW sv 104 1 [v0, v1, .long u, v3, v4, v5] r h 0 0 Q = AW sv 104 2 [v0, v1, .long u, v3, v4, v5] (.long u :: r) h 0 0 Q := e_pv am_h104 dX9_in_1 rfl rfl rfl rfl
theorem x104_2 : AW sv 104 2 [v0, v1, v2, v3, v4, v5] (.long w :: .long u :: r) h 0 0 Q = AW sv 104 3 [v0, v1, v2, v3, v4, v5] (.int (lg_cmp u w) :: r) h 0 0 Q := e_lcmp am_h104 dX9_in_2
theorem x104_3 : AW sv 104 3 [v0, v1, v2, v3, v4, v5] (.int x :: r) h 0 0 Q = if x < 0 then AW sv 104 17 [v0, v1, v2, v3, v4, v5] r h 0 0 Q else AW sv 104 6 [v0, v1, v2, v3, v4, v5] r h 0 0 Q := e_z_lt am_h104 dX9_in_3 rfl
theorem x104_6 : AW sv 104 6 [.long u, v1, v2, v3, v4, v5] r h 0 0 Q = AW sv 104 7 [.long u, v1, v2, v3, v4, v5] (.long u :: r) h 0 0 Q := e_pv am_h104 dX9_in_6 rfl rfl rfl rfl
theorem x104_7 : AW sv 104 7 [v0, v1, v2, v3, .long u, v5] r h 0 0 Q = AW sv 104 9 [v0, v1, v2, v3, .long u, v5] (.long u :: r) h 0 0 Q := e_pv am_h104 dX9_in_7 rfl rfl rfl rfl
theorem x104_9 : AW sv 104 9 [v0, v1, v2, v3, v4, v5] (.long w :: .long u :: r) h 0 0 Q = AW sv 104 10 [v0, v1, v2, v3, v4, v5] (.int (lg_cmp u w) :: r) h 0 0 Q := e_lcmp am_h104 dX9_in_9
theorem x104_10 : AW sv 104 10 [v0, v1, v2, v3, v4, v5] (.int x :: r) h 0 0 Q = if 0 < x then AW sv 104 17 [v0, v1, v2, v3, v4, v5] r h 0 0 Q else AW sv 104 13 [v0, v1, v2, v3, v4, v5] r h 0 0 Q := e_z_gt am_h104 dX9_in_10 rfl
theorem x104_13 : AW sv 104 13 [v0, v1, v2, v3, v4, v5] r h 0 0 Q = AW sv 104 14 [v0, v1, v2, v3, v4, v5] (.int (1) :: r) h 0 0 Q := e_iconstv am_h104 dX9_in_13 c_iconst_1
theorem x104_14 : AW sv 104 14 [v0, v1, v2, v3, v4, v5] r h 0 0 Q = AW sv 104 18 [v0, v1, v2, v3, v4, v5] r h 0 0 Q := e_goto am_h104 dX9_in_14 rfl
theorem x104_17 : AW sv 104 17 [v0, v1, v2, v3, v4, v5] r h 0 0 Q = AW sv 104 18 [v0, v1, v2, v3, v4, v5] (.int (0) :: r) h 0 0 Q := e_iconstv am_h104 dX9_in_17 c_iconst_0
theorem x104_18 (hz : x = 0 ∨ x = 1) : AW sv 104 18 [v0, v1, v2, v3, v4, v5] [.int x] h 0 0 Q = Q (some (.int x)) h := e_zret am_h104 dX9_in_18 rfl ⟨rfl, rfl⟩ hz
theorem n104 : AM sv 104 [.long u0, .long u1, .long u2] h Q = AW sv 104 0 [.long u0, .null, .long u1, .null, .long u2, .null] [] h 0 0 Q := rfl
theorem x106_0 : AW sv 106 0 [.int x] r h 0 0 Q = AW sv 106 1 [.int x] (.int x :: r) h 0 0 Q := e_pv am_h106 dX9_isBeat_0 rfl rfl rfl rfl
theorem x106_1 : AW sv 106 1 [v0] (.int x :: r) h 0 0 Q = AW sv 106 2 [v0] (.long x.toInt64 :: r) h 0 0 Q := e_i2l am_h106 dX9_isBeat_1
theorem x106_2 : AW sv 106 2 [v0] r h 0 0 Q = AW sv 106 3 [v0] (.long (0) :: r) h 0 0 Q := e_lconstv am_h106 dX9_isBeat_2 c_l_0
theorem x106_3 : AW sv 106 3 [v0] r h 0 0 Q = AW sv 106 6 [v0] (.long (15) :: r) h 0 0 Q := e_ldc2 am_h106 dX9_isBeat_3 (by decide +kernel)
theorem x106_6 (h8 : am_cs r ≤ 8) : AW sv 106 6 [v0] (.long u2 :: .long u1 :: .long u0 :: r) h 0 0 Q = AM sv 104 [.long u0, .long u1, .long u2] h (fun v h1 => AW sv 106 9 [v0] (v.toList ++ r) h1 0 0 Q) := e_cS (as := [.long u0, .long u1, .long u2]) am_h106 dX9_isBeat_6 ml_9_70 (by decide) am_h104 rfl rfl rfl ⟨by decide, Nat.le_of_ble_eq_true rfl, am_rc_of (by decide) h8⟩
theorem x106_9 (hz : x = 0 ∨ x = 1) : AW sv 106 9 [v0] [.int x] h 0 0 Q = Q (some (.int x)) h := e_zret am_h106 dX9_isBeat_9 rfl ⟨rfl, rfl⟩ hz
theorem n106 : AM sv 106 [.int x0] h Q = AW sv 106 0 [.int x0] [] h 0 0 Q := rfl
theorem x107_0 : AW sv 107 0 [.int x] r h 0 0 Q = AW sv 107 1 [.int x] (.int x :: r) h 0 0 Q := e_pv am_h107 dX9_isPlace_0 rfl rfl rfl rfl
theorem x107_1 : AW sv 107 1 [v0] (.int x :: r) h 0 0 Q = AW sv 107 2 [v0] (.long x.toInt64 :: r) h 0 0 Q := e_i2l am_h107 dX9_isPlace_1
theorem x107_2 : AW sv 107 2 [v0] r h 0 0 Q = AW sv 107 3 [v0] (.long (0) :: r) h 0 0 Q := e_lconstv am_h107 dX9_isPlace_2 c_l_0
theorem x107_3 : AW sv 107 3 [v0] r h 0 0 Q = AW sv 107 6 [v0] (.long (3) :: r) h 0 0 Q := e_ldc2 am_h107 dX9_isPlace_3 (by decide +kernel)
theorem x107_6 (h8 : am_cs r ≤ 8) : AW sv 107 6 [v0] (.long u2 :: .long u1 :: .long u0 :: r) h 0 0 Q = AM sv 104 [.long u0, .long u1, .long u2] h (fun v h1 => AW sv 107 9 [v0] (v.toList ++ r) h1 0 0 Q) := e_cS (as := [.long u0, .long u1, .long u2]) am_h107 dX9_isPlace_6 ml_9_70 (by decide) am_h104 rfl rfl rfl ⟨by decide, Nat.le_of_ble_eq_true rfl, am_rc_of (by decide) h8⟩
theorem x107_9 (hz : x = 0 ∨ x = 1) : AW sv 107 9 [v0] [.int x] h 0 0 Q = Q (some (.int x)) h := e_zret am_h107 dX9_isPlace_9 rfl ⟨rfl, rfl⟩ hz
theorem n107 : AM sv 107 [.int x0] h Q = AW sv 107 0 [.int x0] [] h 0 0 Q := rfl
theorem x108_0 : AW sv 108 0 [v0, .int x] r h 0 0 Q = AW sv 108 1 [v0, .int x] (.int x :: r) h 0 0 Q := e_pv am_h108 dX9_isOne_0 rfl rfl rfl rfl
theorem x108_1 : AW sv 108 1 [v0, v1] (.int x :: r) h 0 0 Q = AW sv 108 2 [v0, v1] (.long x.toInt64 :: r) h 0 0 Q := e_i2l am_h108 dX9_isOne_1
theorem x108_2 : AW sv 108 2 [v0, v1] r h 0 0 Q = AW sv 108 3 [v0, v1] (.long (0) :: r) h 0 0 Q := e_lconstv am_h108 dX9_isOne_2 c_l_0
theorem x108_3 : AW sv 108 3 [.ref a, v1] r h 0 0 Q = AW sv 108 4 [.ref a, v1] (.ref a :: r) h 0 0 Q := e_pv am_h108 dX9_isOne_3 rfl rfl rfl rfl
theorem x108_4 : AW sv 108 4 [v0, v1] (.ref 71 :: r) (am_toH σ) 0 0 Q = AW sv 108 7 [v0, v1] (.int (σ.1 71 7) :: r) (am_toH σ) 0 0 Q := e_getI am_h108 dX9_isOne_4 fl_9_76 is9 rfl
theorem x108_7 : AW sv 108 7 [v0, v1] r h 0 0 Q = AW sv 108 8 [v0, v1] (.int (1) :: r) h 0 0 Q := e_iconstv am_h108 dX9_isOne_7 c_iconst_1
theorem x108_8 : AW sv 108 8 [v0, v1] (.int y :: .int x :: r) h 0 0 Q = AW sv 108 9 [v0, v1] (.int (x - y) :: r) h 0 0 Q := e_isub am_h108 dX9_isOne_8
theorem x108_9 : AW sv 108 9 [v0, v1] (.int x :: r) h 0 0 Q = AW sv 108 10 [v0, v1] (.long x.toInt64 :: r) h 0 0 Q := e_i2l am_h108 dX9_isOne_9
theorem x108_10 (h8 : am_cs r ≤ 8) : AW sv 108 10 [v0, v1] (.long u2 :: .long u1 :: .long u0 :: r) h 0 0 Q = AM sv 104 [.long u0, .long u1, .long u2] h (fun v h1 => AW sv 108 13 [v0, v1] (v.toList ++ r) h1 0 0 Q) := e_cS (as := [.long u0, .long u1, .long u2]) am_h108 dX9_isOne_10 ml_9_70 (by decide) am_h104 rfl rfl rfl ⟨by decide, Nat.le_of_ble_eq_true rfl, am_rc_of (by decide) h8⟩
theorem x108_13 (hz : x = 0 ∨ x = 1) : AW sv 108 13 [v0, v1] [.int x] h 0 0 Q = Q (some (.int x)) h := e_zret am_h108 dX9_isOne_13 rfl ⟨rfl, rfl⟩ hz
theorem n108 : AM sv 108 [.ref a, .int x0] h Q = AW sv 108 0 [.ref a, .int x0] [] h 0 0 Q := rfl
theorem x109_0 : AW sv 109 0 [v0, .int x, v2, v3, v4, v5, v6] r h 0 0 Q = AW sv 109 1 [v0, .int x, v2, v3, v4, v5, v6] (.int x :: r) h 0 0 Q := e_pv am_h109 dX9_act_0 rfl rfl rfl rfl
theorem x109_1 (h8 : am_cs r ≤ 8) : AW sv 109 1 [v0, v1, v2, v3, v4, v5, v6] (.int x0 :: r) h 0 0 Q = AM sv 106 [.int x0] h (fun v h1 => AW sv 109 4 [v0, v1, v2, v3, v4, v5, v6] (v.toList ++ r) h1 0 0 Q) := e_cS (as := [.int x0]) am_h109 dX9_act_1 ml_9_79 (by decide) am_h106 rfl rfl rfl ⟨by decide, Nat.le_of_ble_eq_true rfl, am_rc_of (by decide) h8⟩
theorem x109_4 : AW sv 109 4 [v0, v1, v2, v3, v4, v5, v6] (.int x :: r) h 0 0 Q = if x = 0 then AW sv 109 37 [v0, v1, v2, v3, v4, v5, v6] r h 0 0 Q else AW sv 109 7 [v0, v1, v2, v3, v4, v5, v6] r h 0 0 Q := e_z_eq am_h109 dX9_act_4 rfl
theorem x109_7 : AW sv 109 7 [v0, v1, .int x, v3, v4, v5, v6] r h 0 0 Q = AW sv 109 8 [v0, v1, .int x, v3, v4, v5, v6] (.int x :: r) h 0 0 Q := e_pv am_h109 dX9_act_7 rfl rfl rfl rfl
theorem x109_8 : AW sv 109 8 [v0, v1, v2, v3, v4, v5, v6] (.int x :: r) h 0 0 Q = AW sv 109 9 [v0, v1, v2, v3, v4, v5, v6] (.long x.toInt64 :: r) h 0 0 Q := e_i2l am_h109 dX9_act_8
theorem x109_9 : AW sv 109 9 [v0, v1, v2, v3, v4, v5, v6] r h 0 0 Q = AW sv 109 10 [v0, v1, v2, v3, v4, v5, v6] (.long (0) :: r) h 0 0 Q := e_lconstv am_h109 dX9_act_9 c_l_0
theorem x109_10 : AW sv 109 10 [v0, v1, v2, v3, v4, v5, v6] r h 0 0 Q = AW sv 109 11 [v0, v1, v2, v3, v4, v5, v6] (.long (1) :: r) h 0 0 Q := e_lconstv am_h109 dX9_act_10 c_l_1
theorem x109_11 (h8 : am_cs r ≤ 8) : AW sv 109 11 [v0, v1, v2, v3, v4, v5, v6] (.long u2 :: .long u1 :: .long u0 :: r) h 0 0 Q = AM sv 104 [.long u0, .long u1, .long u2] h (fun v h1 => AW sv 109 14 [v0, v1, v2, v3, v4, v5, v6] (v.toList ++ r) h1 0 0 Q) := e_cS (as := [.long u0, .long u1, .long u2]) am_h109 dX9_act_11 ml_9_70 (by decide) am_h104 rfl rfl rfl ⟨by decide, Nat.le_of_ble_eq_true rfl, am_rc_of (by decide) h8⟩
theorem x109_14 : AW sv 109 14 [v0, v1, v2, v3, v4, v5, v6] (.int x :: r) h 0 0 Q = if x = 0 then AW sv 109 37 [v0, v1, v2, v3, v4, v5, v6] r h 0 0 Q else AW sv 109 17 [v0, v1, v2, v3, v4, v5, v6] r h 0 0 Q := e_z_eq am_h109 dX9_act_14 rfl
theorem x109_17 : AW sv 109 17 [v0, v1, v2, .int x, v4, v5, v6] r h 0 0 Q = AW sv 109 18 [v0, v1, v2, .int x, v4, v5, v6] (.int x :: r) h 0 0 Q := e_pv am_h109 dX9_act_17 rfl rfl rfl rfl
theorem x109_18 (h8 : am_cs r ≤ 8) : AW sv 109 18 [v0, v1, v2, v3, v4, v5, v6] (.int x0 :: r) h 0 0 Q = AM sv 107 [.int x0] h (fun v h1 => AW sv 109 21 [v0, v1, v2, v3, v4, v5, v6] (v.toList ++ r) h1 0 0 Q) := e_cS (as := [.int x0]) am_h109 dX9_act_18 ml_9_83 (by decide) am_h107 rfl rfl rfl ⟨by decide, Nat.le_of_ble_eq_true rfl, am_rc_of (by decide) h8⟩
theorem x109_21 : AW sv 109 21 [v0, v1, v2, v3, v4, v5, v6] (.int x :: r) h 0 0 Q = if x = 0 then AW sv 109 37 [v0, v1, v2, v3, v4, v5, v6] r h 0 0 Q else AW sv 109 24 [v0, v1, v2, v3, v4, v5, v6] r h 0 0 Q := e_z_eq am_h109 dX9_act_21 rfl
theorem x109_24 : AW sv 109 24 [v0, v1, v2, v3, .int x, v5, v6] r h 0 0 Q = AW sv 109 26 [v0, v1, v2, v3, .int x, v5, v6] (.int x :: r) h 0 0 Q := e_pv am_h109 dX9_act_24 rfl rfl rfl rfl
theorem x109_26 : AW sv 109 26 [v0, v1, v2, v3, v4, v5, v6] (.int x :: r) h 0 0 Q = AW sv 109 27 [v0, v1, v2, v3, v4, v5, v6] (.long x.toInt64 :: r) h 0 0 Q := e_i2l am_h109 dX9_act_26
theorem x109_27 : AW sv 109 27 [v0, v1, v2, v3, v4, v5, v6] r h 0 0 Q = AW sv 109 28 [v0, v1, v2, v3, v4, v5, v6] (.long (0) :: r) h 0 0 Q := e_lconstv am_h109 dX9_act_27 c_l_0
theorem x109_28 : AW sv 109 28 [v0, v1, v2, v3, v4, v5, v6] r h 0 0 Q = AW sv 109 31 [v0, v1, v2, v3, v4, v5, v6] (.long (9) :: r) h 0 0 Q := e_ldc2 am_h109 dX9_act_28 (by decide +kernel)
theorem x109_31 (h8 : am_cs r ≤ 8) : AW sv 109 31 [v0, v1, v2, v3, v4, v5, v6] (.long u2 :: .long u1 :: .long u0 :: r) h 0 0 Q = AM sv 104 [.long u0, .long u1, .long u2] h (fun v h1 => AW sv 109 34 [v0, v1, v2, v3, v4, v5, v6] (v.toList ++ r) h1 0 0 Q) := e_cS (as := [.long u0, .long u1, .long u2]) am_h109 dX9_act_31 ml_9_70 (by decide) am_h104 rfl rfl rfl ⟨by decide, Nat.le_of_ble_eq_true rfl, am_rc_of (by decide) h8⟩
theorem x109_34 : AW sv 109 34 [v0, v1, v2, v3, v4, v5, v6] (.int x :: r) h 0 0 Q = if ¬ x = 0 then AW sv 109 39 [v0, v1, v2, v3, v4, v5, v6] r h 0 0 Q else AW sv 109 37 [v0, v1, v2, v3, v4, v5, v6] r h 0 0 Q := e_z_ne am_h109 dX9_act_34 rfl
theorem x109_37 : AW sv 109 37 [v0, v1, v2, v3, v4, v5, v6] r h 0 0 Q = AW sv 109 38 [v0, v1, v2, v3, v4, v5, v6] (.int (-1) :: r) h 0 0 Q := e_iconstv am_h109 dX9_act_37 c_iconst_m1
theorem x109_38 : AW sv 109 38 [v0, v1, v2, v3, v4, v5, v6] [.int x] h 0 0 Q = Q (some (.int x)) h := e_iret am_h109 dX9_act_38 rfl ⟨rfl, rfl⟩
theorem x109_39 : AW sv 109 39 [v0, v1, v2, v3, .int x, v5, v6] r h 0 0 Q = AW sv 109 41 [v0, v1, v2, v3, .int x, v5, v6] (.int x :: r) h 0 0 Q := e_pv am_h109 dX9_act_39 rfl rfl rfl rfl
theorem x109_41 : AW sv 109 41 [v0, v1, v2, v3, v4, v5, v6] (.int x :: r) h 0 0 Q = if ¬ x = 0 then AW sv 109 48 [v0, v1, v2, v3, v4, v5, v6] r h 0 0 Q else AW sv 109 44 [v0, v1, v2, v3, v4, v5, v6] r h 0 0 Q := e_z_ne am_h109 dX9_act_41 rfl
theorem x109_44 : AW sv 109 44 [v0, v1, v2, v3, v4, v5, v6] r h 0 0 Q = AW sv 109 45 [v0, v1, v2, v3, v4, v5, v6] (.int (0) :: r) h 0 0 Q := e_iconstv am_h109 dX9_act_44 c_iconst_0
theorem x109_45 : AW sv 109 45 [v0, v1, v2, v3, v4, v5, v6] r h 0 0 Q = AW sv 109 55 [v0, v1, v2, v3, v4, v5, v6] r h 0 0 Q := e_goto am_h109 dX9_act_45 rfl
theorem x109_48 : AW sv 109 48 [v0, v1, v2, v3, v4, v5, v6] r h 0 0 Q = AW sv 109 50 [v0, v1, v2, v3, v4, v5, v6] (.int (10) :: r) h 0 0 Q := e_bipushv am_h109 dX9_act_48 c_bipush_10
theorem x109_50 : AW sv 109 50 [v0, v1, v2, .int x, v4, v5, v6] r h 0 0 Q = AW sv 109 51 [v0, v1, v2, .int x, v4, v5, v6] (.int x :: r) h 0 0 Q := e_pv am_h109 dX9_act_50 rfl rfl rfl rfl
theorem x109_51 : AW sv 109 51 [v0, v1, v2, v3, v4, v5, v6] (.int y :: .int x :: r) h 0 0 Q = AW sv 109 52 [v0, v1, v2, v3, v4, v5, v6] (.int (x * y) :: r) h 0 0 Q := e_imul am_h109 dX9_act_51
theorem x109_52 : AW sv 109 52 [v0, v1, v2, v3, .int x, v5, v6] r h 0 0 Q = AW sv 109 54 [v0, v1, v2, v3, .int x, v5, v6] (.int x :: r) h 0 0 Q := e_pv am_h109 dX9_act_52 rfl rfl rfl rfl
theorem x109_54 : AW sv 109 54 [v0, v1, v2, v3, v4, v5, v6] (.int y :: .int x :: r) h 0 0 Q = AW sv 109 55 [v0, v1, v2, v3, v4, v5, v6] (.int (x + y) :: r) h 0 0 Q := e_iadd am_h109 dX9_act_54
theorem x109_55 (hc : v4.category = 1) : AW sv 109 55 [v0, v1, v2, v3, v4, v5, v6] (.int x :: r) h 0 0 Q = AW sv 109 57 [v0, v1, v2, v3, v4, .int x, v6] r h 0 0 Q := e_pv am_h109 dX9_act_55 rfl rfl rfl (am_sti_of (Nat.le_of_ble_eq_true rfl) (am_c1_of rfl hc))
theorem x109_57 : AW sv 109 57 [v0, v1, .int x, v3, v4, v5, v6] r h 0 0 Q = AW sv 109 58 [v0, v1, .int x, v3, v4, v5, v6] (.int x :: r) h 0 0 Q := e_pv am_h109 dX9_act_57 rfl rfl rfl rfl
theorem x109_58 : AW sv 109 58 [v0, v1, v2, v3, v4, v5, v6] (.int x :: r) h 0 0 Q = if ¬ x = 0 then AW sv 109 70 [v0, v1, v2, v3, v4, v5, v6] r h 0 0 Q else AW sv 109 61 [v0, v1, v2, v3, v4, v5, v6] r h 0 0 Q := e_z_ne am_h109 dX9_act_58 rfl
theorem x109_61 : AW sv 109 61 [.ref a, v1, v2, v3, v4, v5, v6] r h 0 0 Q = AW sv 109 62 [.ref a, v1, v2, v3, v4, v5, v6] (.ref a :: r) h 0 0 Q := e_pv am_h109 dX9_act_61 rfl rfl rfl rfl
theorem x109_62 : AW sv 109 62 [v0, v1, v2, v3, v4, v5, v6] (.ref 71 :: r) (am_toH σ) 0 0 Q = AW sv 109 65 [v0, v1, v2, v3, v4, v5, v6] (.ref 72 :: r) (am_toH σ) 0 0 Q := e_getR am_h109 dX9_act_62 fl_9_7 is9 rfl
theorem x109_65 : AW sv 109 65 [v0, .int x, v2, v3, v4, v5, v6] r h 0 0 Q = AW sv 109 66 [v0, .int x, v2, v3, v4, v5, v6] (.int x :: r) h 0 0 Q := e_pv am_h109 dX9_act_65 rfl rfl rfl rfl
theorem x109_66 (hi : am_in x (am_ln a) = true) : AW sv 109 66 [v0, v1, v2, v3, v4, v5, v6] (.int x :: .ref a :: r) (am_toH σ) 0 0 Q = AW sv 109 67 [v0, v1, v2, v3, v4, v5, v6] (.int (σ.1 a x.toNatClampNeg) :: r) (am_toH σ) 0 0 Q := e_iald am_h109 dX9_act_66 hi
theorem x109_67 : AW sv 109 67 [v0, v1, v2, v3, v4, v5, v6] r h 0 0 Q = AW sv 109 76 [v0, v1, v2, v3, v4, v5, v6] r h 0 0 Q := e_goto am_h109 dX9_act_67 rfl
theorem x109_70 : AW sv 109 70 [.ref a, v1, v2, v3, v4, v5, v6] r h 0 0 Q = AW sv 109 71 [.ref a, v1, v2, v3, v4, v5, v6] (.ref a :: r) h 0 0 Q := e_pv am_h109 dX9_act_70 rfl rfl rfl rfl
theorem x109_71 : AW sv 109 71 [v0, v1, v2, v3, v4, v5, v6] (.ref 71 :: r) (am_toH σ) 0 0 Q = AW sv 109 74 [v0, v1, v2, v3, v4, v5, v6] (.ref 73 :: r) (am_toH σ) 0 0 Q := e_getR am_h109 dX9_act_71 fl_9_13 is9 rfl
theorem x109_74 : AW sv 109 74 [v0, .int x, v2, v3, v4, v5, v6] r h 0 0 Q = AW sv 109 75 [v0, .int x, v2, v3, v4, v5, v6] (.int x :: r) h 0 0 Q := e_pv am_h109 dX9_act_74 rfl rfl rfl rfl
theorem x109_75 (hi : am_in x (am_ln a) = true) : AW sv 109 75 [v0, v1, v2, v3, v4, v5, v6] (.int x :: .ref a :: r) (am_toH σ) 0 0 Q = AW sv 109 76 [v0, v1, v2, v3, v4, v5, v6] (.int (σ.1 a x.toNatClampNeg) :: r) (am_toH σ) 0 0 Q := e_iald am_h109 dX9_act_75 hi
theorem x109_76 (hc : v5.category = 1) : AW sv 109 76 [v0, v1, v2, v3, v4, v5, v6] (.int x :: r) h 0 0 Q = AW sv 109 78 [v0, v1, v2, v3, v4, v5, .int x] r h 0 0 Q := e_pv am_h109 dX9_act_76 rfl rfl rfl (am_sti_of (Nat.le_of_ble_eq_true rfl) (am_c1_of rfl hc))
theorem x109_78 : AW sv 109 78 [v0, v1, .int x, v3, v4, v5, v6] r h 0 0 Q = AW sv 109 79 [v0, v1, .int x, v3, v4, v5, v6] (.int x :: r) h 0 0 Q := e_pv am_h109 dX9_act_78 rfl rfl rfl rfl
theorem x109_79 : AW sv 109 79 [v0, v1, v2, v3, v4, v5, v6] (.int x :: r) h 0 0 Q = if ¬ x = 0 then AW sv 109 93 [v0, v1, v2, v3, v4, v5, v6] r h 0 0 Q else AW sv 109 82 [v0, v1, v2, v3, v4, v5, v6] r h 0 0 Q := e_z_ne am_h109 dX9_act_79 rfl
theorem x109_82 : AW sv 109 82 [.ref a, v1, v2, v3, v4, v5, v6] r h 0 0 Q = AW sv 109 83 [.ref a, v1, v2, v3, v4, v5, v6] (.ref a :: r) h 0 0 Q := e_pv am_h109 dX9_act_82 rfl rfl rfl rfl
theorem x109_83 : AW sv 109 83 [v0, v1, v2, v3, v4, v5, v6] (.ref 71 :: r) (am_toH σ) 0 0 Q = AW sv 109 86 [v0, v1, v2, v3, v4, v5, v6] (.ref 72 :: r) (am_toH σ) 0 0 Q := e_getR am_h109 dX9_act_83 fl_9_7 is9 rfl
theorem x109_86 : AW sv 109 86 [v0, .int x, v2, v3, v4, v5, v6] r h 0 0 Q = AW sv 109 87 [v0, .int x, v2, v3, v4, v5, v6] (.int x :: r) h 0 0 Q := e_pv am_h109 dX9_act_86 rfl rfl rfl rfl
theorem x109_87 : AW sv 109 87 [v0, v1, v2, v3, v4, .int x, v6] r h 0 0 Q = AW sv 109 89 [v0, v1, v2, v3, v4, .int x, v6] (.int x :: r) h 0 0 Q := e_pv am_h109 dX9_act_87 rfl rfl rfl rfl
theorem x109_89 (hi : am_in y (am_ln a) = true) : AW sv 109 89 [v0, v1, v2, v3, v4, v5, v6] (.int x :: .int y :: .ref a :: r) (am_toH σ) 0 0 Q = AW sv 109 90 [v0, v1, v2, v3, v4, v5, v6] r (am_toH (am_wr σ a (upd (σ.1 a) y.toNatClampNeg x))) 0 0 Q := e_iast am_h109 dX9_act_89 hi
theorem x109_90 : AW sv 109 90 [v0, v1, v2, v3, v4, v5, v6] r h 0 0 Q = AW sv 109 101 [v0, v1, v2, v3, v4, v5, v6] r h 0 0 Q := e_goto am_h109 dX9_act_90 rfl
theorem x109_93 : AW sv 109 93 [.ref a, v1, v2, v3, v4, v5, v6] r h 0 0 Q = AW sv 109 94 [.ref a, v1, v2, v3, v4, v5, v6] (.ref a :: r) h 0 0 Q := e_pv am_h109 dX9_act_93 rfl rfl rfl rfl
theorem x109_94 : AW sv 109 94 [v0, v1, v2, v3, v4, v5, v6] (.ref 71 :: r) (am_toH σ) 0 0 Q = AW sv 109 97 [v0, v1, v2, v3, v4, v5, v6] (.ref 73 :: r) (am_toH σ) 0 0 Q := e_getR am_h109 dX9_act_94 fl_9_13 is9 rfl
theorem x109_97 : AW sv 109 97 [v0, .int x, v2, v3, v4, v5, v6] r h 0 0 Q = AW sv 109 98 [v0, .int x, v2, v3, v4, v5, v6] (.int x :: r) h 0 0 Q := e_pv am_h109 dX9_act_97 rfl rfl rfl rfl
theorem x109_98 : AW sv 109 98 [v0, v1, v2, v3, v4, .int x, v6] r h 0 0 Q = AW sv 109 100 [v0, v1, v2, v3, v4, .int x, v6] (.int x :: r) h 0 0 Q := e_pv am_h109 dX9_act_98 rfl rfl rfl rfl
theorem x109_100 (hi : am_in y (am_ln a) = true) : AW sv 109 100 [v0, v1, v2, v3, v4, v5, v6] (.int x :: .int y :: .ref a :: r) (am_toH σ) 0 0 Q = AW sv 109 101 [v0, v1, v2, v3, v4, v5, v6] r (am_toH (am_wr σ a (upd (σ.1 a) y.toNatClampNeg x))) 0 0 Q := e_iast am_h109 dX9_act_100 hi
theorem x109_101 : AW sv 109 101 [v0, v1, v2, v3, v4, v5, .int x] r h 0 0 Q = AW sv 109 103 [v0, v1, v2, v3, v4, v5, .int x] (.int x :: r) h 0 0 Q := e_pv am_h109 dX9_act_101 rfl rfl rfl rfl
theorem x109_103 : AW sv 109 103 [v0, v1, v2, v3, v4, v5, v6] [.int x] h 0 0 Q = Q (some (.int x)) h := e_iret am_h109 dX9_act_103 rfl ⟨rfl, rfl⟩
theorem n109 : AM sv 109 [.ref a, .int x0, .int x1, .int x2, .int x3] h Q = AW sv 109 0 [.ref a, .int x0, .int x1, .int x2, .int x3, .null, .null] [] h 0 0 Q := rfl
theorem x110_0 : AW sv 110 0 [v0, .int x, v2, v3, v4] r h 0 0 Q = AW sv 110 1 [v0, .int x, v2, v3, v4] (.int x :: r) h 0 0 Q := e_pv am_h110 dX9_cue_0 rfl rfl rfl rfl
theorem x110_1 (h8 : am_cs r ≤ 8) : AW sv 110 1 [v0, v1, v2, v3, v4] (.int x0 :: r) h 0 0 Q = AM sv 106 [.int x0] h (fun v h1 => AW sv 110 4 [v0, v1, v2, v3, v4] (v.toList ++ r) h1 0 0 Q) := e_cS (as := [.int x0]) am_h110 dX9_cue_1 ml_9_79 (by decide) am_h106 rfl rfl rfl ⟨by decide, Nat.le_of_ble_eq_true rfl, am_rc_of (by decide) h8⟩
theorem x110_4 : AW sv 110 4 [v0, v1, v2, v3, v4] (.int x :: r) h 0 0 Q = if x = 0 then AW sv 110 51 [v0, v1, v2, v3, v4] r h 0 0 Q else AW sv 110 7 [v0, v1, v2, v3, v4] r h 0 0 Q := e_z_eq am_h110 dX9_cue_4 rfl
theorem x110_7 : AW sv 110 7 [v0, v1, .int x, v3, v4] r h 0 0 Q = AW sv 110 8 [v0, v1, .int x, v3, v4] (.int x :: r) h 0 0 Q := e_pv am_h110 dX9_cue_7 rfl rfl rfl rfl
theorem x110_8 : AW sv 110 8 [v0, v1, v2, v3, v4] (.int x :: r) h 0 0 Q = AW sv 110 9 [v0, v1, v2, v3, v4] (.long x.toInt64 :: r) h 0 0 Q := e_i2l am_h110 dX9_cue_8
theorem x110_9 : AW sv 110 9 [v0, v1, v2, v3, v4] r h 0 0 Q = AW sv 110 10 [v0, v1, v2, v3, v4] (.long (0) :: r) h 0 0 Q := e_lconstv am_h110 dX9_cue_9 c_l_0
theorem x110_10 : AW sv 110 10 [v0, v1, v2, v3, v4] r h 0 0 Q = AW sv 110 13 [v0, v1, v2, v3, v4] (.long (2) :: r) h 0 0 Q := e_ldc2 am_h110 dX9_cue_10 (by decide +kernel)
theorem x110_13 (h8 : am_cs r ≤ 8) : AW sv 110 13 [v0, v1, v2, v3, v4] (.long u2 :: .long u1 :: .long u0 :: r) h 0 0 Q = AM sv 104 [.long u0, .long u1, .long u2] h (fun v h1 => AW sv 110 16 [v0, v1, v2, v3, v4] (v.toList ++ r) h1 0 0 Q) := e_cS (as := [.long u0, .long u1, .long u2]) am_h110 dX9_cue_13 ml_9_70 (by decide) am_h104 rfl rfl rfl ⟨by decide, Nat.le_of_ble_eq_true rfl, am_rc_of (by decide) h8⟩
theorem x110_16 : AW sv 110 16 [v0, v1, v2, v3, v4] (.int x :: r) h 0 0 Q = if x = 0 then AW sv 110 51 [v0, v1, v2, v3, v4] r h 0 0 Q else AW sv 110 19 [v0, v1, v2, v3, v4] r h 0 0 Q := e_z_eq am_h110 dX9_cue_16 rfl
theorem x110_19 : AW sv 110 19 [v0, v1, v2, .int x, v4] r h 0 0 Q = AW sv 110 20 [v0, v1, v2, .int x, v4] (.int x :: r) h 0 0 Q := e_pv am_h110 dX9_cue_19 rfl rfl rfl rfl
theorem x110_20 : AW sv 110 20 [v0, v1, v2, v3, v4] (.int x :: r) h 0 0 Q = AW sv 110 21 [v0, v1, v2, v3, v4] (.long x.toInt64 :: r) h 0 0 Q := e_i2l am_h110 dX9_cue_20
theorem x110_21 : AW sv 110 21 [v0, v1, .int x, v3, v4] r h 0 0 Q = AW sv 110 22 [v0, v1, .int x, v3, v4] (.int x :: r) h 0 0 Q := e_pv am_h110 dX9_cue_21 rfl rfl rfl rfl
theorem x110_22 : AW sv 110 22 [v0, v1, v2, v3, v4] r h 0 0 Q = AW sv 110 23 [v0, v1, v2, v3, v4] (.int (2) :: r) h 0 0 Q := e_iconstv am_h110 dX9_cue_22 c_iconst_2
theorem x110_23 : AW sv 110 23 [v0, v1, v2, v3, v4] (.int y :: .int x :: r) h 0 0 Q = if ¬ x = y then AW sv 110 30 [v0, v1, v2, v3, v4] r h 0 0 Q else AW sv 110 26 [v0, v1, v2, v3, v4] r h 0 0 Q := e_c_ne am_h110 dX9_cue_23 rfl
theorem x110_26 : AW sv 110 26 [v0, v1, v2, v3, v4] r h 0 0 Q = AW sv 110 27 [v0, v1, v2, v3, v4] (.long (0) :: r) h 0 0 Q := e_lconstv am_h110 dX9_cue_26 c_l_0
theorem x110_27 : AW sv 110 27 [v0, v1, v2, v3, v4] r h 0 0 Q = AW sv 110 33 [v0, v1, v2, v3, v4] r h 0 0 Q := e_goto am_h110 dX9_cue_27 rfl
theorem x110_30 : AW sv 110 30 [v0, v1, v2, v3, v4] r h 0 0 Q = AW sv 110 33 [v0, v1, v2, v3, v4] (.long (-1) :: r) h 0 0 Q := e_ldc2 am_h110 dX9_cue_30 (by decide +kernel)
theorem x110_33 : AW sv 110 33 [v0, v1, .int x, v3, v4] r h 0 0 Q = AW sv 110 34 [v0, v1, .int x, v3, v4] (.int x :: r) h 0 0 Q := e_pv am_h110 dX9_cue_33 rfl rfl rfl rfl
theorem x110_34 : AW sv 110 34 [v0, v1, v2, v3, v4] r h 0 0 Q = AW sv 110 35 [v0, v1, v2, v3, v4] (.int (2) :: r) h 0 0 Q := e_iconstv am_h110 dX9_cue_34 c_iconst_2
theorem x110_35 : AW sv 110 35 [v0, v1, v2, v3, v4] (.int y :: .int x :: r) h 0 0 Q = if ¬ x = y then AW sv 110 42 [v0, v1, v2, v3, v4] r h 0 0 Q else AW sv 110 38 [v0, v1, v2, v3, v4] r h 0 0 Q := e_c_ne am_h110 dX9_cue_35 rfl
theorem x110_38 : AW sv 110 38 [v0, v1, v2, v3, v4] r h 0 0 Q = AW sv 110 39 [v0, v1, v2, v3, v4] (.long (1) :: r) h 0 0 Q := e_lconstv am_h110 dX9_cue_38 c_l_1
theorem x110_39 : AW sv 110 39 [v0, v1, v2, v3, v4] r h 0 0 Q = AW sv 110 45 [v0, v1, v2, v3, v4] r h 0 0 Q := e_goto am_h110 dX9_cue_39 rfl
theorem x110_42 : AW sv 110 42 [v0, v1, v2, v3, v4] r h 0 0 Q = AW sv 110 45 [v0, v1, v2, v3, v4] (.long (3) :: r) h 0 0 Q := e_ldc2 am_h110 dX9_cue_42 (by decide +kernel)
theorem x110_45 (h8 : am_cs r ≤ 8) : AW sv 110 45 [v0, v1, v2, v3, v4] (.long u2 :: .long u1 :: .long u0 :: r) h 0 0 Q = AM sv 104 [.long u0, .long u1, .long u2] h (fun v h1 => AW sv 110 48 [v0, v1, v2, v3, v4] (v.toList ++ r) h1 0 0 Q) := e_cS (as := [.long u0, .long u1, .long u2]) am_h110 dX9_cue_45 ml_9_70 (by decide) am_h104 rfl rfl rfl ⟨by decide, Nat.le_of_ble_eq_true rfl, am_rc_of (by decide) h8⟩
theorem x110_48 : AW sv 110 48 [v0, v1, v2, v3, v4] (.int x :: r) h 0 0 Q = if ¬ x = 0 then AW sv 110 53 [v0, v1, v2, v3, v4] r h 0 0 Q else AW sv 110 51 [v0, v1, v2, v3, v4] r h 0 0 Q := e_z_ne am_h110 dX9_cue_48 rfl
theorem x110_51 : AW sv 110 51 [v0, v1, v2, v3, v4] r h 0 0 Q = AW sv 110 52 [v0, v1, v2, v3, v4] (.int (-1) :: r) h 0 0 Q := e_iconstv am_h110 dX9_cue_51 c_iconst_m1
theorem x110_52 : AW sv 110 52 [v0, v1, v2, v3, v4] [.int x] h 0 0 Q = Q (some (.int x)) h := e_iret am_h110 dX9_cue_52 rfl ⟨rfl, rfl⟩
theorem x110_53 : AW sv 110 53 [v0, v1, .int x, v3, v4] r h 0 0 Q = AW sv 110 54 [v0, v1, .int x, v3, v4] (.int x :: r) h 0 0 Q := e_pv am_h110 dX9_cue_53 rfl rfl rfl rfl
theorem x110_54 : AW sv 110 54 [v0, v1, v2, v3, v4] (.int x :: r) h 0 0 Q = if ¬ x = 0 then AW sv 110 66 [v0, v1, v2, v3, v4] r h 0 0 Q else AW sv 110 57 [v0, v1, v2, v3, v4] r h 0 0 Q := e_z_ne am_h110 dX9_cue_54 rfl
theorem x110_57 : AW sv 110 57 [.ref a, v1, v2, v3, v4] r h 0 0 Q = AW sv 110 58 [.ref a, v1, v2, v3, v4] (.ref a :: r) h 0 0 Q := e_pv am_h110 dX9_cue_57 rfl rfl rfl rfl
theorem x110_58 : AW sv 110 58 [v0, v1, v2, v3, v4] (.ref 71 :: r) (am_toH σ) 0 0 Q = AW sv 110 61 [v0, v1, v2, v3, v4] (.ref 74 :: r) (am_toH σ) 0 0 Q := e_getR am_h110 dX9_cue_58 fl_9_16 is9 rfl
theorem x110_61 : AW sv 110 61 [v0, .int x, v2, v3, v4] r h 0 0 Q = AW sv 110 62 [v0, .int x, v2, v3, v4] (.int x :: r) h 0 0 Q := e_pv am_h110 dX9_cue_61 rfl rfl rfl rfl
theorem x110_62 (hi : am_in x (am_ln a) = true) : AW sv 110 62 [v0, v1, v2, v3, v4] (.int x :: .ref a :: r) (am_toH σ) 0 0 Q = AW sv 110 63 [v0, v1, v2, v3, v4] (.int (σ.1 a x.toNatClampNeg) :: r) (am_toH σ) 0 0 Q := e_iald am_h110 dX9_cue_62 hi
theorem x110_63 : AW sv 110 63 [v0, v1, v2, v3, v4] r h 0 0 Q = AW sv 110 86 [v0, v1, v2, v3, v4] r h 0 0 Q := e_goto am_h110 dX9_cue_63 rfl
theorem x110_66 : AW sv 110 66 [v0, v1, .int x, v3, v4] r h 0 0 Q = AW sv 110 67 [v0, v1, .int x, v3, v4] (.int x :: r) h 0 0 Q := e_pv am_h110 dX9_cue_66 rfl rfl rfl rfl
theorem x110_67 : AW sv 110 67 [v0, v1, v2, v3, v4] r h 0 0 Q = AW sv 110 68 [v0, v1, v2, v3, v4] (.int (1) :: r) h 0 0 Q := e_iconstv am_h110 dX9_cue_67 c_iconst_1
theorem x110_68 : AW sv 110 68 [v0, v1, v2, v3, v4] (.int y :: .int x :: r) h 0 0 Q = if ¬ x = y then AW sv 110 80 [v0, v1, v2, v3, v4] r h 0 0 Q else AW sv 110 71 [v0, v1, v2, v3, v4] r h 0 0 Q := e_c_ne am_h110 dX9_cue_68 rfl
theorem x110_71 : AW sv 110 71 [.ref a, v1, v2, v3, v4] r h 0 0 Q = AW sv 110 72 [.ref a, v1, v2, v3, v4] (.ref a :: r) h 0 0 Q := e_pv am_h110 dX9_cue_71 rfl rfl rfl rfl
theorem x110_72 : AW sv 110 72 [v0, v1, v2, v3, v4] (.ref 71 :: r) (am_toH σ) 0 0 Q = AW sv 110 75 [v0, v1, v2, v3, v4] (.ref 75 :: r) (am_toH σ) 0 0 Q := e_getR am_h110 dX9_cue_72 fl_9_19 is9 rfl
theorem x110_75 : AW sv 110 75 [v0, .int x, v2, v3, v4] r h 0 0 Q = AW sv 110 76 [v0, .int x, v2, v3, v4] (.int x :: r) h 0 0 Q := e_pv am_h110 dX9_cue_75 rfl rfl rfl rfl
theorem x110_76 (hi : am_in x (am_ln a) = true) : AW sv 110 76 [v0, v1, v2, v3, v4] (.int x :: .ref a :: r) (am_toH σ) 0 0 Q = AW sv 110 77 [v0, v1, v2, v3, v4] (.int (σ.1 a x.toNatClampNeg) :: r) (am_toH σ) 0 0 Q := e_iald am_h110 dX9_cue_76 hi
theorem x110_77 : AW sv 110 77 [v0, v1, v2, v3, v4] r h 0 0 Q = AW sv 110 86 [v0, v1, v2, v3, v4] r h 0 0 Q := e_goto am_h110 dX9_cue_77 rfl
theorem x110_80 : AW sv 110 80 [.ref a, v1, v2, v3, v4] r h 0 0 Q = AW sv 110 81 [.ref a, v1, v2, v3, v4] (.ref a :: r) h 0 0 Q := e_pv am_h110 dX9_cue_80 rfl rfl rfl rfl
theorem x110_81 : AW sv 110 81 [v0, v1, v2, v3, v4] (.ref 71 :: r) (am_toH σ) 0 0 Q = AW sv 110 84 [v0, v1, v2, v3, v4] (.ref 76 :: r) (am_toH σ) 0 0 Q := e_getR am_h110 dX9_cue_81 fl_9_22 is9 rfl
theorem x110_84 : AW sv 110 84 [v0, .int x, v2, v3, v4] r h 0 0 Q = AW sv 110 85 [v0, .int x, v2, v3, v4] (.int x :: r) h 0 0 Q := e_pv am_h110 dX9_cue_84 rfl rfl rfl rfl
theorem x110_85 (hi : am_in x (am_ln a) = true) : AW sv 110 85 [v0, v1, v2, v3, v4] (.int x :: .ref a :: r) (am_toH σ) 0 0 Q = AW sv 110 86 [v0, v1, v2, v3, v4] (.int (σ.1 a x.toNatClampNeg) :: r) (am_toH σ) 0 0 Q := e_iald am_h110 dX9_cue_85 hi
theorem x110_86 (hc : v3.category = 1) : AW sv 110 86 [v0, v1, v2, v3, v4] (.int x :: r) h 0 0 Q = AW sv 110 88 [v0, v1, v2, v3, .int x] r h 0 0 Q := e_pv am_h110 dX9_cue_86 rfl rfl rfl (am_sti_of (Nat.le_of_ble_eq_true rfl) (am_c1_of rfl hc))
theorem x110_88 : AW sv 110 88 [v0, v1, .int x, v3, v4] r h 0 0 Q = AW sv 110 89 [v0, v1, .int x, v3, v4] (.int x :: r) h 0 0 Q := e_pv am_h110 dX9_cue_88 rfl rfl rfl rfl
theorem x110_89 : AW sv 110 89 [v0, v1, v2, v3, v4] (.int x :: r) h 0 0 Q = if ¬ x = 0 then AW sv 110 102 [v0, v1, v2, v3, v4] r h 0 0 Q else AW sv 110 92 [v0, v1, v2, v3, v4] r h 0 0 Q := e_z_ne am_h110 dX9_cue_89 rfl
theorem x110_92 : AW sv 110 92 [.ref a, v1, v2, v3, v4] r h 0 0 Q = AW sv 110 93 [.ref a, v1, v2, v3, v4] (.ref a :: r) h 0 0 Q := e_pv am_h110 dX9_cue_92 rfl rfl rfl rfl
theorem x110_93 : AW sv 110 93 [v0, v1, v2, v3, v4] (.ref 71 :: r) (am_toH σ) 0 0 Q = AW sv 110 96 [v0, v1, v2, v3, v4] (.ref 74 :: r) (am_toH σ) 0 0 Q := e_getR am_h110 dX9_cue_93 fl_9_16 is9 rfl
theorem x110_96 : AW sv 110 96 [v0, .int x, v2, v3, v4] r h 0 0 Q = AW sv 110 97 [v0, .int x, v2, v3, v4] (.int x :: r) h 0 0 Q := e_pv am_h110 dX9_cue_96 rfl rfl rfl rfl
theorem x110_97 : AW sv 110 97 [v0, v1, v2, .int x, v4] r h 0 0 Q = AW sv 110 98 [v0, v1, v2, .int x, v4] (.int x :: r) h 0 0 Q := e_pv am_h110 dX9_cue_97 rfl rfl rfl rfl
theorem x110_98 (hi : am_in y (am_ln a) = true) : AW sv 110 98 [v0, v1, v2, v3, v4] (.int x :: .int y :: .ref a :: r) (am_toH σ) 0 0 Q = AW sv 110 99 [v0, v1, v2, v3, v4] r (am_toH (am_wr σ a (upd (σ.1 a) y.toNatClampNeg x))) 0 0 Q := e_iast am_h110 dX9_cue_98 hi
theorem x110_99 : AW sv 110 99 [v0, v1, v2, v3, v4] r h 0 0 Q = AW sv 110 124 [v0, v1, v2, v3, v4] r h 0 0 Q := e_goto am_h110 dX9_cue_99 rfl
theorem x110_102 : AW sv 110 102 [v0, v1, .int x, v3, v4] r h 0 0 Q = AW sv 110 103 [v0, v1, .int x, v3, v4] (.int x :: r) h 0 0 Q := e_pv am_h110 dX9_cue_102 rfl rfl rfl rfl
theorem x110_103 : AW sv 110 103 [v0, v1, v2, v3, v4] r h 0 0 Q = AW sv 110 104 [v0, v1, v2, v3, v4] (.int (1) :: r) h 0 0 Q := e_iconstv am_h110 dX9_cue_103 c_iconst_1
theorem x110_104 : AW sv 110 104 [v0, v1, v2, v3, v4] (.int y :: .int x :: r) h 0 0 Q = if ¬ x = y then AW sv 110 117 [v0, v1, v2, v3, v4] r h 0 0 Q else AW sv 110 107 [v0, v1, v2, v3, v4] r h 0 0 Q := e_c_ne am_h110 dX9_cue_104 rfl
theorem x110_107 : AW sv 110 107 [.ref a, v1, v2, v3, v4] r h 0 0 Q = AW sv 110 108 [.ref a, v1, v2, v3, v4] (.ref a :: r) h 0 0 Q := e_pv am_h110 dX9_cue_107 rfl rfl rfl rfl
theorem x110_108 : AW sv 110 108 [v0, v1, v2, v3, v4] (.ref 71 :: r) (am_toH σ) 0 0 Q = AW sv 110 111 [v0, v1, v2, v3, v4] (.ref 75 :: r) (am_toH σ) 0 0 Q := e_getR am_h110 dX9_cue_108 fl_9_19 is9 rfl
theorem x110_111 : AW sv 110 111 [v0, .int x, v2, v3, v4] r h 0 0 Q = AW sv 110 112 [v0, .int x, v2, v3, v4] (.int x :: r) h 0 0 Q := e_pv am_h110 dX9_cue_111 rfl rfl rfl rfl
theorem x110_112 : AW sv 110 112 [v0, v1, v2, .int x, v4] r h 0 0 Q = AW sv 110 113 [v0, v1, v2, .int x, v4] (.int x :: r) h 0 0 Q := e_pv am_h110 dX9_cue_112 rfl rfl rfl rfl
theorem x110_113 (hi : am_in y (am_ln a) = true) : AW sv 110 113 [v0, v1, v2, v3, v4] (.int x :: .int y :: .ref a :: r) (am_toH σ) 0 0 Q = AW sv 110 114 [v0, v1, v2, v3, v4] r (am_toH (am_wr σ a (upd (σ.1 a) y.toNatClampNeg x))) 0 0 Q := e_iast am_h110 dX9_cue_113 hi
theorem x110_114 : AW sv 110 114 [v0, v1, v2, v3, v4] r h 0 0 Q = AW sv 110 124 [v0, v1, v2, v3, v4] r h 0 0 Q := e_goto am_h110 dX9_cue_114 rfl
theorem x110_117 : AW sv 110 117 [.ref a, v1, v2, v3, v4] r h 0 0 Q = AW sv 110 118 [.ref a, v1, v2, v3, v4] (.ref a :: r) h 0 0 Q := e_pv am_h110 dX9_cue_117 rfl rfl rfl rfl
theorem x110_118 : AW sv 110 118 [v0, v1, v2, v3, v4] (.ref 71 :: r) (am_toH σ) 0 0 Q = AW sv 110 121 [v0, v1, v2, v3, v4] (.ref 76 :: r) (am_toH σ) 0 0 Q := e_getR am_h110 dX9_cue_118 fl_9_22 is9 rfl
theorem x110_121 : AW sv 110 121 [v0, .int x, v2, v3, v4] r h 0 0 Q = AW sv 110 122 [v0, .int x, v2, v3, v4] (.int x :: r) h 0 0 Q := e_pv am_h110 dX9_cue_121 rfl rfl rfl rfl
theorem x110_122 : AW sv 110 122 [v0, v1, v2, .int x, v4] r h 0 0 Q = AW sv 110 123 [v0, v1, v2, .int x, v4] (.int x :: r) h 0 0 Q := e_pv am_h110 dX9_cue_122 rfl rfl rfl rfl
theorem x110_123 (hi : am_in y (am_ln a) = true) : AW sv 110 123 [v0, v1, v2, v3, v4] (.int x :: .int y :: .ref a :: r) (am_toH σ) 0 0 Q = AW sv 110 124 [v0, v1, v2, v3, v4] r (am_toH (am_wr σ a (upd (σ.1 a) y.toNatClampNeg x))) 0 0 Q := e_iast am_h110 dX9_cue_123 hi
theorem x110_124 : AW sv 110 124 [v0, v1, v2, v3, v4] r h 0 0 Q = AW sv 110 125 [v0, v1, v2, v3, v4] (.int (1) :: r) h 0 0 Q := e_iconstv am_h110 dX9_cue_124 c_iconst_1
theorem x110_125 : AW sv 110 125 [v0, v1, v2, v3, .int x] r h 0 0 Q = AW sv 110 127 [v0, v1, v2, v3, .int x] (.int x :: r) h 0 0 Q := e_pv am_h110 dX9_cue_125 rfl rfl rfl rfl
theorem x110_127 : AW sv 110 127 [v0, v1, v2, v3, v4] (.int y :: .int x :: r) h 0 0 Q = AW sv 110 128 [v0, v1, v2, v3, v4] (.int (x + y) :: r) h 0 0 Q := e_iadd am_h110 dX9_cue_127
theorem x110_128 : AW sv 110 128 [v0, v1, v2, v3, v4] [.int x] h 0 0 Q = Q (some (.int x)) h := e_iret am_h110 dX9_cue_128 rfl ⟨rfl, rfl⟩
theorem n110 : AM sv 110 [.ref a, .int x0, .int x1, .int x2] h Q = AW sv 110 0 [.ref a, .int x0, .int x1, .int x2, .null] [] h 0 0 Q := rfl
theorem x111_0 : AW sv 111 0 [v0, .int x, v2] r h 0 0 Q = AW sv 111 1 [v0, .int x, v2] (.int x :: r) h 0 0 Q := e_pv am_h111 dX9_stand_0 rfl rfl rfl rfl
theorem x111_1 : AW sv 111 1 [v0, v1, v2] (.int x :: r) h 0 0 Q = AW sv 111 2 [v0, v1, v2] (.long x.toInt64 :: r) h 0 0 Q := e_i2l am_h111 dX9_stand_1
theorem x111_2 : AW sv 111 2 [v0, v1, v2] r h 0 0 Q = AW sv 111 3 [v0, v1, v2] (.long (0) :: r) h 0 0 Q := e_lconstv am_h111 dX9_stand_2 c_l_0
theorem x111_3 : AW sv 111 3 [v0, v1, v2] r h 0 0 Q = AW sv 111 6 [v0, v1, v2] (.long (3) :: r) h 0 0 Q := e_ldc2 am_h111 dX9_stand_3 (by decide +kernel)
theorem x111_6 (h8 : am_cs r ≤ 8) : AW sv 111 6 [v0, v1, v2] (.long u2 :: .long u1 :: .long u0 :: r) h 0 0 Q = AM sv 104 [.long u0, .long u1, .long u2] h (fun v h1 => AW sv 111 9 [v0, v1, v2] (v.toList ++ r) h1 0 0 Q) := e_cS (as := [.long u0, .long u1, .long u2]) am_h111 dX9_stand_6 ml_9_70 (by decide) am_h104 rfl rfl rfl ⟨by decide, Nat.le_of_ble_eq_true rfl, am_rc_of (by decide) h8⟩
theorem x111_9 : AW sv 111 9 [v0, v1, v2] (.int x :: r) h 0 0 Q = if ¬ x = 0 then AW sv 111 14 [v0, v1, v2] r h 0 0 Q else AW sv 111 12 [v0, v1, v2] r h 0 0 Q := e_z_ne am_h111 dX9_stand_9 rfl
theorem x111_12 : AW sv 111 12 [v0, v1, v2] r h 0 0 Q = AW sv 111 13 [v0, v1, v2] (.int (-1) :: r) h 0 0 Q := e_iconstv am_h111 dX9_stand_12 c_iconst_m1
theorem x111_13 : AW sv 111 13 [v0, v1, v2] [.int x] h 0 0 Q = Q (some (.int x)) h := e_iret am_h111 dX9_stand_13 rfl ⟨rfl, rfl⟩
theorem x111_14 : AW sv 111 14 [.ref a, v1, v2] r h 0 0 Q = AW sv 111 15 [.ref a, v1, v2] (.ref a :: r) h 0 0 Q := e_pv am_h111 dX9_stand_14 rfl rfl rfl rfl
theorem x111_15 : AW sv 111 15 [v0, v1, v2] (.ref 71 :: r) (am_toH σ) 0 0 Q = AW sv 111 18 [v0, v1, v2] (.int (σ.1 71 5) :: r) (am_toH σ) 0 0 Q := e_getI am_h111 dX9_stand_15 fl_9_64 is9 rfl
theorem x111_18 (hc : v1.category = 1) : AW sv 111 18 [v0, v1, v2] (.int x :: r) h 0 0 Q = AW sv 111 19 [v0, v1, .int x] r h 0 0 Q := e_pv am_h111 dX9_stand_18 rfl rfl rfl (am_sti_of (Nat.le_of_ble_eq_true rfl) (am_c1_of rfl hc))
theorem x111_19 : AW sv 111 19 [.ref a, v1, v2] r h 0 0 Q = AW sv 111 20 [.ref a, v1, v2] (.ref a :: r) h 0 0 Q := e_pv am_h111 dX9_stand_19 rfl rfl rfl rfl
theorem x111_20 : AW sv 111 20 [v0, .int x, v2] r h 0 0 Q = AW sv 111 21 [v0, .int x, v2] (.int x :: r) h 0 0 Q := e_pv am_h111 dX9_stand_20 rfl rfl rfl rfl
theorem x111_21 : AW sv 111 21 [v0, v1, v2] (.int x :: .ref 71 :: r) (am_toH σ) 0 0 Q = AW sv 111 24 [v0, v1, v2] r (am_toH (am_wr σ 71 (upd (σ.1 71) 5 x))) 0 0 Q := e_putI am_h111 dX9_stand_21 fl_9_64 is9 rfl rfl rfl
theorem x111_24 : AW sv 111 24 [v0, v1, .int x] r h 0 0 Q = AW sv 111 25 [v0, v1, .int x] (.int x :: r) h 0 0 Q := e_pv am_h111 dX9_stand_24 rfl rfl rfl rfl
theorem x111_25 : AW sv 111 25 [v0, v1, v2] [.int x] h 0 0 Q = Q (some (.int x)) h := e_iret am_h111 dX9_stand_25 rfl ⟨rfl, rfl⟩
theorem n111 : AM sv 111 [.ref a, .int x0] h Q = AW sv 111 0 [.ref a, .int x0, .null] [] h 0 0 Q := rfl
theorem x112_0 : AW sv 112 0 [v0, .int x, v2, v3] r h 0 0 Q = AW sv 112 1 [v0, .int x, v2, v3] (.int x :: r) h 0 0 Q := e_pv am_h112 dX9_habit_0 rfl rfl rfl rfl
theorem x112_1 : AW sv 112 1 [v0, v1, v2, v3] (.int x :: r) h 0 0 Q = AW sv 112 2 [v0, v1, v2, v3] (.long x.toInt64 :: r) h 0 0 Q := e_i2l am_h112 dX9_habit_1
theorem x112_2 : AW sv 112 2 [v0, v1, v2, v3] r h 0 0 Q = AW sv 112 3 [v0, v1, v2, v3] (.long (0) :: r) h 0 0 Q := e_lconstv am_h112 dX9_habit_2 c_l_0
theorem x112_3 : AW sv 112 3 [v0, v1, v2, v3] r h 0 0 Q = AW sv 112 6 [v0, v1, v2, v3] (.long (4) :: r) h 0 0 Q := e_ldc2 am_h112 dX9_habit_3 (by decide +kernel)
theorem x112_6 (h8 : am_cs r ≤ 8) : AW sv 112 6 [v0, v1, v2, v3] (.long u2 :: .long u1 :: .long u0 :: r) h 0 0 Q = AM sv 104 [.long u0, .long u1, .long u2] h (fun v h1 => AW sv 112 9 [v0, v1, v2, v3] (v.toList ++ r) h1 0 0 Q) := e_cS (as := [.long u0, .long u1, .long u2]) am_h112 dX9_habit_6 ml_9_70 (by decide) am_h104 rfl rfl rfl ⟨by decide, Nat.le_of_ble_eq_true rfl, am_rc_of (by decide) h8⟩
theorem x112_9 : AW sv 112 9 [v0, v1, v2, v3] (.int x :: r) h 0 0 Q = if x = 0 then AW sv 112 35 [v0, v1, v2, v3] r h 0 0 Q else AW sv 112 12 [v0, v1, v2, v3] r h 0 0 Q := e_z_eq am_h112 dX9_habit_9 rfl
theorem x112_12 : AW sv 112 12 [v0, v1, .int x, v3] r h 0 0 Q = AW sv 112 13 [v0, v1, .int x, v3] (.int x :: r) h 0 0 Q := e_pv am_h112 dX9_habit_12 rfl rfl rfl rfl
theorem x112_13 : AW sv 112 13 [v0, v1, v2, v3] (.int x :: r) h 0 0 Q = AW sv 112 14 [v0, v1, v2, v3] (.long x.toInt64 :: r) h 0 0 Q := e_i2l am_h112 dX9_habit_13
theorem x112_14 : AW sv 112 14 [v0, v1, v2, v3] r h 0 0 Q = AW sv 112 15 [v0, v1, v2, v3] (.long (0) :: r) h 0 0 Q := e_lconstv am_h112 dX9_habit_14 c_l_0
theorem x112_15 : AW sv 112 15 [v0, .int x, v2, v3] r h 0 0 Q = AW sv 112 16 [v0, .int x, v2, v3] (.int x :: r) h 0 0 Q := e_pv am_h112 dX9_habit_15 rfl rfl rfl rfl
theorem x112_16 : AW sv 112 16 [v0, v1, v2, v3] r h 0 0 Q = AW sv 112 17 [v0, v1, v2, v3] (.int (4) :: r) h 0 0 Q := e_iconstv am_h112 dX9_habit_16 c_iconst_4
theorem x112_17 : AW sv 112 17 [v0, v1, v2, v3] (.int y :: .int x :: r) h 0 0 Q = if ¬ x = y then AW sv 112 26 [v0, v1, v2, v3] r h 0 0 Q else AW sv 112 20 [v0, v1, v2, v3] r h 0 0 Q := e_c_ne am_h112 dX9_habit_17 rfl
theorem x112_20 : AW sv 112 20 [v0, v1, v2, v3] r h 0 0 Q = AW sv 112 23 [v0, v1, v2, v3] (.long (10) :: r) h 0 0 Q := e_ldc2 am_h112 dX9_habit_20 (by decide +kernel)
theorem x112_23 : AW sv 112 23 [v0, v1, v2, v3] r h 0 0 Q = AW sv 112 29 [v0, v1, v2, v3] r h 0 0 Q := e_goto am_h112 dX9_habit_23 rfl
theorem x112_26 : AW sv 112 26 [v0, v1, v2, v3] r h 0 0 Q = AW sv 112 29 [v0, v1, v2, v3] (.long (9) :: r) h 0 0 Q := e_ldc2 am_h112 dX9_habit_26 (by decide +kernel)
theorem x112_29 (h8 : am_cs r ≤ 8) : AW sv 112 29 [v0, v1, v2, v3] (.long u2 :: .long u1 :: .long u0 :: r) h 0 0 Q = AM sv 104 [.long u0, .long u1, .long u2] h (fun v h1 => AW sv 112 32 [v0, v1, v2, v3] (v.toList ++ r) h1 0 0 Q) := e_cS (as := [.long u0, .long u1, .long u2]) am_h112 dX9_habit_29 ml_9_70 (by decide) am_h104 rfl rfl rfl ⟨by decide, Nat.le_of_ble_eq_true rfl, am_rc_of (by decide) h8⟩
theorem x112_32 : AW sv 112 32 [v0, v1, v2, v3] (.int x :: r) h 0 0 Q = if ¬ x = 0 then AW sv 112 37 [v0, v1, v2, v3] r h 0 0 Q else AW sv 112 35 [v0, v1, v2, v3] r h 0 0 Q := e_z_ne am_h112 dX9_habit_32 rfl
theorem x112_35 : AW sv 112 35 [v0, v1, v2, v3] r h 0 0 Q = AW sv 112 36 [v0, v1, v2, v3] (.int (-1) :: r) h 0 0 Q := e_iconstv am_h112 dX9_habit_35 c_iconst_m1
theorem x112_36 : AW sv 112 36 [v0, v1, v2, v3] [.int x] h 0 0 Q = Q (some (.int x)) h := e_iret am_h112 dX9_habit_36 rfl ⟨rfl, rfl⟩
theorem x112_37 : AW sv 112 37 [.ref a, v1, v2, v3] r h 0 0 Q = AW sv 112 38 [.ref a, v1, v2, v3] (.ref a :: r) h 0 0 Q := e_pv am_h112 dX9_habit_37 rfl rfl rfl rfl
theorem x112_38 : AW sv 112 38 [v0, v1, v2, v3] (.ref 71 :: r) (am_toH σ) 0 0 Q = AW sv 112 41 [v0, v1, v2, v3] (.ref 77 :: r) (am_toH σ) 0 0 Q := e_getR am_h112 dX9_habit_38 fl_9_25 is9 rfl
theorem x112_41 : AW sv 112 41 [v0, .int x, v2, v3] r h 0 0 Q = AW sv 112 42 [v0, .int x, v2, v3] (.int x :: r) h 0 0 Q := e_pv am_h112 dX9_habit_41 rfl rfl rfl rfl
theorem x112_42 (hi : am_in x (am_ln a) = true) : AW sv 112 42 [v0, v1, v2, v3] (.int x :: .ref a :: r) (am_toH σ) 0 0 Q = AW sv 112 43 [v0, v1, v2, v3] (.int (σ.1 a x.toNatClampNeg) :: r) (am_toH σ) 0 0 Q := e_iald am_h112 dX9_habit_42 hi
theorem x112_43 (hc : v2.category = 1) : AW sv 112 43 [v0, v1, v2, v3] (.int x :: r) h 0 0 Q = AW sv 112 44 [v0, v1, v2, .int x] r h 0 0 Q := e_pv am_h112 dX9_habit_43 rfl rfl rfl (am_sti_of (Nat.le_of_ble_eq_true rfl) (am_c1_of rfl hc))
theorem x112_44 : AW sv 112 44 [.ref a, v1, v2, v3] r h 0 0 Q = AW sv 112 45 [.ref a, v1, v2, v3] (.ref a :: r) h 0 0 Q := e_pv am_h112 dX9_habit_44 rfl rfl rfl rfl
theorem x112_45 : AW sv 112 45 [v0, v1, v2, v3] (.ref 71 :: r) (am_toH σ) 0 0 Q = AW sv 112 48 [v0, v1, v2, v3] (.ref 77 :: r) (am_toH σ) 0 0 Q := e_getR am_h112 dX9_habit_45 fl_9_25 is9 rfl
theorem x112_48 : AW sv 112 48 [v0, .int x, v2, v3] r h 0 0 Q = AW sv 112 49 [v0, .int x, v2, v3] (.int x :: r) h 0 0 Q := e_pv am_h112 dX9_habit_48 rfl rfl rfl rfl
theorem x112_49 : AW sv 112 49 [v0, v1, .int x, v3] r h 0 0 Q = AW sv 112 50 [v0, v1, .int x, v3] (.int x :: r) h 0 0 Q := e_pv am_h112 dX9_habit_49 rfl rfl rfl rfl
theorem x112_50 (hi : am_in y (am_ln a) = true) : AW sv 112 50 [v0, v1, v2, v3] (.int x :: .int y :: .ref a :: r) (am_toH σ) 0 0 Q = AW sv 112 51 [v0, v1, v2, v3] r (am_toH (am_wr σ a (upd (σ.1 a) y.toNatClampNeg x))) 0 0 Q := e_iast am_h112 dX9_habit_50 hi
theorem x112_51 : AW sv 112 51 [v0, v1, v2, .int x] r h 0 0 Q = AW sv 112 52 [v0, v1, v2, .int x] (.int x :: r) h 0 0 Q := e_pv am_h112 dX9_habit_51 rfl rfl rfl rfl
theorem x112_52 : AW sv 112 52 [v0, v1, v2, v3] [.int x] h 0 0 Q = Q (some (.int x)) h := e_iret am_h112 dX9_habit_52 rfl ⟨rfl, rfl⟩
theorem n112 : AM sv 112 [.ref a, .int x0, .int x1] h Q = AW sv 112 0 [.ref a, .int x0, .int x1, .null] [] h 0 0 Q := rfl
theorem x113_0 : AW sv 113 0 [v0, v1, v2, v3] r h 0 0 Q = AW sv 113 1 [v0, v1, v2, v3] (.int (0) :: r) h 0 0 Q := e_iconstv am_h113 dX9_isTaken_0 c_iconst_0
theorem x113_1 (hc : v1.category = 1) : AW sv 113 1 [v0, v1, v2, v3] (.int x :: r) h 0 0 Q = AW sv 113 2 [v0, v1, .int x, v3] r h 0 0 Q := e_pv am_h113 dX9_isTaken_1 rfl rfl rfl (am_sti_of (Nat.le_of_ble_eq_true rfl) (am_c1_of rfl hc))
theorem x113_2 : AW sv 113 2 [v0, v1, v2, v3] r h 0 0 Q = AW sv 113 3 [v0, v1, v2, v3] (.int (0) :: r) h 0 0 Q := e_iconstv am_h113 dX9_isTaken_2 c_iconst_0
theorem x113_3 (hc : v2.category = 1) : AW sv 113 3 [v0, v1, v2, v3] (.int x :: r) h 0 0 Q = AW sv 113 4 [v0, v1, v2, .int x] r h 0 0 Q := e_pv am_h113 dX9_isTaken_3 rfl rfl rfl (am_sti_of (Nat.le_of_ble_eq_true rfl) (am_c1_of rfl hc))
theorem x113_4 : AW sv 113 4 [v0, v1, v2, .int x] r h 0 0 Q = AW sv 113 5 [v0, v1, v2, .int x] (.int x :: r) h 0 0 Q := e_pv am_h113 dX9_isTaken_4 rfl rfl rfl rfl
theorem x113_5 : AW sv 113 5 [.ref a, v1, v2, v3] r h 0 0 Q = AW sv 113 6 [.ref a, v1, v2, v3] (.ref a :: r) h 0 0 Q := e_pv am_h113 dX9_isTaken_5 rfl rfl rfl rfl
theorem x113_6 : AW sv 113 6 [v0, v1, v2, v3] (.ref 71 :: r) (am_toH σ) 0 0 Q = AW sv 113 9 [v0, v1, v2, v3] (.int (σ.1 71 7) :: r) (am_toH σ) 0 0 Q := e_getI am_h113 dX9_isTaken_6 fl_9_76 is9 rfl
theorem x113_9 : AW sv 113 9 [v0, v1, v2, v3] (.int y :: .int x :: r) h 0 0 Q = if y ≤ x then AW sv 113 40 [v0, v1, v2, v3] r h 0 0 Q else AW sv 113 12 [v0, v1, v2, v3] r h 0 0 Q := e_c_ge am_h113 dX9_isTaken_9 rfl
theorem x113_12 : AW sv 113 12 [v0, v1, .int x, v3] r h 0 0 Q = AW sv 113 13 [v0, v1, .int x, v3] (.int x :: r) h 0 0 Q := e_pv am_h113 dX9_isTaken_12 rfl rfl rfl rfl
theorem x113_13 : AW sv 113 13 [v0, v1, v2, v3] (.int x :: r) h 0 0 Q = if ¬ x = 0 then AW sv 113 28 [v0, v1, v2, v3] r h 0 0 Q else AW sv 113 16 [v0, v1, v2, v3] r h 0 0 Q := e_z_ne am_h113 dX9_isTaken_13 rfl
theorem x113_16 : AW sv 113 16 [.ref a, v1, v2, v3] r h 0 0 Q = AW sv 113 17 [.ref a, v1, v2, v3] (.ref a :: r) h 0 0 Q := e_pv am_h113 dX9_isTaken_16 rfl rfl rfl rfl
theorem x113_17 : AW sv 113 17 [v0, v1, v2, v3] (.ref 71 :: r) (am_toH σ) 0 0 Q = AW sv 113 20 [v0, v1, v2, v3] (.ref 78 :: r) (am_toH σ) 0 0 Q := e_getR am_h113 dX9_isTaken_17 fl_9_28 is9 rfl
theorem x113_20 : AW sv 113 20 [v0, v1, v2, v3] r h 0 0 Q = AW sv 113 21 [v0, v1, v2, v3] (.int (3) :: r) h 0 0 Q := e_iconstv am_h113 dX9_isTaken_20 c_iconst_3
theorem x113_21 : AW sv 113 21 [v0, v1, v2, .int x] r h 0 0 Q = AW sv 113 22 [v0, v1, v2, .int x] (.int x :: r) h 0 0 Q := e_pv am_h113 dX9_isTaken_21 rfl rfl rfl rfl
theorem x113_22 : AW sv 113 22 [v0, v1, v2, v3] (.int y :: .int x :: r) h 0 0 Q = AW sv 113 23 [v0, v1, v2, v3] (.int (x * y) :: r) h 0 0 Q := e_imul am_h113 dX9_isTaken_22
theorem x113_23 (hi : am_in x (am_ln a) = true) : AW sv 113 23 [v0, v1, v2, v3] (.int x :: .ref a :: r) (am_toH σ) 0 0 Q = AW sv 113 24 [v0, v1, v2, v3] (.int (σ.1 a x.toNatClampNeg) :: r) (am_toH σ) 0 0 Q := e_iald am_h113 dX9_isTaken_23 hi
theorem x113_24 : AW sv 113 24 [v0, .int x, v2, v3] r h 0 0 Q = AW sv 113 25 [v0, .int x, v2, v3] (.int x :: r) h 0 0 Q := e_pv am_h113 dX9_isTaken_24 rfl rfl rfl rfl
theorem x113_25 : AW sv 113 25 [v0, v1, v2, v3] (.int y :: .int x :: r) h 0 0 Q = if ¬ x = y then AW sv 113 32 [v0, v1, v2, v3] r h 0 0 Q else AW sv 113 28 [v0, v1, v2, v3] r h 0 0 Q := e_c_ne am_h113 dX9_isTaken_25 rfl
theorem x113_28 : AW sv 113 28 [v0, v1, v2, v3] r h 0 0 Q = AW sv 113 29 [v0, v1, v2, v3] (.int (1) :: r) h 0 0 Q := e_iconstv am_h113 dX9_isTaken_28 c_iconst_1
theorem x113_29 : AW sv 113 29 [v0, v1, v2, v3] r h 0 0 Q = AW sv 113 33 [v0, v1, v2, v3] r h 0 0 Q := e_goto am_h113 dX9_isTaken_29 rfl
theorem x113_32 : AW sv 113 32 [v0, v1, v2, v3] r h 0 0 Q = AW sv 113 33 [v0, v1, v2, v3] (.int (0) :: r) h 0 0 Q := e_iconstv am_h113 dX9_isTaken_32 c_iconst_0
theorem x113_33 (hc : v1.category = 1) : AW sv 113 33 [v0, v1, v2, v3] (.int x :: r) h 0 0 Q = AW sv 113 34 [v0, v1, .int x, v3] r h 0 0 Q := e_pv am_h113 dX9_isTaken_33 rfl rfl rfl (am_sti_of (Nat.le_of_ble_eq_true rfl) (am_c1_of rfl hc))
theorem x113_34 (hc : v2.category = 1) : AW sv 113 34 [v0, v1, v2, .int x] r h 0 0 Q = AW sv 113 37 [v0, v1, v2, .int (x + (1))] r h 0 0 Q := e_pv am_h113 dX9_isTaken_34 rfl rfl rfl (am_inc_of (ls := [v0, v1, v2, .int x]) (k := 3) rfl c_iconst_1 (am_c1_of (ls := [v0, v1, v2, .int x]) (k := 2) (v := v2) rfl hc))
theorem x113_37 : AW sv 113 37 [v0, v1, v2, v3] r h 0 0 Q = AW sv 113 4 [v0, v1, v2, v3] r h 0 0 Q := e_goto am_h113 dX9_isTaken_37 rfl
theorem x113_40 : AW sv 113 40 [v0, v1, .int x, v3] r h 0 0 Q = AW sv 113 41 [v0, v1, .int x, v3] (.int x :: r) h 0 0 Q := e_pv am_h113 dX9_isTaken_40 rfl rfl rfl rfl
theorem x113_41 (hz : x = 0 ∨ x = 1) : AW sv 113 41 [v0, v1, v2, v3] [.int x] h 0 0 Q = Q (some (.int x)) h := e_zret am_h113 dX9_isTaken_41 rfl ⟨rfl, rfl⟩ hz
theorem n113 : AM sv 113 [.ref a, .int x0] h Q = AW sv 113 0 [.ref a, .int x0, .null, .null] [] h 0 0 Q := rfl
theorem x114_0 : AW sv 114 0 [.ref a, v1, v2] r h 0 0 Q = AW sv 114 1 [.ref a, v1, v2] (.ref a :: r) h 0 0 Q := e_pv am_h114 dX9_comes_0 rfl rfl rfl rfl
theorem x114_1 : AW sv 114 1 [v0, v1, v2] (.ref 71 :: r) (am_toH σ) 0 0 Q = AW sv 114 4 [v0, v1, v2] (.ref 78 :: r) (am_toH σ) 0 0 Q := e_getR am_h114 dX9_comes_1 fl_9_28 is9 rfl
theorem x114_4 : AW sv 114 4 [v0, v1, v2] r h 0 0 Q = AW sv 114 5 [v0, v1, v2] (.int (3) :: r) h 0 0 Q := e_iconstv am_h114 dX9_comes_4 c_iconst_3
theorem x114_5 : AW sv 114 5 [.ref a, v1, v2] r h 0 0 Q = AW sv 114 6 [.ref a, v1, v2] (.ref a :: r) h 0 0 Q := e_pv am_h114 dX9_comes_5 rfl rfl rfl rfl
theorem x114_6 : AW sv 114 6 [v0, v1, v2] (.ref 71 :: r) (am_toH σ) 0 0 Q = AW sv 114 9 [v0, v1, v2] (.int (σ.1 71 7) :: r) (am_toH σ) 0 0 Q := e_getI am_h114 dX9_comes_6 fl_9_76 is9 rfl
theorem x114_9 : AW sv 114 9 [v0, v1, v2] (.int y :: .int x :: r) h 0 0 Q = AW sv 114 10 [v0, v1, v2] (.int (x * y) :: r) h 0 0 Q := e_imul am_h114 dX9_comes_9
theorem x114_10 : AW sv 114 10 [v0, .int x, v2] r h 0 0 Q = AW sv 114 11 [v0, .int x, v2] (.int x :: r) h 0 0 Q := e_pv am_h114 dX9_comes_10 rfl rfl rfl rfl
theorem x114_11 (hi : am_in y (am_ln a) = true) : AW sv 114 11 [v0, v1, v2] (.int x :: .int y :: .ref a :: r) (am_toH σ) 0 0 Q = AW sv 114 12 [v0, v1, v2] r (am_toH (am_wr σ a (upd (σ.1 a) y.toNatClampNeg x))) 0 0 Q := e_iast am_h114 dX9_comes_11 hi
theorem x114_12 : AW sv 114 12 [.ref a, v1, v2] r h 0 0 Q = AW sv 114 13 [.ref a, v1, v2] (.ref a :: r) h 0 0 Q := e_pv am_h114 dX9_comes_12 rfl rfl rfl rfl
theorem x114_13 : AW sv 114 13 [v0, v1, v2] (.ref 71 :: r) (am_toH σ) 0 0 Q = AW sv 114 16 [v0, v1, v2] (.ref 78 :: r) (am_toH σ) 0 0 Q := e_getR am_h114 dX9_comes_13 fl_9_28 is9 rfl
theorem x114_16 : AW sv 114 16 [v0, v1, v2] r h 0 0 Q = AW sv 114 17 [v0, v1, v2] (.int (3) :: r) h 0 0 Q := e_iconstv am_h114 dX9_comes_16 c_iconst_3
theorem x114_17 : AW sv 114 17 [.ref a, v1, v2] r h 0 0 Q = AW sv 114 18 [.ref a, v1, v2] (.ref a :: r) h 0 0 Q := e_pv am_h114 dX9_comes_17 rfl rfl rfl rfl
theorem x114_18 : AW sv 114 18 [v0, v1, v2] (.ref 71 :: r) (am_toH σ) 0 0 Q = AW sv 114 21 [v0, v1, v2] (.int (σ.1 71 7) :: r) (am_toH σ) 0 0 Q := e_getI am_h114 dX9_comes_18 fl_9_76 is9 rfl
theorem x114_21 : AW sv 114 21 [v0, v1, v2] (.int y :: .int x :: r) h 0 0 Q = AW sv 114 22 [v0, v1, v2] (.int (x * y) :: r) h 0 0 Q := e_imul am_h114 dX9_comes_21
theorem x114_22 : AW sv 114 22 [v0, v1, v2] r h 0 0 Q = AW sv 114 23 [v0, v1, v2] (.int (1) :: r) h 0 0 Q := e_iconstv am_h114 dX9_comes_22 c_iconst_1
theorem x114_23 : AW sv 114 23 [v0, v1, v2] (.int y :: .int x :: r) h 0 0 Q = AW sv 114 24 [v0, v1, v2] (.int (x + y) :: r) h 0 0 Q := e_iadd am_h114 dX9_comes_23
theorem x114_24 : AW sv 114 24 [v0, v1, .int x] r h 0 0 Q = AW sv 114 25 [v0, v1, .int x] (.int x :: r) h 0 0 Q := e_pv am_h114 dX9_comes_24 rfl rfl rfl rfl
theorem x114_25 (hi : am_in y (am_ln a) = true) : AW sv 114 25 [v0, v1, v2] (.int x :: .int y :: .ref a :: r) (am_toH σ) 0 0 Q = AW sv 114 26 [v0, v1, v2] r (am_toH (am_wr σ a (upd (σ.1 a) y.toNatClampNeg x))) 0 0 Q := e_iast am_h114 dX9_comes_25 hi
theorem x114_26 : AW sv 114 26 [.ref a, v1, v2] r h 0 0 Q = AW sv 114 27 [.ref a, v1, v2] (.ref a :: r) h 0 0 Q := e_pv am_h114 dX9_comes_26 rfl rfl rfl rfl
theorem x114_27 : AW sv 114 27 [v0, v1, v2] (.ref 71 :: r) (am_toH σ) 0 0 Q = AW sv 114 30 [v0, v1, v2] (.ref 78 :: r) (am_toH σ) 0 0 Q := e_getR am_h114 dX9_comes_27 fl_9_28 is9 rfl
theorem x114_30 : AW sv 114 30 [v0, v1, v2] r h 0 0 Q = AW sv 114 31 [v0, v1, v2] (.int (3) :: r) h 0 0 Q := e_iconstv am_h114 dX9_comes_30 c_iconst_3
theorem x114_31 : AW sv 114 31 [.ref a, v1, v2] r h 0 0 Q = AW sv 114 32 [.ref a, v1, v2] (.ref a :: r) h 0 0 Q := e_pv am_h114 dX9_comes_31 rfl rfl rfl rfl
theorem x114_32 : AW sv 114 32 [v0, v1, v2] (.ref 71 :: r) (am_toH σ) 0 0 Q = AW sv 114 35 [v0, v1, v2] (.int (σ.1 71 7) :: r) (am_toH σ) 0 0 Q := e_getI am_h114 dX9_comes_32 fl_9_76 is9 rfl
theorem x114_35 : AW sv 114 35 [v0, v1, v2] (.int y :: .int x :: r) h 0 0 Q = AW sv 114 36 [v0, v1, v2] (.int (x * y) :: r) h 0 0 Q := e_imul am_h114 dX9_comes_35
theorem x114_36 : AW sv 114 36 [v0, v1, v2] r h 0 0 Q = AW sv 114 37 [v0, v1, v2] (.int (2) :: r) h 0 0 Q := e_iconstv am_h114 dX9_comes_36 c_iconst_2
theorem x114_37 : AW sv 114 37 [v0, v1, v2] (.int y :: .int x :: r) h 0 0 Q = AW sv 114 38 [v0, v1, v2] (.int (x + y) :: r) h 0 0 Q := e_iadd am_h114 dX9_comes_37
theorem x114_38 : AW sv 114 38 [v0, v1, v2] r h 0 0 Q = AW sv 114 39 [v0, v1, v2] (.int (3) :: r) h 0 0 Q := e_iconstv am_h114 dX9_comes_38 c_iconst_3
theorem x114_39 (hi : am_in y (am_ln a) = true) : AW sv 114 39 [v0, v1, v2] (.int x :: .int y :: .ref a :: r) (am_toH σ) 0 0 Q = AW sv 114 40 [v0, v1, v2] r (am_toH (am_wr σ a (upd (σ.1 a) y.toNatClampNeg x))) 0 0 Q := e_iast am_h114 dX9_comes_39 hi
theorem x114_40 : AW sv 114 40 [.ref a, v1, v2] r h 0 0 Q = AW sv 114 41 [.ref a, v1, v2] (.ref a :: r) h 0 0 Q := e_pv am_h114 dX9_comes_40 rfl rfl rfl rfl
theorem x114_41 (hc : v.category = 1) : AW sv 114 41 [v0, v1, v2] (v :: r) h 0 0 Q = AW sv 114 42 [v0, v1, v2] (v :: v :: r) h 0 0 Q := e_dup am_h114 dX9_comes_41 hc
theorem x114_42 : AW sv 114 42 [v0, v1, v2] (.ref 71 :: r) (am_toH σ) 0 0 Q = AW sv 114 45 [v0, v1, v2] (.int (σ.1 71 7) :: r) (am_toH σ) 0 0 Q := e_getI am_h114 dX9_comes_42 fl_9_76 is9 rfl
theorem x114_45 : AW sv 114 45 [v0, v1, v2] r h 0 0 Q = AW sv 114 46 [v0, v1, v2] (.int (1) :: r) h 0 0 Q := e_iconstv am_h114 dX9_comes_45 c_iconst_1
theorem x114_46 : AW sv 114 46 [v0, v1, v2] (.int y :: .int x :: r) h 0 0 Q = AW sv 114 47 [v0, v1, v2] (.int (x + y) :: r) h 0 0 Q := e_iadd am_h114 dX9_comes_46
theorem x114_47 : AW sv 114 47 [v0, v1, v2] (.int x :: .ref 71 :: r) (am_toH σ) 0 0 Q = AW sv 114 50 [v0, v1, v2] r (am_toH (am_wr σ 71 (upd (σ.1 71) 7 x))) 0 0 Q := e_putI am_h114 dX9_comes_47 fl_9_76 is9 rfl rfl rfl
theorem x114_50 : AW sv 114 50 [.ref a, v1, v2] r h 0 0 Q = AW sv 114 51 [.ref a, v1, v2] (.ref a :: r) h 0 0 Q := e_pv am_h114 dX9_comes_50 rfl rfl rfl rfl
theorem x114_51 : AW sv 114 51 [v0, v1, v2] (.ref 71 :: r) (am_toH σ) 0 0 Q = AW sv 114 54 [v0, v1, v2] (.int (σ.1 71 7) :: r) (am_toH σ) 0 0 Q := e_getI am_h114 dX9_comes_51 fl_9_76 is9 rfl
theorem x114_54 : AW sv 114 54 [v0, v1, v2] r h 0 0 Q = AW sv 114 55 [v0, v1, v2] (.int (1) :: r) h 0 0 Q := e_iconstv am_h114 dX9_comes_54 c_iconst_1
theorem x114_55 : AW sv 114 55 [v0, v1, v2] (.int y :: .int x :: r) h 0 0 Q = AW sv 114 56 [v0, v1, v2] (.int (x - y) :: r) h 0 0 Q := e_isub am_h114 dX9_comes_55
theorem x114_56 : AW sv 114 56 [v0, v1, v2] [.int x] h 0 0 Q = Q (some (.int x)) h := e_iret am_h114 dX9_comes_56 rfl ⟨rfl, rfl⟩
theorem n114 : AM sv 114 [.ref a, .int x0, .int x1] h Q = AW sv 114 0 [.ref a, .int x0, .int x1] [] h 0 0 Q := rfl
theorem x115_0 : AW sv 115 0 [v0, .int x, v2] r h 0 0 Q = AW sv 115 1 [v0, .int x, v2] (.int x :: r) h 0 0 Q := e_pv am_h115 dX9_watcher_0 rfl rfl rfl rfl
theorem x115_1 : AW sv 115 1 [v0, v1, v2] (.int x :: r) h 0 0 Q = AW sv 115 2 [v0, v1, v2] (.long x.toInt64 :: r) h 0 0 Q := e_i2l am_h115 dX9_watcher_1
theorem x115_2 : AW sv 115 2 [v0, v1, v2] r h 0 0 Q = AW sv 115 3 [v0, v1, v2] (.long (0) :: r) h 0 0 Q := e_lconstv am_h115 dX9_watcher_2 c_l_0
theorem x115_3 : AW sv 115 3 [v0, v1, v2] r h 0 0 Q = AW sv 115 6 [v0, v1, v2] (.long (11) :: r) h 0 0 Q := e_ldc2 am_h115 dX9_watcher_3 (by decide +kernel)
theorem x115_6 (h8 : am_cs r ≤ 8) : AW sv 115 6 [v0, v1, v2] (.long u2 :: .long u1 :: .long u0 :: r) h 0 0 Q = AM sv 104 [.long u0, .long u1, .long u2] h (fun v h1 => AW sv 115 9 [v0, v1, v2] (v.toList ++ r) h1 0 0 Q) := e_cS (as := [.long u0, .long u1, .long u2]) am_h115 dX9_watcher_6 ml_9_70 (by decide) am_h104 rfl rfl rfl ⟨by decide, Nat.le_of_ble_eq_true rfl, am_rc_of (by decide) h8⟩
theorem x115_9 : AW sv 115 9 [v0, v1, v2] (.int x :: r) h 0 0 Q = if x = 0 then AW sv 115 24 [v0, v1, v2] r h 0 0 Q else AW sv 115 12 [v0, v1, v2] r h 0 0 Q := e_z_eq am_h115 dX9_watcher_9 rfl
theorem x115_12 : AW sv 115 12 [v0, v1, .int x] r h 0 0 Q = AW sv 115 13 [v0, v1, .int x] (.int x :: r) h 0 0 Q := e_pv am_h115 dX9_watcher_12 rfl rfl rfl rfl
theorem x115_13 : AW sv 115 13 [v0, v1, v2] (.int x :: r) h 0 0 Q = AW sv 115 14 [v0, v1, v2] (.long x.toInt64 :: r) h 0 0 Q := e_i2l am_h115 dX9_watcher_13
theorem x115_14 : AW sv 115 14 [v0, v1, v2] r h 0 0 Q = AW sv 115 15 [v0, v1, v2] (.long (0) :: r) h 0 0 Q := e_lconstv am_h115 dX9_watcher_14 c_l_0
theorem x115_15 : AW sv 115 15 [v0, v1, v2] r h 0 0 Q = AW sv 115 18 [v0, v1, v2] (.long (3) :: r) h 0 0 Q := e_ldc2 am_h115 dX9_watcher_15 (by decide +kernel)
theorem x115_18 (h8 : am_cs r ≤ 8) : AW sv 115 18 [v0, v1, v2] (.long u2 :: .long u1 :: .long u0 :: r) h 0 0 Q = AM sv 104 [.long u0, .long u1, .long u2] h (fun v h1 => AW sv 115 21 [v0, v1, v2] (v.toList ++ r) h1 0 0 Q) := e_cS (as := [.long u0, .long u1, .long u2]) am_h115 dX9_watcher_18 ml_9_70 (by decide) am_h104 rfl rfl rfl ⟨by decide, Nat.le_of_ble_eq_true rfl, am_rc_of (by decide) h8⟩
theorem x115_21 : AW sv 115 21 [v0, v1, v2] (.int x :: r) h 0 0 Q = if ¬ x = 0 then AW sv 115 26 [v0, v1, v2] r h 0 0 Q else AW sv 115 24 [v0, v1, v2] r h 0 0 Q := e_z_ne am_h115 dX9_watcher_21 rfl
theorem x115_24 : AW sv 115 24 [v0, v1, v2] r h 0 0 Q = AW sv 115 25 [v0, v1, v2] (.int (-1) :: r) h 0 0 Q := e_iconstv am_h115 dX9_watcher_24 c_iconst_m1
theorem x115_25 : AW sv 115 25 [v0, v1, v2] [.int x] h 0 0 Q = Q (some (.int x)) h := e_iret am_h115 dX9_watcher_25 rfl ⟨rfl, rfl⟩
theorem x115_26 : AW sv 115 26 [.ref a, v1, v2] r h 0 0 Q = AW sv 115 27 [.ref a, v1, v2] (.ref a :: r) h 0 0 Q := e_pv am_h115 dX9_watcher_26 rfl rfl rfl rfl
theorem x115_27 : AW sv 115 27 [v0, .int x, v2] r h 0 0 Q = AW sv 115 28 [v0, .int x, v2] (.int x :: r) h 0 0 Q := e_pv am_h115 dX9_watcher_27 rfl rfl rfl rfl
theorem x115_28 (h8 : am_cs r ≤ 8) : AW sv 115 28 [v0, v1, v2] (.int x0 :: .ref 71 :: r) (am_toH σ) 0 0 Q = AM sv 113 [.ref 71, .int x0] (am_toH σ) (fun v h1 => AW sv 115 31 [v0, v1, v2] (v.toList ++ r) h1 0 0 Q) := e_cV (as := [.int x0]) am_h115 dX9_watcher_28 ml_9_98 (by decide) am_h113 rfl is9 rfl rfl ⟨by decide, Nat.le_of_ble_eq_true rfl, am_rc_of (by decide) h8⟩
theorem x115_31 : AW sv 115 31 [v0, v1, v2] (.int x :: r) h 0 0 Q = if x = 0 then AW sv 115 37 [v0, v1, v2] r h 0 0 Q else AW sv 115 34 [v0, v1, v2] r h 0 0 Q := e_z_eq am_h115 dX9_watcher_31 rfl
theorem x115_34 : AW sv 115 34 [v0, v1, v2] r h 0 0 Q = AW sv 115 36 [v0, v1, v2] (.int (-2) :: r) h 0 0 Q := e_bipushv am_h115 dX9_watcher_34 c_bipush_m2
theorem x115_36 : AW sv 115 36 [v0, v1, v2] [.int x] h 0 0 Q = Q (some (.int x)) h := e_iret am_h115 dX9_watcher_36 rfl ⟨rfl, rfl⟩
theorem x115_37 : AW sv 115 37 [.ref a, v1, v2] r h 0 0 Q = AW sv 115 38 [.ref a, v1, v2] (.ref a :: r) h 0 0 Q := e_pv am_h115 dX9_watcher_37 rfl rfl rfl rfl
theorem x115_38 : AW sv 115 38 [v0, v1, v2] (.ref 71 :: r) (am_toH σ) 0 0 Q = AW sv 115 41 [v0, v1, v2] (.int (σ.1 71 7) :: r) (am_toH σ) 0 0 Q := e_getI am_h115 dX9_watcher_38 fl_9_76 is9 rfl
theorem x115_41 : AW sv 115 41 [v0, v1, v2] r h 0 0 Q = AW sv 115 43 [v0, v1, v2] (.int (8) :: r) h 0 0 Q := e_bipushv am_h115 dX9_watcher_41 c_bipush_8
theorem x115_43 : AW sv 115 43 [v0, v1, v2] (.int y :: .int x :: r) h 0 0 Q = if ¬ x = y then AW sv 115 51 [v0, v1, v2] r h 0 0 Q else AW sv 115 46 [v0, v1, v2] r h 0 0 Q := e_c_ne am_h115 dX9_watcher_43 rfl
theorem x115_46 : AW sv 115 46 [v0, v1, v2] r h 0 0 Q = AW sv 115 48 [v0, v1, v2] (.int (-3) :: r) h 0 0 Q := e_bipushv am_h115 dX9_watcher_46 c_bipush_m3
theorem x115_48 : AW sv 115 48 [v0, v1, v2] r h 0 0 Q = AW sv 115 57 [v0, v1, v2] r h 0 0 Q := e_goto am_h115 dX9_watcher_48 rfl
theorem x115_51 : AW sv 115 51 [.ref a, v1, v2] r h 0 0 Q = AW sv 115 52 [.ref a, v1, v2] (.ref a :: r) h 0 0 Q := e_pv am_h115 dX9_watcher_51 rfl rfl rfl rfl
theorem x115_52 : AW sv 115 52 [v0, .int x, v2] r h 0 0 Q = AW sv 115 53 [v0, .int x, v2] (.int x :: r) h 0 0 Q := e_pv am_h115 dX9_watcher_52 rfl rfl rfl rfl
theorem x115_53 : AW sv 115 53 [v0, v1, .int x] r h 0 0 Q = AW sv 115 54 [v0, v1, .int x] (.int x :: r) h 0 0 Q := e_pv am_h115 dX9_watcher_53 rfl rfl rfl rfl
theorem x115_54 (h8 : am_cs r ≤ 8) : AW sv 115 54 [v0, v1, v2] (.int x1 :: .int x0 :: .ref 71 :: r) (am_toH σ) 0 0 Q = AM sv 114 [.ref 71, .int x0, .int x1] (am_toH σ) (fun v h1 => AW sv 115 57 [v0, v1, v2] (v.toList ++ r) h1 0 0 Q) := e_cV (as := [.int x0, .int x1]) am_h115 dX9_watcher_54 ml_9_101 (by decide) am_h114 rfl is9 rfl rfl ⟨by decide, Nat.le_of_ble_eq_true rfl, am_rc_of (by decide) h8⟩
theorem x115_57 : AW sv 115 57 [v0, v1, v2] [.int x] h 0 0 Q = Q (some (.int x)) h := e_iret am_h115 dX9_watcher_57 rfl ⟨rfl, rfl⟩
theorem n115 : AM sv 115 [.ref a, .int x0, .int x1] h Q = AW sv 115 0 [.ref a, .int x0, .int x1] [] h 0 0 Q := rfl
theorem x116_0 : AW sv 116 0 [.ref a, v1, v2, v3] r h 0 0 Q = AW sv 116 1 [.ref a, v1, v2, v3] (.ref a :: r) h 0 0 Q := e_pv am_h116 dX9_doubt_0 rfl rfl rfl rfl
theorem x116_1 : AW sv 116 1 [v0, .int x, v2, v3] r h 0 0 Q = AW sv 116 2 [v0, .int x, v2, v3] (.int x :: r) h 0 0 Q := e_pv am_h116 dX9_doubt_1 rfl rfl rfl rfl
theorem x116_2 (h8 : am_cs r ≤ 8) : AW sv 116 2 [v0, v1, v2, v3] (.int x0 :: .ref 71 :: r) (am_toH σ) 0 0 Q = AM sv 108 [.ref 71, .int x0] (am_toH σ) (fun v h1 => AW sv 116 5 [v0, v1, v2, v3] (v.toList ++ r) h1 0 0 Q) := e_cV (as := [.int x0]) am_h116 dX9_doubt_2 ml_9_105 (by decide) am_h108 rfl is9 rfl rfl ⟨by decide, Nat.le_of_ble_eq_true rfl, am_rc_of (by decide) h8⟩
theorem x116_5 : AW sv 116 5 [v0, v1, v2, v3] (.int x :: r) h 0 0 Q = if x = 0 then AW sv 116 20 [v0, v1, v2, v3] r h 0 0 Q else AW sv 116 8 [v0, v1, v2, v3] r h 0 0 Q := e_z_eq am_h116 dX9_doubt_5 rfl
theorem x116_8 : AW sv 116 8 [v0, v1, .int x, v3] r h 0 0 Q = AW sv 116 9 [v0, v1, .int x, v3] (.int x :: r) h 0 0 Q := e_pv am_h116 dX9_doubt_8 rfl rfl rfl rfl
theorem x116_9 : AW sv 116 9 [v0, v1, v2, v3] (.int x :: r) h 0 0 Q = AW sv 116 10 [v0, v1, v2, v3] (.long x.toInt64 :: r) h 0 0 Q := e_i2l am_h116 dX9_doubt_9
theorem x116_10 : AW sv 116 10 [v0, v1, v2, v3] r h 0 0 Q = AW sv 116 11 [v0, v1, v2, v3] (.long (0) :: r) h 0 0 Q := e_lconstv am_h116 dX9_doubt_10 c_l_0
theorem x116_11 : AW sv 116 11 [v0, v1, v2, v3] r h 0 0 Q = AW sv 116 14 [v0, v1, v2, v3] (.long (9) :: r) h 0 0 Q := e_ldc2 am_h116 dX9_doubt_11 (by decide +kernel)
theorem x116_14 (h8 : am_cs r ≤ 8) : AW sv 116 14 [v0, v1, v2, v3] (.long u2 :: .long u1 :: .long u0 :: r) h 0 0 Q = AM sv 104 [.long u0, .long u1, .long u2] h (fun v h1 => AW sv 116 17 [v0, v1, v2, v3] (v.toList ++ r) h1 0 0 Q) := e_cS (as := [.long u0, .long u1, .long u2]) am_h116 dX9_doubt_14 ml_9_70 (by decide) am_h104 rfl rfl rfl ⟨by decide, Nat.le_of_ble_eq_true rfl, am_rc_of (by decide) h8⟩
theorem x116_17 : AW sv 116 17 [v0, v1, v2, v3] (.int x :: r) h 0 0 Q = if ¬ x = 0 then AW sv 116 22 [v0, v1, v2, v3] r h 0 0 Q else AW sv 116 20 [v0, v1, v2, v3] r h 0 0 Q := e_z_ne am_h116 dX9_doubt_17 rfl
theorem x116_20 : AW sv 116 20 [v0, v1, v2, v3] r h 0 0 Q = AW sv 116 21 [v0, v1, v2, v3] (.int (-1) :: r) h 0 0 Q := e_iconstv am_h116 dX9_doubt_20 c_iconst_m1
theorem x116_21 : AW sv 116 21 [v0, v1, v2, v3] [.int x] h 0 0 Q = Q (some (.int x)) h := e_iret am_h116 dX9_doubt_21 rfl ⟨rfl, rfl⟩
theorem x116_22 : AW sv 116 22 [.ref a, v1, v2, v3] r h 0 0 Q = AW sv 116 23 [.ref a, v1, v2, v3] (.ref a :: r) h 0 0 Q := e_pv am_h116 dX9_doubt_22 rfl rfl rfl rfl
theorem x116_23 : AW sv 116 23 [v0, v1, v2, v3] (.ref 71 :: r) (am_toH σ) 0 0 Q = AW sv 116 26 [v0, v1, v2, v3] (.ref 78 :: r) (am_toH σ) 0 0 Q := e_getR am_h116 dX9_doubt_23 fl_9_28 is9 rfl
theorem x116_26 : AW sv 116 26 [v0, v1, v2, v3] r h 0 0 Q = AW sv 116 27 [v0, v1, v2, v3] (.int (3) :: r) h 0 0 Q := e_iconstv am_h116 dX9_doubt_26 c_iconst_3
theorem x116_27 : AW sv 116 27 [v0, .int x, v2, v3] r h 0 0 Q = AW sv 116 28 [v0, .int x, v2, v3] (.int x :: r) h 0 0 Q := e_pv am_h116 dX9_doubt_27 rfl rfl rfl rfl
theorem x116_28 : AW sv 116 28 [v0, v1, v2, v3] (.int y :: .int x :: r) h 0 0 Q = AW sv 116 29 [v0, v1, v2, v3] (.int (x * y) :: r) h 0 0 Q := e_imul am_h116 dX9_doubt_28
theorem x116_29 : AW sv 116 29 [v0, v1, v2, v3] r h 0 0 Q = AW sv 116 30 [v0, v1, v2, v3] (.int (1) :: r) h 0 0 Q := e_iconstv am_h116 dX9_doubt_29 c_iconst_1
theorem x116_30 : AW sv 116 30 [v0, v1, v2, v3] (.int y :: .int x :: r) h 0 0 Q = AW sv 116 31 [v0, v1, v2, v3] (.int (x + y) :: r) h 0 0 Q := e_iadd am_h116 dX9_doubt_30
theorem x116_31 (hi : am_in x (am_ln a) = true) : AW sv 116 31 [v0, v1, v2, v3] (.int x :: .ref a :: r) (am_toH σ) 0 0 Q = AW sv 116 32 [v0, v1, v2, v3] (.int (σ.1 a x.toNatClampNeg) :: r) (am_toH σ) 0 0 Q := e_iald am_h116 dX9_doubt_31 hi
theorem x116_32 : AW sv 116 32 [v0, v1, v2, v3] r h 0 0 Q = AW sv 116 33 [v0, v1, v2, v3] (.int (1) :: r) h 0 0 Q := e_iconstv am_h116 dX9_doubt_32 c_iconst_1
theorem x116_33 : AW sv 116 33 [v0, v1, v2, v3] (.int y :: .int x :: r) h 0 0 Q = if x = y then AW sv 116 39 [v0, v1, v2, v3] r h 0 0 Q else AW sv 116 36 [v0, v1, v2, v3] r h 0 0 Q := e_c_eq am_h116 dX9_doubt_33 rfl
theorem x116_36 : AW sv 116 36 [v0, v1, v2, v3] r h 0 0 Q = AW sv 116 38 [v0, v1, v2, v3] (.int (-12) :: r) h 0 0 Q := e_bipushv am_h116 dX9_doubt_36 c_bipush_m12
theorem x116_38 : AW sv 116 38 [v0, v1, v2, v3] [.int x] h 0 0 Q = Q (some (.int x)) h := e_iret am_h116 dX9_doubt_38 rfl ⟨rfl, rfl⟩
theorem x116_39 : AW sv 116 39 [.ref a, v1, v2, v3] r h 0 0 Q = AW sv 116 40 [.ref a, v1, v2, v3] (.ref a :: r) h 0 0 Q := e_pv am_h116 dX9_doubt_39 rfl rfl rfl rfl
theorem x116_40 : AW sv 116 40 [v0, v1, v2, v3] (.ref 71 :: r) (am_toH σ) 0 0 Q = AW sv 116 43 [v0, v1, v2, v3] (.ref 78 :: r) (am_toH σ) 0 0 Q := e_getR am_h116 dX9_doubt_40 fl_9_28 is9 rfl
theorem x116_43 : AW sv 116 43 [v0, v1, v2, v3] r h 0 0 Q = AW sv 116 44 [v0, v1, v2, v3] (.int (3) :: r) h 0 0 Q := e_iconstv am_h116 dX9_doubt_43 c_iconst_3
theorem x116_44 : AW sv 116 44 [v0, .int x, v2, v3] r h 0 0 Q = AW sv 116 45 [v0, .int x, v2, v3] (.int x :: r) h 0 0 Q := e_pv am_h116 dX9_doubt_44 rfl rfl rfl rfl
theorem x116_45 : AW sv 116 45 [v0, v1, v2, v3] (.int y :: .int x :: r) h 0 0 Q = AW sv 116 46 [v0, v1, v2, v3] (.int (x * y) :: r) h 0 0 Q := e_imul am_h116 dX9_doubt_45
theorem x116_46 : AW sv 116 46 [v0, v1, v2, v3] r h 0 0 Q = AW sv 116 47 [v0, v1, v2, v3] (.int (2) :: r) h 0 0 Q := e_iconstv am_h116 dX9_doubt_46 c_iconst_2
theorem x116_47 : AW sv 116 47 [v0, v1, v2, v3] (.int y :: .int x :: r) h 0 0 Q = AW sv 116 48 [v0, v1, v2, v3] (.int (x + y) :: r) h 0 0 Q := e_iadd am_h116 dX9_doubt_47
theorem x116_48 (hi : am_in x (am_ln a) = true) : AW sv 116 48 [v0, v1, v2, v3] (.int x :: .ref a :: r) (am_toH σ) 0 0 Q = AW sv 116 49 [v0, v1, v2, v3] (.int (σ.1 a x.toNatClampNeg) :: r) (am_toH σ) 0 0 Q := e_iald am_h116 dX9_doubt_48 hi
theorem x116_49 (hc : v2.category = 1) : AW sv 116 49 [v0, v1, v2, v3] (.int x :: r) h 0 0 Q = AW sv 116 50 [v0, v1, v2, .int x] r h 0 0 Q := e_pv am_h116 dX9_doubt_49 rfl rfl rfl (am_sti_of (Nat.le_of_ble_eq_true rfl) (am_c1_of rfl hc))
theorem x116_50 : AW sv 116 50 [.ref a, v1, v2, v3] r h 0 0 Q = AW sv 116 51 [.ref a, v1, v2, v3] (.ref a :: r) h 0 0 Q := e_pv am_h116 dX9_doubt_50 rfl rfl rfl rfl
theorem x116_51 : AW sv 116 51 [v0, v1, v2, v3] (.ref 71 :: r) (am_toH σ) 0 0 Q = AW sv 116 54 [v0, v1, v2, v3] (.ref 78 :: r) (am_toH σ) 0 0 Q := e_getR am_h116 dX9_doubt_51 fl_9_28 is9 rfl
theorem x116_54 : AW sv 116 54 [v0, v1, v2, v3] r h 0 0 Q = AW sv 116 55 [v0, v1, v2, v3] (.int (3) :: r) h 0 0 Q := e_iconstv am_h116 dX9_doubt_54 c_iconst_3
theorem x116_55 : AW sv 116 55 [v0, .int x, v2, v3] r h 0 0 Q = AW sv 116 56 [v0, .int x, v2, v3] (.int x :: r) h 0 0 Q := e_pv am_h116 dX9_doubt_55 rfl rfl rfl rfl
theorem x116_56 : AW sv 116 56 [v0, v1, v2, v3] (.int y :: .int x :: r) h 0 0 Q = AW sv 116 57 [v0, v1, v2, v3] (.int (x * y) :: r) h 0 0 Q := e_imul am_h116 dX9_doubt_56
theorem x116_57 : AW sv 116 57 [v0, v1, v2, v3] r h 0 0 Q = AW sv 116 58 [v0, v1, v2, v3] (.int (2) :: r) h 0 0 Q := e_iconstv am_h116 dX9_doubt_57 c_iconst_2
theorem x116_58 : AW sv 116 58 [v0, v1, v2, v3] (.int y :: .int x :: r) h 0 0 Q = AW sv 116 59 [v0, v1, v2, v3] (.int (x + y) :: r) h 0 0 Q := e_iadd am_h116 dX9_doubt_58
theorem x116_59 : AW sv 116 59 [v0, v1, .int x, v3] r h 0 0 Q = AW sv 116 60 [v0, v1, .int x, v3] (.int x :: r) h 0 0 Q := e_pv am_h116 dX9_doubt_59 rfl rfl rfl rfl
theorem x116_60 (hi : am_in y (am_ln a) = true) : AW sv 116 60 [v0, v1, v2, v3] (.int x :: .int y :: .ref a :: r) (am_toH σ) 0 0 Q = AW sv 116 61 [v0, v1, v2, v3] r (am_toH (am_wr σ a (upd (σ.1 a) y.toNatClampNeg x))) 0 0 Q := e_iast am_h116 dX9_doubt_60 hi
theorem x116_61 : AW sv 116 61 [v0, v1, v2, .int x] r h 0 0 Q = AW sv 116 62 [v0, v1, v2, .int x] (.int x :: r) h 0 0 Q := e_pv am_h116 dX9_doubt_61 rfl rfl rfl rfl
theorem x116_62 : AW sv 116 62 [v0, v1, v2, v3] [.int x] h 0 0 Q = Q (some (.int x)) h := e_iret am_h116 dX9_doubt_62 rfl ⟨rfl, rfl⟩
theorem n116 : AM sv 116 [.ref a, .int x0, .int x1] h Q = AW sv 116 0 [.ref a, .int x0, .int x1, .null] [] h 0 0 Q := rfl
theorem x117_0 : AW sv 117 0 [.ref a, v1, v2] r h 0 0 Q = AW sv 117 1 [.ref a, v1, v2] (.ref a :: r) h 0 0 Q := e_pv am_h117 dX9_told_0 rfl rfl rfl rfl
theorem x117_1 : AW sv 117 1 [v0, .int x, v2] r h 0 0 Q = AW sv 117 2 [v0, .int x, v2] (.int x :: r) h 0 0 Q := e_pv am_h117 dX9_told_1 rfl rfl rfl rfl
theorem x117_2 (h8 : am_cs r ≤ 8) : AW sv 117 2 [v0, v1, v2] (.int x0 :: .ref 71 :: r) (am_toH σ) 0 0 Q = AM sv 108 [.ref 71, .int x0] (am_toH σ) (fun v h1 => AW sv 117 5 [v0, v1, v2] (v.toList ++ r) h1 0 0 Q) := e_cV (as := [.int x0]) am_h117 dX9_told_2 ml_9_105 (by decide) am_h108 rfl is9 rfl rfl ⟨by decide, Nat.le_of_ble_eq_true rfl, am_rc_of (by decide) h8⟩
theorem x117_5 : AW sv 117 5 [v0, v1, v2] (.int x :: r) h 0 0 Q = if x = 0 then AW sv 117 20 [v0, v1, v2] r h 0 0 Q else AW sv 117 8 [v0, v1, v2] r h 0 0 Q := e_z_eq am_h117 dX9_told_5 rfl
theorem x117_8 : AW sv 117 8 [v0, v1, .int x] r h 0 0 Q = AW sv 117 9 [v0, v1, .int x] (.int x :: r) h 0 0 Q := e_pv am_h117 dX9_told_8 rfl rfl rfl rfl
theorem x117_9 : AW sv 117 9 [v0, v1, v2] (.int x :: r) h 0 0 Q = AW sv 117 10 [v0, v1, v2] (.long x.toInt64 :: r) h 0 0 Q := e_i2l am_h117 dX9_told_9
theorem x117_10 : AW sv 117 10 [v0, v1, v2] r h 0 0 Q = AW sv 117 11 [v0, v1, v2] (.long (0) :: r) h 0 0 Q := e_lconstv am_h117 dX9_told_10 c_l_0
theorem x117_11 : AW sv 117 11 [v0, v1, v2] r h 0 0 Q = AW sv 117 14 [v0, v1, v2] (.long (2) :: r) h 0 0 Q := e_ldc2 am_h117 dX9_told_11 (by decide +kernel)
theorem x117_14 (h8 : am_cs r ≤ 8) : AW sv 117 14 [v0, v1, v2] (.long u2 :: .long u1 :: .long u0 :: r) h 0 0 Q = AM sv 104 [.long u0, .long u1, .long u2] h (fun v h1 => AW sv 117 17 [v0, v1, v2] (v.toList ++ r) h1 0 0 Q) := e_cS (as := [.long u0, .long u1, .long u2]) am_h117 dX9_told_14 ml_9_70 (by decide) am_h104 rfl rfl rfl ⟨by decide, Nat.le_of_ble_eq_true rfl, am_rc_of (by decide) h8⟩
theorem x117_17 : AW sv 117 17 [v0, v1, v2] (.int x :: r) h 0 0 Q = if ¬ x = 0 then AW sv 117 22 [v0, v1, v2] r h 0 0 Q else AW sv 117 20 [v0, v1, v2] r h 0 0 Q := e_z_ne am_h117 dX9_told_17 rfl
theorem x117_20 : AW sv 117 20 [v0, v1, v2] r h 0 0 Q = AW sv 117 21 [v0, v1, v2] (.int (-1) :: r) h 0 0 Q := e_iconstv am_h117 dX9_told_20 c_iconst_m1
theorem x117_21 : AW sv 117 21 [v0, v1, v2] [.int x] h 0 0 Q = Q (some (.int x)) h := e_iret am_h117 dX9_told_21 rfl ⟨rfl, rfl⟩
theorem x117_22 : AW sv 117 22 [v0, v1, .int x] r h 0 0 Q = AW sv 117 23 [v0, v1, .int x] (.int x :: r) h 0 0 Q := e_pv am_h117 dX9_told_22 rfl rfl rfl rfl
theorem x117_23 : AW sv 117 23 [v0, v1, v2] r h 0 0 Q = AW sv 117 24 [v0, v1, v2] (.int (2) :: r) h 0 0 Q := e_iconstv am_h117 dX9_told_23 c_iconst_2
theorem x117_24 : AW sv 117 24 [v0, v1, v2] (.int y :: .int x :: r) h 0 0 Q = if y ≤ x then AW sv 117 40 [v0, v1, v2] r h 0 0 Q else AW sv 117 27 [v0, v1, v2] r h 0 0 Q := e_c_ge am_h117 dX9_told_24 rfl
theorem x117_27 : AW sv 117 27 [.ref a, v1, v2] r h 0 0 Q = AW sv 117 28 [.ref a, v1, v2] (.ref a :: r) h 0 0 Q := e_pv am_h117 dX9_told_27 rfl rfl rfl rfl
theorem x117_28 : AW sv 117 28 [v0, v1, v2] (.ref 71 :: r) (am_toH σ) 0 0 Q = AW sv 117 31 [v0, v1, v2] (.ref 78 :: r) (am_toH σ) 0 0 Q := e_getR am_h117 dX9_told_28 fl_9_28 is9 rfl
theorem x117_31 : AW sv 117 31 [v0, v1, v2] r h 0 0 Q = AW sv 117 32 [v0, v1, v2] (.int (3) :: r) h 0 0 Q := e_iconstv am_h117 dX9_told_31 c_iconst_3
theorem x117_32 : AW sv 117 32 [v0, .int x, v2] r h 0 0 Q = AW sv 117 33 [v0, .int x, v2] (.int x :: r) h 0 0 Q := e_pv am_h117 dX9_told_32 rfl rfl rfl rfl
theorem x117_33 : AW sv 117 33 [v0, v1, v2] (.int y :: .int x :: r) h 0 0 Q = AW sv 117 34 [v0, v1, v2] (.int (x * y) :: r) h 0 0 Q := e_imul am_h117 dX9_told_33
theorem x117_34 : AW sv 117 34 [v0, v1, .int x] r h 0 0 Q = AW sv 117 35 [v0, v1, .int x] (.int x :: r) h 0 0 Q := e_pv am_h117 dX9_told_34 rfl rfl rfl rfl
theorem x117_35 : AW sv 117 35 [v0, v1, v2] (.int y :: .int x :: r) h 0 0 Q = AW sv 117 36 [v0, v1, v2] (.int (x + y) :: r) h 0 0 Q := e_iadd am_h117 dX9_told_35
theorem x117_36 (hi : am_in x (am_ln a) = true) : AW sv 117 36 [v0, v1, v2] (.int x :: .ref a :: r) (am_toH σ) 0 0 Q = AW sv 117 37 [v0, v1, v2] (.int (σ.1 a x.toNatClampNeg) :: r) (am_toH σ) 0 0 Q := e_iald am_h117 dX9_told_36 hi
theorem x117_37 : AW sv 117 37 [v0, v1, v2] r h 0 0 Q = AW sv 117 47 [v0, v1, v2] r h 0 0 Q := e_goto am_h117 dX9_told_37 rfl
theorem x117_40 : AW sv 117 40 [.ref a, v1, v2] r h 0 0 Q = AW sv 117 41 [.ref a, v1, v2] (.ref a :: r) h 0 0 Q := e_pv am_h117 dX9_told_40 rfl rfl rfl rfl
theorem x117_41 : AW sv 117 41 [v0, .int x, v2] r h 0 0 Q = AW sv 117 42 [v0, .int x, v2] (.int x :: r) h 0 0 Q := e_pv am_h117 dX9_told_41 rfl rfl rfl rfl
theorem x117_42 : AW sv 117 42 [v0, v1, v2] r h 0 0 Q = AW sv 117 44 [v0, v1, v2] (.int (15) :: r) h 0 0 Q := e_bipushv am_h117 dX9_told_42 c_bipush_15
theorem x117_44 (h8 : am_cs r ≤ 8) : AW sv 117 44 [v0, v1, v2] (.int x1 :: .int x0 :: .ref 71 :: r) (am_toH σ) 0 0 Q = AM sv 133 [.ref 71, .int x0, .int x1] (am_toH σ) (fun v h1 => AW sv 117 47 [v0, v1, v2] (v.toList ++ r) h1 0 0 Q) := e_cV (as := [.int x0, .int x1]) am_h117 dX9_told_44 ml_9_108 (by decide) am_h133 rfl is9 rfl rfl ⟨by decide, Nat.le_of_ble_eq_true rfl, am_rc_of (by decide) h8⟩
theorem x117_47 : AW sv 117 47 [v0, v1, v2] [.int x] h 0 0 Q = Q (some (.int x)) h := e_iret am_h117 dX9_told_47 rfl ⟨rfl, rfl⟩
theorem n117 : AM sv 117 [.ref a, .int x0, .int x1] h Q = AW sv 117 0 [.ref a, .int x0, .int x1] [] h 0 0 Q := rfl
theorem x118_0 : AW sv 118 0 [.ref a, v1, v2] r h 0 0 Q = AW sv 118 1 [.ref a, v1, v2] (.ref a :: r) h 0 0 Q := e_pv am_h118 dX9_leave_0 rfl rfl rfl rfl
theorem x118_1 : AW sv 118 1 [v0, .int x, v2] r h 0 0 Q = AW sv 118 2 [v0, .int x, v2] (.int x :: r) h 0 0 Q := e_pv am_h118 dX9_leave_1 rfl rfl rfl rfl
theorem x118_2 (h8 : am_cs r ≤ 8) : AW sv 118 2 [v0, v1, v2] (.int x0 :: .ref 71 :: r) (am_toH σ) 0 0 Q = AM sv 108 [.ref 71, .int x0] (am_toH σ) (fun v h1 => AW sv 118 5 [v0, v1, v2] (v.toList ++ r) h1 0 0 Q) := e_cV (as := [.int x0]) am_h118 dX9_leave_2 ml_9_105 (by decide) am_h108 rfl is9 rfl rfl ⟨by decide, Nat.le_of_ble_eq_true rfl, am_rc_of (by decide) h8⟩
theorem x118_5 : AW sv 118 5 [v0, v1, v2] (.int x :: r) h 0 0 Q = if ¬ x = 0 then AW sv 118 10 [v0, v1, v2] r h 0 0 Q else AW sv 118 8 [v0, v1, v2] r h 0 0 Q := e_z_ne am_h118 dX9_leave_5 rfl
theorem x118_8 : AW sv 118 8 [v0, v1, v2] r h 0 0 Q = AW sv 118 9 [v0, v1, v2] (.int (-1) :: r) h 0 0 Q := e_iconstv am_h118 dX9_leave_8 c_iconst_m1
theorem x118_9 : AW sv 118 9 [v0, v1, v2] [.int x] h 0 0 Q = Q (some (.int x)) h := e_iret am_h118 dX9_leave_9 rfl ⟨rfl, rfl⟩
theorem x118_10 : AW sv 118 10 [.ref a, v1, v2] r h 0 0 Q = AW sv 118 11 [.ref a, v1, v2] (.ref a :: r) h 0 0 Q := e_pv am_h118 dX9_leave_10 rfl rfl rfl rfl
theorem x118_11 (hc : v.category = 1) : AW sv 118 11 [v0, v1, v2] (v :: r) h 0 0 Q = AW sv 118 12 [v0, v1, v2] (v :: v :: r) h 0 0 Q := e_dup am_h118 dX9_leave_11 hc
theorem x118_12 : AW sv 118 12 [v0, v1, v2] (.ref 71 :: r) (am_toH σ) 0 0 Q = AW sv 118 15 [v0, v1, v2] (.int (σ.1 71 7) :: r) (am_toH σ) 0 0 Q := e_getI am_h118 dX9_leave_12 fl_9_76 is9 rfl
theorem x118_15 : AW sv 118 15 [v0, v1, v2] r h 0 0 Q = AW sv 118 16 [v0, v1, v2] (.int (1) :: r) h 0 0 Q := e_iconstv am_h118 dX9_leave_15 c_iconst_1
theorem x118_16 : AW sv 118 16 [v0, v1, v2] (.int y :: .int x :: r) h 0 0 Q = AW sv 118 17 [v0, v1, v2] (.int (x - y) :: r) h 0 0 Q := e_isub am_h118 dX9_leave_16
theorem x118_17 : AW sv 118 17 [v0, v1, v2] (.int x :: .ref 71 :: r) (am_toH σ) 0 0 Q = AW sv 118 20 [v0, v1, v2] r (am_toH (am_wr σ 71 (upd (σ.1 71) 7 x))) 0 0 Q := e_putI am_h118 dX9_leave_17 fl_9_76 is9 rfl rfl rfl
theorem x118_20 : AW sv 118 20 [v0, v1, v2] r h 0 0 Q = AW sv 118 21 [v0, v1, v2] (.int (3) :: r) h 0 0 Q := e_iconstv am_h118 dX9_leave_20 c_iconst_3
theorem x118_21 : AW sv 118 21 [v0, .int x, v2] r h 0 0 Q = AW sv 118 22 [v0, .int x, v2] (.int x :: r) h 0 0 Q := e_pv am_h118 dX9_leave_21 rfl rfl rfl rfl
theorem x118_22 : AW sv 118 22 [v0, v1, v2] (.int y :: .int x :: r) h 0 0 Q = AW sv 118 23 [v0, v1, v2] (.int (x * y) :: r) h 0 0 Q := e_imul am_h118 dX9_leave_22
theorem x118_23 (hc : v1.category = 1) : AW sv 118 23 [v0, v1, v2] (.int x :: r) h 0 0 Q = AW sv 118 24 [v0, v1, .int x] r h 0 0 Q := e_pv am_h118 dX9_leave_23 rfl rfl rfl (am_sti_of (Nat.le_of_ble_eq_true rfl) (am_c1_of rfl hc))
theorem x118_24 : AW sv 118 24 [v0, v1, .int x] r h 0 0 Q = AW sv 118 25 [v0, v1, .int x] (.int x :: r) h 0 0 Q := e_pv am_h118 dX9_leave_24 rfl rfl rfl rfl
theorem x118_25 : AW sv 118 25 [v0, v1, v2] r h 0 0 Q = AW sv 118 26 [v0, v1, v2] (.int (3) :: r) h 0 0 Q := e_iconstv am_h118 dX9_leave_25 c_iconst_3
theorem x118_26 : AW sv 118 26 [.ref a, v1, v2] r h 0 0 Q = AW sv 118 27 [.ref a, v1, v2] (.ref a :: r) h 0 0 Q := e_pv am_h118 dX9_leave_26 rfl rfl rfl rfl
theorem x118_27 : AW sv 118 27 [v0, v1, v2] (.ref 71 :: r) (am_toH σ) 0 0 Q = AW sv 118 30 [v0, v1, v2] (.int (σ.1 71 7) :: r) (am_toH σ) 0 0 Q := e_getI am_h118 dX9_leave_27 fl_9_76 is9 rfl
theorem x118_30 : AW sv 118 30 [v0, v1, v2] (.int y :: .int x :: r) h 0 0 Q = AW sv 118 31 [v0, v1, v2] (.int (x * y) :: r) h 0 0 Q := e_imul am_h118 dX9_leave_30
theorem x118_31 : AW sv 118 31 [v0, v1, v2] (.int y :: .int x :: r) h 0 0 Q = if y ≤ x then AW sv 118 54 [v0, v1, v2] r h 0 0 Q else AW sv 118 34 [v0, v1, v2] r h 0 0 Q := e_c_ge am_h118 dX9_leave_31 rfl
theorem x118_34 : AW sv 118 34 [.ref a, v1, v2] r h 0 0 Q = AW sv 118 35 [.ref a, v1, v2] (.ref a :: r) h 0 0 Q := e_pv am_h118 dX9_leave_34 rfl rfl rfl rfl
theorem x118_35 : AW sv 118 35 [v0, v1, v2] (.ref 71 :: r) (am_toH σ) 0 0 Q = AW sv 118 38 [v0, v1, v2] (.ref 78 :: r) (am_toH σ) 0 0 Q := e_getR am_h118 dX9_leave_35 fl_9_28 is9 rfl
theorem x118_38 : AW sv 118 38 [v0, v1, .int x] r h 0 0 Q = AW sv 118 39 [v0, v1, .int x] (.int x :: r) h 0 0 Q := e_pv am_h118 dX9_leave_38 rfl rfl rfl rfl
theorem x118_39 : AW sv 118 39 [.ref a, v1, v2] r h 0 0 Q = AW sv 118 40 [.ref a, v1, v2] (.ref a :: r) h 0 0 Q := e_pv am_h118 dX9_leave_39 rfl rfl rfl rfl
theorem x118_40 : AW sv 118 40 [v0, v1, v2] (.ref 71 :: r) (am_toH σ) 0 0 Q = AW sv 118 43 [v0, v1, v2] (.ref 78 :: r) (am_toH σ) 0 0 Q := e_getR am_h118 dX9_leave_40 fl_9_28 is9 rfl
theorem x118_43 : AW sv 118 43 [v0, v1, .int x] r h 0 0 Q = AW sv 118 44 [v0, v1, .int x] (.int x :: r) h 0 0 Q := e_pv am_h118 dX9_leave_43 rfl rfl rfl rfl
theorem x118_44 : AW sv 118 44 [v0, v1, v2] r h 0 0 Q = AW sv 118 45 [v0, v1, v2] (.int (3) :: r) h 0 0 Q := e_iconstv am_h118 dX9_leave_44 c_iconst_3
theorem x118_45 : AW sv 118 45 [v0, v1, v2] (.int y :: .int x :: r) h 0 0 Q = AW sv 118 46 [v0, v1, v2] (.int (x + y) :: r) h 0 0 Q := e_iadd am_h118 dX9_leave_45
theorem x118_46 (hi : am_in x (am_ln a) = true) : AW sv 118 46 [v0, v1, v2] (.int x :: .ref a :: r) (am_toH σ) 0 0 Q = AW sv 118 47 [v0, v1, v2] (.int (σ.1 a x.toNatClampNeg) :: r) (am_toH σ) 0 0 Q := e_iald am_h118 dX9_leave_46 hi
theorem x118_47 (hi : am_in y (am_ln a) = true) : AW sv 118 47 [v0, v1, v2] (.int x :: .int y :: .ref a :: r) (am_toH σ) 0 0 Q = AW sv 118 48 [v0, v1, v2] r (am_toH (am_wr σ a (upd (σ.1 a) y.toNatClampNeg x))) 0 0 Q := e_iast am_h118 dX9_leave_47 hi
theorem x118_48 (hc : v1.category = 1) : AW sv 118 48 [v0, v1, .int x] r h 0 0 Q = AW sv 118 51 [v0, v1, .int (x + (1))] r h 0 0 Q := e_pv am_h118 dX9_leave_48 rfl rfl rfl (am_inc_of (ls := [v0, v1, .int x]) (k := 2) rfl c_iconst_1 (am_c1_of (ls := [v0, v1, .int x]) (k := 1) (v := v1) rfl hc))
theorem x118_51 : AW sv 118 51 [v0, v1, v2] r h 0 0 Q = AW sv 118 24 [v0, v1, v2] r h 0 0 Q := e_goto am_h118 dX9_leave_51 rfl
theorem x118_54 : AW sv 118 54 [.ref a, v1, v2] r h 0 0 Q = AW sv 118 55 [.ref a, v1, v2] (.ref a :: r) h 0 0 Q := e_pv am_h118 dX9_leave_54 rfl rfl rfl rfl
theorem x118_55 : AW sv 118 55 [v0, v1, v2] (.ref 71 :: r) (am_toH σ) 0 0 Q = AW sv 118 58 [v0, v1, v2] (.int (σ.1 71 7) :: r) (am_toH σ) 0 0 Q := e_getI am_h118 dX9_leave_55 fl_9_76 is9 rfl
theorem x118_58 : AW sv 118 58 [v0, v1, v2] [.int x] h 0 0 Q = Q (some (.int x)) h := e_iret am_h118 dX9_leave_58 rfl ⟨rfl, rfl⟩
theorem n118 : AM sv 118 [.ref a, .int x0] h Q = AW sv 118 0 [.ref a, .int x0, .null] [] h 0 0 Q := rfl
theorem x119_0 : AW sv 119 0 [v0, v1, v2, .int x, v4] r h 0 0 Q = AW sv 119 1 [v0, v1, v2, .int x, v4] (.int x :: r) h 0 0 Q := e_pv am_h119 dX9_type_0 rfl rfl rfl rfl
theorem x119_1 : AW sv 119 1 [v0, v1, v2, v3, v4] (.int x :: r) h 0 0 Q = AW sv 119 2 [v0, v1, v2, v3, v4] (.long x.toInt64 :: r) h 0 0 Q := e_i2l am_h119 dX9_type_1
theorem x119_2 : AW sv 119 2 [v0, v1, v2, v3, v4] r h 0 0 Q = AW sv 119 3 [v0, v1, v2, v3, v4] (.long (1) :: r) h 0 0 Q := e_lconstv am_h119 dX9_type_2 c_l_1
theorem x119_3 : AW sv 119 3 [v0, v1, v2, v3, v4] r h 0 0 Q = AW sv 119 6 [v0, v1, v2, v3, v4] (.long (8) :: r) h 0 0 Q := e_ldc2 am_h119 dX9_type_3 (by decide +kernel)
theorem x119_6 (h8 : am_cs r ≤ 8) : AW sv 119 6 [v0, v1, v2, v3, v4] (.long u2 :: .long u1 :: .long u0 :: r) h 0 0 Q = AM sv 104 [.long u0, .long u1, .long u2] h (fun v h1 => AW sv 119 9 [v0, v1, v2, v3, v4] (v.toList ++ r) h1 0 0 Q) := e_cS (as := [.long u0, .long u1, .long u2]) am_h119 dX9_type_6 ml_9_70 (by decide) am_h104 rfl rfl rfl ⟨by decide, Nat.le_of_ble_eq_true rfl, am_rc_of (by decide) h8⟩
theorem x119_9 : AW sv 119 9 [v0, v1, v2, v3, v4] (.int x :: r) h 0 0 Q = if ¬ x = 0 then AW sv 119 14 [v0, v1, v2, v3, v4] r h 0 0 Q else AW sv 119 12 [v0, v1, v2, v3, v4] r h 0 0 Q := e_z_ne am_h119 dX9_type_9 rfl
theorem x119_12 : AW sv 119 12 [v0, v1, v2, v3, v4] r h 0 0 Q = AW sv 119 13 [v0, v1, v2, v3, v4] (.int (-1) :: r) h 0 0 Q := e_iconstv am_h119 dX9_type_12 c_iconst_m1
theorem x119_13 : AW sv 119 13 [v0, v1, v2, v3, v4] [.int x] h 0 0 Q = Q (some (.int x)) h := e_iret am_h119 dX9_type_13 rfl ⟨rfl, rfl⟩
theorem x119_14 : AW sv 119 14 [v0, v1, v2, v3, v4] r h 0 0 Q = AW sv 119 15 [v0, v1, v2, v3, v4] (.int (0) :: r) h 0 0 Q := e_iconstv am_h119 dX9_type_14 c_iconst_0
theorem x119_15 (hc : v3.category = 1) : AW sv 119 15 [v0, v1, v2, v3, v4] (.int x :: r) h 0 0 Q = AW sv 119 17 [v0, v1, v2, v3, .int x] r h 0 0 Q := e_pv am_h119 dX9_type_15 rfl rfl rfl (am_sti_of (Nat.le_of_ble_eq_true rfl) (am_c1_of rfl hc))
theorem x119_17 : AW sv 119 17 [v0, v1, v2, v3, .int x] r h 0 0 Q = AW sv 119 19 [v0, v1, v2, v3, .int x] (.int x :: r) h 0 0 Q := e_pv am_h119 dX9_type_17 rfl rfl rfl rfl
theorem x119_19 : AW sv 119 19 [v0, v1, v2, .int x, v4] r h 0 0 Q = AW sv 119 20 [v0, v1, v2, .int x, v4] (.int x :: r) h 0 0 Q := e_pv am_h119 dX9_type_19 rfl rfl rfl rfl
theorem x119_20 : AW sv 119 20 [v0, v1, v2, v3, v4] (.int y :: .int x :: r) h 0 0 Q = if y ≤ x then AW sv 119 54 [v0, v1, v2, v3, v4] r h 0 0 Q else AW sv 119 23 [v0, v1, v2, v3, v4] r h 0 0 Q := e_c_ge am_h119 dX9_type_20 rfl
theorem x119_23 : AW sv 119 23 [v0, .long u, v2, v3, v4] r h 0 0 Q = AW sv 119 24 [v0, .long u, v2, v3, v4] (.long u :: r) h 0 0 Q := e_pv am_h119 dX9_type_23 rfl rfl rfl rfl
theorem x119_24 : AW sv 119 24 [v0, v1, v2, v3, v4] r h 0 0 Q = AW sv 119 26 [v0, v1, v2, v3, v4] (.int (8) :: r) h 0 0 Q := e_bipushv am_h119 dX9_type_24 c_bipush_8
theorem x119_26 : AW sv 119 26 [v0, v1, v2, v3, .int x] r h 0 0 Q = AW sv 119 28 [v0, v1, v2, v3, .int x] (.int x :: r) h 0 0 Q := e_pv am_h119 dX9_type_26 rfl rfl rfl rfl
theorem x119_28 : AW sv 119 28 [v0, v1, v2, v3, v4] (.int y :: .int x :: r) h 0 0 Q = AW sv 119 29 [v0, v1, v2, v3, v4] (.int (x * y) :: r) h 0 0 Q := e_imul am_h119 dX9_type_28
theorem x119_29 : AW sv 119 29 [v0, v1, v2, v3, v4] (.int y :: .long u :: r) h 0 0 Q = AW sv 119 30 [v0, v1, v2, v3, v4] (.long (u >>> (y.toInt64 &&& 63)) :: r) h 0 0 Q := e_lshr am_h119 dX9_type_29
theorem x119_30 : AW sv 119 30 [v0, v1, v2, v3, v4] r h 0 0 Q = AW sv 119 33 [v0, v1, v2, v3, v4] (.long (255) :: r) h 0 0 Q := e_ldc2 am_h119 dX9_type_30 (by decide +kernel)
theorem x119_33 : AW sv 119 33 [v0, v1, v2, v3, v4] (.long w :: .long u :: r) h 0 0 Q = AW sv 119 34 [v0, v1, v2, v3, v4] (.long (u &&& w) :: r) h 0 0 Q := e_land am_h119 dX9_type_33
theorem x119_34 : AW sv 119 34 [v0, v1, v2, v3, v4] r h 0 0 Q = AW sv 119 37 [v0, v1, v2, v3, v4] (.long (32) :: r) h 0 0 Q := e_ldc2 am_h119 dX9_type_34 (by decide +kernel)
theorem x119_37 : AW sv 119 37 [v0, v1, v2, v3, v4] r h 0 0 Q = AW sv 119 40 [v0, v1, v2, v3, v4] (.long (126) :: r) h 0 0 Q := e_ldc2 am_h119 dX9_type_37 (by decide +kernel)
theorem x119_40 (h8 : am_cs r ≤ 8) : AW sv 119 40 [v0, v1, v2, v3, v4] (.long u2 :: .long u1 :: .long u0 :: r) h 0 0 Q = AM sv 104 [.long u0, .long u1, .long u2] h (fun v h1 => AW sv 119 43 [v0, v1, v2, v3, v4] (v.toList ++ r) h1 0 0 Q) := e_cS (as := [.long u0, .long u1, .long u2]) am_h119 dX9_type_40 ml_9_70 (by decide) am_h104 rfl rfl rfl ⟨by decide, Nat.le_of_ble_eq_true rfl, am_rc_of (by decide) h8⟩
theorem x119_43 : AW sv 119 43 [v0, v1, v2, v3, v4] (.int x :: r) h 0 0 Q = if ¬ x = 0 then AW sv 119 48 [v0, v1, v2, v3, v4] r h 0 0 Q else AW sv 119 46 [v0, v1, v2, v3, v4] r h 0 0 Q := e_z_ne am_h119 dX9_type_43 rfl
theorem x119_46 : AW sv 119 46 [v0, v1, v2, v3, v4] r h 0 0 Q = AW sv 119 47 [v0, v1, v2, v3, v4] (.int (-1) :: r) h 0 0 Q := e_iconstv am_h119 dX9_type_46 c_iconst_m1
theorem x119_47 : AW sv 119 47 [v0, v1, v2, v3, v4] [.int x] h 0 0 Q = Q (some (.int x)) h := e_iret am_h119 dX9_type_47 rfl ⟨rfl, rfl⟩
theorem x119_48 (hc : v3.category = 1) : AW sv 119 48 [v0, v1, v2, v3, .int x] r h 0 0 Q = AW sv 119 51 [v0, v1, v2, v3, .int (x + (1))] r h 0 0 Q := e_pv am_h119 dX9_type_48 rfl rfl rfl (am_inc_of (ls := [v0, v1, v2, v3, .int x]) (k := 4) rfl c_iconst_1 (am_c1_of (ls := [v0, v1, v2, v3, .int x]) (k := 3) (v := v3) rfl hc))
theorem x119_51 : AW sv 119 51 [v0, v1, v2, v3, v4] r h 0 0 Q = AW sv 119 17 [v0, v1, v2, v3, v4] r h 0 0 Q := e_goto am_h119 dX9_type_51 rfl
theorem x119_54 : AW sv 119 54 [.ref a, v1, v2, v3, v4] r h 0 0 Q = AW sv 119 55 [.ref a, v1, v2, v3, v4] (.ref a :: r) h 0 0 Q := e_pv am_h119 dX9_type_54 rfl rfl rfl rfl
theorem x119_55 : AW sv 119 55 [v0, v1, v2, v3, v4] (.ref 71 :: r) (am_toH σ) 0 0 Q = AW sv 119 58 [v0, v1, v2, v3, v4] (.int (σ.1 71 10) :: r) (am_toH σ) 0 0 Q := e_getI am_h119 dX9_type_55 fl_9_119 is9 rfl
theorem x119_58 : AW sv 119 58 [v0, v1, v2, .int x, v4] r h 0 0 Q = AW sv 119 59 [v0, v1, v2, .int x, v4] (.int x :: r) h 0 0 Q := e_pv am_h119 dX9_type_58 rfl rfl rfl rfl
theorem x119_59 : AW sv 119 59 [v0, v1, v2, v3, v4] (.int y :: .int x :: r) h 0 0 Q = AW sv 119 60 [v0, v1, v2, v3, v4] (.int (x + y) :: r) h 0 0 Q := e_iadd am_h119 dX9_type_59
theorem x119_60 : AW sv 119 60 [v0, v1, v2, v3, v4] r h 0 0 Q = AW sv 119 62 [v0, v1, v2, v3, v4] (.int (100) :: r) h 0 0 Q := e_bipushv am_h119 dX9_type_60 c_bipush_100
theorem x119_62 : AW sv 119 62 [v0, v1, v2, v3, v4] (.int y :: .int x :: r) h 0 0 Q = if x ≤ y then AW sv 119 68 [v0, v1, v2, v3, v4] r h 0 0 Q else AW sv 119 65 [v0, v1, v2, v3, v4] r h 0 0 Q := e_c_le am_h119 dX9_type_62 rfl
theorem x119_65 : AW sv 119 65 [v0, v1, v2, v3, v4] r h 0 0 Q = AW sv 119 67 [v0, v1, v2, v3, v4] (.int (-3) :: r) h 0 0 Q := e_bipushv am_h119 dX9_type_65 c_bipush_m3
theorem x119_67 : AW sv 119 67 [v0, v1, v2, v3, v4] [.int x] h 0 0 Q = Q (some (.int x)) h := e_iret am_h119 dX9_type_67 rfl ⟨rfl, rfl⟩
theorem x119_68 : AW sv 119 68 [v0, v1, v2, .int x, v4] r h 0 0 Q = AW sv 119 69 [v0, v1, v2, .int x, v4] (.int x :: r) h 0 0 Q := e_pv am_h119 dX9_type_68 rfl rfl rfl rfl
theorem x119_69 : AW sv 119 69 [v0, v1, v2, v3, v4] r h 0 0 Q = AW sv 119 70 [v0, v1, v2, v3, v4] (.int (1) :: r) h 0 0 Q := e_iconstv am_h119 dX9_type_69 c_iconst_1
theorem x119_70 : AW sv 119 70 [v0, v1, v2, v3, v4] (.int y :: .int x :: r) h 0 0 Q = AW sv 119 71 [v0, v1, v2, v3, v4] (.int (x - y) :: r) h 0 0 Q := e_isub am_h119 dX9_type_70
theorem x119_71 (hc : v3.category = 1) : AW sv 119 71 [v0, v1, v2, v3, v4] (.int x :: r) h 0 0 Q = AW sv 119 73 [v0, v1, v2, v3, .int x] r h 0 0 Q := e_pv am_h119 dX9_type_71 rfl rfl rfl (am_sti_of (Nat.le_of_ble_eq_true rfl) (am_c1_of rfl hc))
theorem x119_73 : AW sv 119 73 [v0, v1, v2, v3, .int x] r h 0 0 Q = AW sv 119 75 [v0, v1, v2, v3, .int x] (.int x :: r) h 0 0 Q := e_pv am_h119 dX9_type_73 rfl rfl rfl rfl
theorem x119_75 : AW sv 119 75 [v0, v1, v2, v3, v4] (.int x :: r) h 0 0 Q = if x < 0 then AW sv 119 115 [v0, v1, v2, v3, v4] r h 0 0 Q else AW sv 119 78 [v0, v1, v2, v3, v4] r h 0 0 Q := e_z_lt am_h119 dX9_type_75 rfl
theorem x119_78 : AW sv 119 78 [.ref a, v1, v2, v3, v4] r h 0 0 Q = AW sv 119 79 [.ref a, v1, v2, v3, v4] (.ref a :: r) h 0 0 Q := e_pv am_h119 dX9_type_78 rfl rfl rfl rfl
theorem x119_79 : AW sv 119 79 [v0, v1, v2, v3, v4] (.ref 71 :: r) (am_toH σ) 0 0 Q = AW sv 119 82 [v0, v1, v2, v3, v4] (.ref 79 :: r) (am_toH σ) 0 0 Q := e_getR am_h119 dX9_type_79 fl_9_31 is9 rfl
theorem x119_82 : AW sv 119 82 [.ref a, v1, v2, v3, v4] r h 0 0 Q = AW sv 119 83 [.ref a, v1, v2, v3, v4] (.ref a :: r) h 0 0 Q := e_pv am_h119 dX9_type_82 rfl rfl rfl rfl
theorem x119_83 : AW sv 119 83 [v0, v1, v2, v3, v4] (.ref 71 :: r) (am_toH σ) 0 0 Q = AW sv 119 86 [v0, v1, v2, v3, v4] (.int (σ.1 71 10) :: r) (am_toH σ) 0 0 Q := e_getI am_h119 dX9_type_83 fl_9_119 is9 rfl
theorem x119_86 : AW sv 119 86 [v0, .long u, v2, v3, v4] r h 0 0 Q = AW sv 119 87 [v0, .long u, v2, v3, v4] (.long u :: r) h 0 0 Q := e_pv am_h119 dX9_type_86 rfl rfl rfl rfl
theorem x119_87 : AW sv 119 87 [v0, v1, v2, v3, v4] r h 0 0 Q = AW sv 119 89 [v0, v1, v2, v3, v4] (.int (8) :: r) h 0 0 Q := e_bipushv am_h119 dX9_type_87 c_bipush_8
theorem x119_89 : AW sv 119 89 [v0, v1, v2, v3, .int x] r h 0 0 Q = AW sv 119 91 [v0, v1, v2, v3, .int x] (.int x :: r) h 0 0 Q := e_pv am_h119 dX9_type_89 rfl rfl rfl rfl
theorem x119_91 : AW sv 119 91 [v0, v1, v2, v3, v4] (.int y :: .int x :: r) h 0 0 Q = AW sv 119 92 [v0, v1, v2, v3, v4] (.int (x * y) :: r) h 0 0 Q := e_imul am_h119 dX9_type_91
theorem x119_92 : AW sv 119 92 [v0, v1, v2, v3, v4] (.int y :: .long u :: r) h 0 0 Q = AW sv 119 93 [v0, v1, v2, v3, v4] (.long (u >>> (y.toInt64 &&& 63)) :: r) h 0 0 Q := e_lshr am_h119 dX9_type_92
theorem x119_93 : AW sv 119 93 [v0, v1, v2, v3, v4] r h 0 0 Q = AW sv 119 96 [v0, v1, v2, v3, v4] (.long (255) :: r) h 0 0 Q := e_ldc2 am_h119 dX9_type_93 (by decide +kernel)
theorem x119_96 : AW sv 119 96 [v0, v1, v2, v3, v4] (.long w :: .long u :: r) h 0 0 Q = AW sv 119 97 [v0, v1, v2, v3, v4] (.long (u &&& w) :: r) h 0 0 Q := e_land am_h119 dX9_type_96
theorem x119_97 : AW sv 119 97 [v0, v1, v2, v3, v4] (.long u :: r) h 0 0 Q = AW sv 119 98 [v0, v1, v2, v3, v4] (.int u.toInt32 :: r) h 0 0 Q := e_l2i am_h119 dX9_type_97
theorem x119_98 (hi : am_in y (am_ln a) = true) : AW sv 119 98 [v0, v1, v2, v3, v4] (.int x :: .int y :: .ref a :: r) (am_toH σ) 0 0 Q = AW sv 119 99 [v0, v1, v2, v3, v4] r (am_toH (am_wr σ a (upd (σ.1 a) y.toNatClampNeg x))) 0 0 Q := e_iast am_h119 dX9_type_98 hi
theorem x119_99 : AW sv 119 99 [.ref a, v1, v2, v3, v4] r h 0 0 Q = AW sv 119 100 [.ref a, v1, v2, v3, v4] (.ref a :: r) h 0 0 Q := e_pv am_h119 dX9_type_99 rfl rfl rfl rfl
theorem x119_100 (hc : v.category = 1) : AW sv 119 100 [v0, v1, v2, v3, v4] (v :: r) h 0 0 Q = AW sv 119 101 [v0, v1, v2, v3, v4] (v :: v :: r) h 0 0 Q := e_dup am_h119 dX9_type_100 hc
theorem x119_101 : AW sv 119 101 [v0, v1, v2, v3, v4] (.ref 71 :: r) (am_toH σ) 0 0 Q = AW sv 119 104 [v0, v1, v2, v3, v4] (.int (σ.1 71 10) :: r) (am_toH σ) 0 0 Q := e_getI am_h119 dX9_type_101 fl_9_119 is9 rfl
theorem x119_104 : AW sv 119 104 [v0, v1, v2, v3, v4] r h 0 0 Q = AW sv 119 105 [v0, v1, v2, v3, v4] (.int (1) :: r) h 0 0 Q := e_iconstv am_h119 dX9_type_104 c_iconst_1
theorem x119_105 : AW sv 119 105 [v0, v1, v2, v3, v4] (.int y :: .int x :: r) h 0 0 Q = AW sv 119 106 [v0, v1, v2, v3, v4] (.int (x + y) :: r) h 0 0 Q := e_iadd am_h119 dX9_type_105
theorem x119_106 : AW sv 119 106 [v0, v1, v2, v3, v4] (.int x :: .ref 71 :: r) (am_toH σ) 0 0 Q = AW sv 119 109 [v0, v1, v2, v3, v4] r (am_toH (am_wr σ 71 (upd (σ.1 71) 10 x))) 0 0 Q := e_putI am_h119 dX9_type_106 fl_9_119 is9 rfl rfl rfl
theorem x119_109 (hc : v3.category = 1) : AW sv 119 109 [v0, v1, v2, v3, .int x] r h 0 0 Q = AW sv 119 112 [v0, v1, v2, v3, .int (x + (-1))] r h 0 0 Q := e_pv am_h119 dX9_type_109 rfl rfl rfl (am_inc_of (ls := [v0, v1, v2, v3, .int x]) (k := 4) rfl c_iconst_m1 (am_c1_of (ls := [v0, v1, v2, v3, .int x]) (k := 3) (v := v3) rfl hc))
theorem x119_112 : AW sv 119 112 [v0, v1, v2, v3, v4] r h 0 0 Q = AW sv 119 73 [v0, v1, v2, v3, v4] r h 0 0 Q := e_goto am_h119 dX9_type_112 rfl
theorem x119_115 : AW sv 119 115 [.ref a, v1, v2, v3, v4] r h 0 0 Q = AW sv 119 116 [.ref a, v1, v2, v3, v4] (.ref a :: r) h 0 0 Q := e_pv am_h119 dX9_type_115 rfl rfl rfl rfl
theorem x119_116 : AW sv 119 116 [v0, v1, v2, v3, v4] (.ref 71 :: r) (am_toH σ) 0 0 Q = AW sv 119 119 [v0, v1, v2, v3, v4] (.int (σ.1 71 10) :: r) (am_toH σ) 0 0 Q := e_getI am_h119 dX9_type_116 fl_9_119 is9 rfl
theorem x119_119 : AW sv 119 119 [v0, v1, v2, v3, v4] [.int x] h 0 0 Q = Q (some (.int x)) h := e_iret am_h119 dX9_type_119 rfl ⟨rfl, rfl⟩
theorem n119 : AM sv 119 [.ref a, .long u0, .int x1] h Q = AW sv 119 0 [.ref a, .long u0, .null, .int x1, .null] [] h 0 0 Q := rfl
theorem x120_0 : AW sv 120 0 [.ref a] r h 0 0 Q = AW sv 120 1 [.ref a] (.ref a :: r) h 0 0 Q := e_pv am_h120 dX9_here_0 rfl rfl rfl rfl
theorem x120_1 : AW sv 120 1 [v0] (.ref 71 :: r) (am_toH σ) 0 0 Q = AW sv 120 4 [v0] (.int (σ.1 71 11) :: r) (am_toH σ) 0 0 Q := e_getI am_h120 dX9_here_1 fl_9_122 is9 rfl
theorem x120_4 : AW sv 120 4 [.ref a] r h 0 0 Q = AW sv 120 5 [.ref a] (.ref a :: r) h 0 0 Q := e_pv am_h120 dX9_here_4 rfl rfl rfl rfl
theorem x120_5 : AW sv 120 5 [v0] (.ref 71 :: r) (am_toH σ) 0 0 Q = AW sv 120 8 [v0] (.int (σ.1 71 10) :: r) (am_toH σ) 0 0 Q := e_getI am_h120 dX9_here_5 fl_9_119 is9 rfl
theorem x120_8 : AW sv 120 8 [v0] (.int y :: .int x :: r) h 0 0 Q = if y ≤ x then AW sv 120 38 [v0] r h 0 0 Q else AW sv 120 11 [v0] r h 0 0 Q := e_c_ge am_h120 dX9_here_8 rfl
theorem x120_11 : AW sv 120 11 [.ref a] r h 0 0 Q = AW sv 120 12 [.ref a] (.ref a :: r) h 0 0 Q := e_pv am_h120 dX9_here_11 rfl rfl rfl rfl
theorem x120_12 : AW sv 120 12 [v0] (.ref 71 :: r) (am_toH σ) 0 0 Q = AW sv 120 15 [v0] (.ref 79 :: r) (am_toH σ) 0 0 Q := e_getR am_h120 dX9_here_12 fl_9_31 is9 rfl
theorem x120_15 : AW sv 120 15 [.ref a] r h 0 0 Q = AW sv 120 16 [.ref a] (.ref a :: r) h 0 0 Q := e_pv am_h120 dX9_here_15 rfl rfl rfl rfl
theorem x120_16 : AW sv 120 16 [v0] (.ref 71 :: r) (am_toH σ) 0 0 Q = AW sv 120 19 [v0] (.int (σ.1 71 11) :: r) (am_toH σ) 0 0 Q := e_getI am_h120 dX9_here_16 fl_9_122 is9 rfl
theorem x120_19 (hi : am_in x (am_ln a) = true) : AW sv 120 19 [v0] (.int x :: .ref a :: r) (am_toH σ) 0 0 Q = AW sv 120 20 [v0] (.int (σ.1 a x.toNatClampNeg) :: r) (am_toH σ) 0 0 Q := e_iald am_h120 dX9_here_19 hi
theorem x120_20 : AW sv 120 20 [v0] r h 0 0 Q = AW sv 120 22 [v0] (.int (32) :: r) h 0 0 Q := e_bipushv am_h120 dX9_here_20 c_bipush_32
theorem x120_22 : AW sv 120 22 [v0] (.int y :: .int x :: r) h 0 0 Q = if ¬ x = y then AW sv 120 38 [v0] r h 0 0 Q else AW sv 120 25 [v0] r h 0 0 Q := e_c_ne am_h120 dX9_here_22 rfl
theorem x120_25 : AW sv 120 25 [.ref a] r h 0 0 Q = AW sv 120 26 [.ref a] (.ref a :: r) h 0 0 Q := e_pv am_h120 dX9_here_25 rfl rfl rfl rfl
theorem x120_26 (hc : v.category = 1) : AW sv 120 26 [v0] (v :: r) h 0 0 Q = AW sv 120 27 [v0] (v :: v :: r) h 0 0 Q := e_dup am_h120 dX9_here_26 hc
theorem x120_27 : AW sv 120 27 [v0] (.ref 71 :: r) (am_toH σ) 0 0 Q = AW sv 120 30 [v0] (.int (σ.1 71 11) :: r) (am_toH σ) 0 0 Q := e_getI am_h120 dX9_here_27 fl_9_122 is9 rfl
theorem x120_30 : AW sv 120 30 [v0] r h 0 0 Q = AW sv 120 31 [v0] (.int (1) :: r) h 0 0 Q := e_iconstv am_h120 dX9_here_30 c_iconst_1
theorem x120_31 : AW sv 120 31 [v0] (.int y :: .int x :: r) h 0 0 Q = AW sv 120 32 [v0] (.int (x + y) :: r) h 0 0 Q := e_iadd am_h120 dX9_here_31
theorem x120_32 : AW sv 120 32 [v0] (.int x :: .ref 71 :: r) (am_toH σ) 0 0 Q = AW sv 120 35 [v0] r (am_toH (am_wr σ 71 (upd (σ.1 71) 11 x))) 0 0 Q := e_putI am_h120 dX9_here_32 fl_9_122 is9 rfl rfl rfl
theorem x120_35 : AW sv 120 35 [v0] r h 0 0 Q = AW sv 120 0 [v0] r h 0 0 Q := e_goto am_h120 dX9_here_35 rfl
theorem x120_38 : AW sv 120 38 [.ref a] r h 0 0 Q = AW sv 120 39 [.ref a] (.ref a :: r) h 0 0 Q := e_pv am_h120 dX9_here_38 rfl rfl rfl rfl
theorem x120_39 : AW sv 120 39 [v0] (.ref 71 :: r) (am_toH σ) 0 0 Q = AW sv 120 42 [v0] (.int (σ.1 71 11) :: r) (am_toH σ) 0 0 Q := e_getI am_h120 dX9_here_39 fl_9_122 is9 rfl
theorem x120_42 : AW sv 120 42 [.ref a] r h 0 0 Q = AW sv 120 43 [.ref a] (.ref a :: r) h 0 0 Q := e_pv am_h120 dX9_here_42 rfl rfl rfl rfl
theorem x120_43 : AW sv 120 43 [v0] (.ref 71 :: r) (am_toH σ) 0 0 Q = AW sv 120 46 [v0] (.int (σ.1 71 10) :: r) (am_toH σ) 0 0 Q := e_getI am_h120 dX9_here_43 fl_9_119 is9 rfl
theorem x120_46 : AW sv 120 46 [v0] (.int y :: .int x :: r) h 0 0 Q = if y ≤ x then AW sv 120 61 [v0] r h 0 0 Q else AW sv 120 49 [v0] r h 0 0 Q := e_c_ge am_h120 dX9_here_46 rfl
theorem x120_49 : AW sv 120 49 [.ref a] r h 0 0 Q = AW sv 120 50 [.ref a] (.ref a :: r) h 0 0 Q := e_pv am_h120 dX9_here_49 rfl rfl rfl rfl
theorem x120_50 : AW sv 120 50 [v0] (.ref 71 :: r) (am_toH σ) 0 0 Q = AW sv 120 53 [v0] (.ref 79 :: r) (am_toH σ) 0 0 Q := e_getR am_h120 dX9_here_50 fl_9_31 is9 rfl
theorem x120_53 : AW sv 120 53 [.ref a] r h 0 0 Q = AW sv 120 54 [.ref a] (.ref a :: r) h 0 0 Q := e_pv am_h120 dX9_here_53 rfl rfl rfl rfl
theorem x120_54 : AW sv 120 54 [v0] (.ref 71 :: r) (am_toH σ) 0 0 Q = AW sv 120 57 [v0] (.int (σ.1 71 11) :: r) (am_toH σ) 0 0 Q := e_getI am_h120 dX9_here_54 fl_9_122 is9 rfl
theorem x120_57 (hi : am_in x (am_ln a) = true) : AW sv 120 57 [v0] (.int x :: .ref a :: r) (am_toH σ) 0 0 Q = AW sv 120 58 [v0] (.int (σ.1 a x.toNatClampNeg) :: r) (am_toH σ) 0 0 Q := e_iald am_h120 dX9_here_57 hi
theorem x120_58 : AW sv 120 58 [v0] r h 0 0 Q = AW sv 120 62 [v0] r h 0 0 Q := e_goto am_h120 dX9_here_58 rfl
theorem x120_61 : AW sv 120 61 [v0] r h 0 0 Q = AW sv 120 62 [v0] (.int (0) :: r) h 0 0 Q := e_iconstv am_h120 dX9_here_61 c_iconst_0
theorem x120_62 : AW sv 120 62 [v0] [.int x] h 0 0 Q = Q (some (.int x)) h := e_iret am_h120 dX9_here_62 rfl ⟨rfl, rfl⟩
theorem n120 : AM sv 120 [.ref a] h Q = AW sv 120 0 [.ref a] [] h 0 0 Q := rfl
theorem x121_0 : AW sv 121 0 [.ref a, v1, v2] r h 0 0 Q = AW sv 121 1 [.ref a, v1, v2] (.ref a :: r) h 0 0 Q := e_pv am_h121 dX9_has_0 rfl rfl rfl rfl
theorem x121_1 : AW sv 121 1 [v0, v1, v2] (.ref 71 :: r) (am_toH σ) 0 0 Q = AW sv 121 4 [v0, v1, v2] (.int (σ.1 71 12) :: r) (am_toH σ) 0 0 Q := e_getI am_h121 dX9_has_1 fl_9_125 is9 rfl
theorem x121_4 : AW sv 121 4 [v0, v1, v2] (.int x :: r) h 0 0 Q = if ¬ x = 0 then AW sv 121 19 [v0, v1, v2] r h 0 0 Q else AW sv 121 7 [v0, v1, v2] r h 0 0 Q := e_z_ne am_h121 dX9_has_4 rfl
theorem x121_7 : AW sv 121 7 [.ref a, v1, v2] r h 0 0 Q = AW sv 121 8 [.ref a, v1, v2] (.ref a :: r) h 0 0 Q := e_pv am_h121 dX9_has_7 rfl rfl rfl rfl
theorem x121_8 (h8 : am_cs r ≤ 8) : AW sv 121 8 [v0, v1, v2] (.ref 71 :: r) (am_toH σ) 0 0 Q = AM sv 120 [.ref 71] (am_toH σ) (fun v h1 => AW sv 121 11 [v0, v1, v2] (v.toList ++ r) h1 0 0 Q) := e_cV (as := []) am_h121 dX9_has_8 ml_9_129 (by decide) am_h120 rfl is9 rfl rfl ⟨by decide, Nat.le_of_ble_eq_true rfl, am_rc_of (by decide) h8⟩
theorem x121_11 : AW sv 121 11 [v0, .int x, v2] r h 0 0 Q = AW sv 121 12 [v0, .int x, v2] (.int x :: r) h 0 0 Q := e_pv am_h121 dX9_has_11 rfl rfl rfl rfl
theorem x121_12 : AW sv 121 12 [v0, v1, v2] (.int y :: .int x :: r) h 0 0 Q = if ¬ x = y then AW sv 121 19 [v0, v1, v2] r h 0 0 Q else AW sv 121 15 [v0, v1, v2] r h 0 0 Q := e_c_ne am_h121 dX9_has_12 rfl
theorem x121_15 : AW sv 121 15 [v0, v1, v2] r h 0 0 Q = AW sv 121 16 [v0, v1, v2] (.int (1) :: r) h 0 0 Q := e_iconstv am_h121 dX9_has_15 c_iconst_1
theorem x121_16 : AW sv 121 16 [v0, v1, v2] r h 0 0 Q = AW sv 121 20 [v0, v1, v2] r h 0 0 Q := e_goto am_h121 dX9_has_16 rfl
theorem x121_19 : AW sv 121 19 [v0, v1, v2] r h 0 0 Q = AW sv 121 20 [v0, v1, v2] (.int (0) :: r) h 0 0 Q := e_iconstv am_h121 dX9_has_19 c_iconst_0
theorem x121_20 (hc : v1.category = 1) : AW sv 121 20 [v0, v1, v2] (.int x :: r) h 0 0 Q = AW sv 121 21 [v0, v1, .int x] r h 0 0 Q := e_pv am_h121 dX9_has_20 rfl rfl rfl (am_sti_of (Nat.le_of_ble_eq_true rfl) (am_c1_of rfl hc))
theorem x121_21 : AW sv 121 21 [.ref a, v1, v2] r h 0 0 Q = AW sv 121 22 [.ref a, v1, v2] (.ref a :: r) h 0 0 Q := e_pv am_h121 dX9_has_21 rfl rfl rfl rfl
theorem x121_22 (hc : v.category = 1) : AW sv 121 22 [v0, v1, v2] (v :: r) h 0 0 Q = AW sv 121 23 [v0, v1, v2] (v :: v :: r) h 0 0 Q := e_dup am_h121 dX9_has_22 hc
theorem x121_23 : AW sv 121 23 [v0, v1, v2] (.ref 71 :: r) (am_toH σ) 0 0 Q = AW sv 121 26 [v0, v1, v2] (.int (σ.1 71 11) :: r) (am_toH σ) 0 0 Q := e_getI am_h121 dX9_has_23 fl_9_122 is9 rfl
theorem x121_26 : AW sv 121 26 [v0, v1, .int x] r h 0 0 Q = AW sv 121 27 [v0, v1, .int x] (.int x :: r) h 0 0 Q := e_pv am_h121 dX9_has_26 rfl rfl rfl rfl
theorem x121_27 : AW sv 121 27 [v0, v1, v2] (.int x :: r) h 0 0 Q = if x = 0 then AW sv 121 34 [v0, v1, v2] r h 0 0 Q else AW sv 121 30 [v0, v1, v2] r h 0 0 Q := e_z_eq am_h121 dX9_has_27 rfl
theorem x121_30 : AW sv 121 30 [v0, v1, v2] r h 0 0 Q = AW sv 121 31 [v0, v1, v2] (.int (1) :: r) h 0 0 Q := e_iconstv am_h121 dX9_has_30 c_iconst_1
theorem x121_31 : AW sv 121 31 [v0, v1, v2] r h 0 0 Q = AW sv 121 35 [v0, v1, v2] r h 0 0 Q := e_goto am_h121 dX9_has_31 rfl
theorem x121_34 : AW sv 121 34 [v0, v1, v2] r h 0 0 Q = AW sv 121 35 [v0, v1, v2] (.int (0) :: r) h 0 0 Q := e_iconstv am_h121 dX9_has_34 c_iconst_0
theorem x121_35 : AW sv 121 35 [v0, v1, v2] (.int y :: .int x :: r) h 0 0 Q = AW sv 121 36 [v0, v1, v2] (.int (x + y) :: r) h 0 0 Q := e_iadd am_h121 dX9_has_35
theorem x121_36 : AW sv 121 36 [v0, v1, v2] (.int x :: .ref 71 :: r) (am_toH σ) 0 0 Q = AW sv 121 39 [v0, v1, v2] r (am_toH (am_wr σ 71 (upd (σ.1 71) 11 x))) 0 0 Q := e_putI am_h121 dX9_has_36 fl_9_122 is9 rfl rfl rfl
theorem x121_39 : AW sv 121 39 [v0, v1, .int x] r h 0 0 Q = AW sv 121 40 [v0, v1, .int x] (.int x :: r) h 0 0 Q := e_pv am_h121 dX9_has_39 rfl rfl rfl rfl
theorem x121_40 (hz : x = 0 ∨ x = 1) : AW sv 121 40 [v0, v1, v2] [.int x] h 0 0 Q = Q (some (.int x)) h := e_zret am_h121 dX9_has_40 rfl ⟨rfl, rfl⟩ hz
theorem n121 : AM sv 121 [.ref a, .int x0] h Q = AW sv 121 0 [.ref a, .int x0, .null] [] h 0 0 Q := rfl
theorem x122_0 : AW sv 122 0 [.ref a, v1, v2, v3] r h 0 0 Q = AW sv 122 1 [.ref a, v1, v2, v3] (.ref a :: r) h 0 0 Q := e_pv am_h122 dX9_number_0 rfl rfl rfl rfl
theorem x122_1 : AW sv 122 1 [v0, v1, v2, v3] (.ref 71 :: r) (am_toH σ) 0 0 Q = AW sv 122 4 [v0, v1, v2, v3] (.int (σ.1 71 12) :: r) (am_toH σ) 0 0 Q := e_getI am_h122 dX9_number_1 fl_9_125 is9 rfl
theorem x122_4 : AW sv 122 4 [v0, v1, v2, v3] (.int x :: r) h 0 0 Q = if ¬ x = 0 then AW sv 122 24 [v0, v1, v2, v3] r h 0 0 Q else AW sv 122 7 [v0, v1, v2, v3] r h 0 0 Q := e_z_ne am_h122 dX9_number_4 rfl
theorem x122_7 : AW sv 122 7 [.ref a, v1, v2, v3] r h 0 0 Q = AW sv 122 8 [.ref a, v1, v2, v3] (.ref a :: r) h 0 0 Q := e_pv am_h122 dX9_number_7 rfl rfl rfl rfl
theorem x122_8 (h8 : am_cs r ≤ 8) : AW sv 122 8 [v0, v1, v2, v3] (.ref 71 :: r) (am_toH σ) 0 0 Q = AM sv 120 [.ref 71] (am_toH σ) (fun v h1 => AW sv 122 11 [v0, v1, v2, v3] (v.toList ++ r) h1 0 0 Q) := e_cV (as := []) am_h122 dX9_number_8 ml_9_129 (by decide) am_h120 rfl is9 rfl rfl ⟨by decide, Nat.le_of_ble_eq_true rfl, am_rc_of (by decide) h8⟩
theorem x122_11 : AW sv 122 11 [v0, v1, v2, v3] (.int x :: r) h 0 0 Q = AW sv 122 12 [v0, v1, v2, v3] (.long x.toInt64 :: r) h 0 0 Q := e_i2l am_h122 dX9_number_11
theorem x122_12 : AW sv 122 12 [v0, v1, v2, v3] r h 0 0 Q = AW sv 122 15 [v0, v1, v2, v3] (.long (48) :: r) h 0 0 Q := e_ldc2 am_h122 dX9_number_12 (by decide +kernel)
theorem x122_15 : AW sv 122 15 [v0, v1, v2, v3] r h 0 0 Q = AW sv 122 18 [v0, v1, v2, v3] (.long (57) :: r) h 0 0 Q := e_ldc2 am_h122 dX9_number_15 (by decide +kernel)
theorem x122_18 (h8 : am_cs r ≤ 8) : AW sv 122 18 [v0, v1, v2, v3] (.long u2 :: .long u1 :: .long u0 :: r) h 0 0 Q = AM sv 104 [.long u0, .long u1, .long u2] h (fun v h1 => AW sv 122 21 [v0, v1, v2, v3] (v.toList ++ r) h1 0 0 Q) := e_cS (as := [.long u0, .long u1, .long u2]) am_h122 dX9_number_18 ml_9_70 (by decide) am_h104 rfl rfl rfl ⟨by decide, Nat.le_of_ble_eq_true rfl, am_rc_of (by decide) h8⟩
theorem x122_21 : AW sv 122 21 [v0, v1, v2, v3] (.int x :: r) h 0 0 Q = if ¬ x = 0 then AW sv 122 31 [v0, v1, v2, v3] r h 0 0 Q else AW sv 122 24 [v0, v1, v2, v3] r h 0 0 Q := e_z_ne am_h122 dX9_number_21 rfl
theorem x122_24 : AW sv 122 24 [.ref a, v1, v2, v3] r h 0 0 Q = AW sv 122 25 [.ref a, v1, v2, v3] (.ref a :: r) h 0 0 Q := e_pv am_h122 dX9_number_24 rfl rfl rfl rfl
theorem x122_25 : AW sv 122 25 [v0, v1, v2, v3] r h 0 0 Q = AW sv 122 26 [v0, v1, v2, v3] (.int (1) :: r) h 0 0 Q := e_iconstv am_h122 dX9_number_25 c_iconst_1
theorem x122_26 (hz : x = 0 ∨ x = 1) : AW sv 122 26 [v0, v1, v2, v3] (.int x :: .ref 71 :: r) (am_toH σ) 0 0 Q = AW sv 122 29 [v0, v1, v2, v3] r (am_toH (am_wr σ 71 (upd (σ.1 71) 12 x))) 0 0 Q := e_putI am_h122 dX9_number_26 fl_9_125 is9 rfl rfl (am_vz_bool hz)
theorem x122_29 : AW sv 122 29 [v0, v1, v2, v3] r h 0 0 Q = AW sv 122 30 [v0, v1, v2, v3] (.int (0) :: r) h 0 0 Q := e_iconstv am_h122 dX9_number_29 c_iconst_0
theorem x122_30 : AW sv 122 30 [v0, v1, v2, v3] [.int x] h 0 0 Q = Q (some (.int x)) h := e_iret am_h122 dX9_number_30 rfl ⟨rfl, rfl⟩
theorem x122_31 : AW sv 122 31 [.ref a, v1, v2, v3] r h 0 0 Q = AW sv 122 32 [.ref a, v1, v2, v3] (.ref a :: r) h 0 0 Q := e_pv am_h122 dX9_number_31 rfl rfl rfl rfl
theorem x122_32 : AW sv 122 32 [v0, v1, v2, v3] (.ref 71 :: r) (am_toH σ) 0 0 Q = AW sv 122 35 [v0, v1, v2, v3] (.int (σ.1 71 11) :: r) (am_toH σ) 0 0 Q := e_getI am_h122 dX9_number_32 fl_9_122 is9 rfl
theorem x122_35 (hc : v1.category = 1) : AW sv 122 35 [v0, v1, v2, v3] (.int x :: r) h 0 0 Q = AW sv 122 36 [v0, v1, .int x, v3] r h 0 0 Q := e_pv am_h122 dX9_number_35 rfl rfl rfl (am_sti_of (Nat.le_of_ble_eq_true rfl) (am_c1_of rfl hc))
theorem x122_36 : AW sv 122 36 [v0, v1, v2, v3] r h 0 0 Q = AW sv 122 37 [v0, v1, v2, v3] (.int (0) :: r) h 0 0 Q := e_iconstv am_h122 dX9_number_36 c_iconst_0
theorem x122_37 (hc : v2.category = 1) : AW sv 122 37 [v0, v1, v2, v3] (.int x :: r) h 0 0 Q = AW sv 122 38 [v0, v1, v2, .int x] r h 0 0 Q := e_pv am_h122 dX9_number_37 rfl rfl rfl (am_sti_of (Nat.le_of_ble_eq_true rfl) (am_c1_of rfl hc))
theorem x122_38 : AW sv 122 38 [.ref a, v1, v2, v3] r h 0 0 Q = AW sv 122 39 [.ref a, v1, v2, v3] (.ref a :: r) h 0 0 Q := e_pv am_h122 dX9_number_38 rfl rfl rfl rfl
theorem x122_39 : AW sv 122 39 [v0, v1, v2, v3] (.ref 71 :: r) (am_toH σ) 0 0 Q = AW sv 122 42 [v0, v1, v2, v3] (.int (σ.1 71 11) :: r) (am_toH σ) 0 0 Q := e_getI am_h122 dX9_number_39 fl_9_122 is9 rfl
theorem x122_42 : AW sv 122 42 [.ref a, v1, v2, v3] r h 0 0 Q = AW sv 122 43 [.ref a, v1, v2, v3] (.ref a :: r) h 0 0 Q := e_pv am_h122 dX9_number_42 rfl rfl rfl rfl
theorem x122_43 : AW sv 122 43 [v0, v1, v2, v3] (.ref 71 :: r) (am_toH σ) 0 0 Q = AW sv 122 46 [v0, v1, v2, v3] (.int (σ.1 71 10) :: r) (am_toH σ) 0 0 Q := e_getI am_h122 dX9_number_43 fl_9_119 is9 rfl
theorem x122_46 : AW sv 122 46 [v0, v1, v2, v3] (.int y :: .int x :: r) h 0 0 Q = if y ≤ x then AW sv 122 113 [v0, v1, v2, v3] r h 0 0 Q else AW sv 122 49 [v0, v1, v2, v3] r h 0 0 Q := e_c_ge am_h122 dX9_number_46 rfl
theorem x122_49 : AW sv 122 49 [.ref a, v1, v2, v3] r h 0 0 Q = AW sv 122 50 [.ref a, v1, v2, v3] (.ref a :: r) h 0 0 Q := e_pv am_h122 dX9_number_49 rfl rfl rfl rfl
theorem x122_50 : AW sv 122 50 [v0, v1, v2, v3] (.ref 71 :: r) (am_toH σ) 0 0 Q = AW sv 122 53 [v0, v1, v2, v3] (.ref 79 :: r) (am_toH σ) 0 0 Q := e_getR am_h122 dX9_number_50 fl_9_31 is9 rfl
theorem x122_53 : AW sv 122 53 [.ref a, v1, v2, v3] r h 0 0 Q = AW sv 122 54 [.ref a, v1, v2, v3] (.ref a :: r) h 0 0 Q := e_pv am_h122 dX9_number_53 rfl rfl rfl rfl
theorem x122_54 : AW sv 122 54 [v0, v1, v2, v3] (.ref 71 :: r) (am_toH σ) 0 0 Q = AW sv 122 57 [v0, v1, v2, v3] (.int (σ.1 71 11) :: r) (am_toH σ) 0 0 Q := e_getI am_h122 dX9_number_54 fl_9_122 is9 rfl
theorem x122_57 (hi : am_in x (am_ln a) = true) : AW sv 122 57 [v0, v1, v2, v3] (.int x :: .ref a :: r) (am_toH σ) 0 0 Q = AW sv 122 58 [v0, v1, v2, v3] (.int (σ.1 a x.toNatClampNeg) :: r) (am_toH σ) 0 0 Q := e_iald am_h122 dX9_number_57 hi
theorem x122_58 : AW sv 122 58 [v0, v1, v2, v3] (.int x :: r) h 0 0 Q = AW sv 122 59 [v0, v1, v2, v3] (.long x.toInt64 :: r) h 0 0 Q := e_i2l am_h122 dX9_number_58
theorem x122_59 : AW sv 122 59 [v0, v1, v2, v3] r h 0 0 Q = AW sv 122 62 [v0, v1, v2, v3] (.long (48) :: r) h 0 0 Q := e_ldc2 am_h122 dX9_number_59 (by decide +kernel)
theorem x122_62 : AW sv 122 62 [v0, v1, v2, v3] r h 0 0 Q = AW sv 122 65 [v0, v1, v2, v3] (.long (57) :: r) h 0 0 Q := e_ldc2 am_h122 dX9_number_62 (by decide +kernel)
theorem x122_65 (h8 : am_cs r ≤ 8) : AW sv 122 65 [v0, v1, v2, v3] (.long u2 :: .long u1 :: .long u0 :: r) h 0 0 Q = AM sv 104 [.long u0, .long u1, .long u2] h (fun v h1 => AW sv 122 68 [v0, v1, v2, v3] (v.toList ++ r) h1 0 0 Q) := e_cS (as := [.long u0, .long u1, .long u2]) am_h122 dX9_number_65 ml_9_70 (by decide) am_h104 rfl rfl rfl ⟨by decide, Nat.le_of_ble_eq_true rfl, am_rc_of (by decide) h8⟩
theorem x122_68 : AW sv 122 68 [v0, v1, v2, v3] (.int x :: r) h 0 0 Q = if x = 0 then AW sv 122 113 [v0, v1, v2, v3] r h 0 0 Q else AW sv 122 71 [v0, v1, v2, v3] r h 0 0 Q := e_z_eq am_h122 dX9_number_68 rfl
theorem x122_71 : AW sv 122 71 [v0, v1, v2, .int x] r h 0 0 Q = AW sv 122 72 [v0, v1, v2, .int x] (.int x :: r) h 0 0 Q := e_pv am_h122 dX9_number_71 rfl rfl rfl rfl
theorem x122_72 : AW sv 122 72 [v0, v1, v2, v3] r h 0 0 Q = AW sv 122 75 [v0, v1, v2, v3] (.int (999) :: r) h 0 0 Q := e_sipushv am_h122 dX9_number_72 c_sipush_999
theorem x122_75 : AW sv 122 75 [v0, v1, v2, v3] (.int y :: .int x :: r) h 0 0 Q = if x ≤ y then AW sv 122 82 [v0, v1, v2, v3] r h 0 0 Q else AW sv 122 78 [v0, v1, v2, v3] r h 0 0 Q := e_c_le am_h122 dX9_number_75 rfl
theorem x122_78 : AW sv 122 78 [v0, v1, v2, .int x] r h 0 0 Q = AW sv 122 79 [v0, v1, v2, .int x] (.int x :: r) h 0 0 Q := e_pv am_h122 dX9_number_78 rfl rfl rfl rfl
theorem x122_79 : AW sv 122 79 [v0, v1, v2, v3] r h 0 0 Q = AW sv 122 99 [v0, v1, v2, v3] r h 0 0 Q := e_goto am_h122 dX9_number_79 rfl
theorem x122_82 : AW sv 122 82 [v0, v1, v2, v3] r h 0 0 Q = AW sv 122 84 [v0, v1, v2, v3] (.int (10) :: r) h 0 0 Q := e_bipushv am_h122 dX9_number_82 c_bipush_10
theorem x122_84 : AW sv 122 84 [v0, v1, v2, .int x] r h 0 0 Q = AW sv 122 85 [v0, v1, v2, .int x] (.int x :: r) h 0 0 Q := e_pv am_h122 dX9_number_84 rfl rfl rfl rfl
theorem x122_85 : AW sv 122 85 [v0, v1, v2, v3] (.int y :: .int x :: r) h 0 0 Q = AW sv 122 86 [v0, v1, v2, v3] (.int (x * y) :: r) h 0 0 Q := e_imul am_h122 dX9_number_85
theorem x122_86 : AW sv 122 86 [.ref a, v1, v2, v3] r h 0 0 Q = AW sv 122 87 [.ref a, v1, v2, v3] (.ref a :: r) h 0 0 Q := e_pv am_h122 dX9_number_86 rfl rfl rfl rfl
theorem x122_87 : AW sv 122 87 [v0, v1, v2, v3] (.ref 71 :: r) (am_toH σ) 0 0 Q = AW sv 122 90 [v0, v1, v2, v3] (.ref 79 :: r) (am_toH σ) 0 0 Q := e_getR am_h122 dX9_number_87 fl_9_31 is9 rfl
theorem x122_90 : AW sv 122 90 [.ref a, v1, v2, v3] r h 0 0 Q = AW sv 122 91 [.ref a, v1, v2, v3] (.ref a :: r) h 0 0 Q := e_pv am_h122 dX9_number_90 rfl rfl rfl rfl
theorem x122_91 : AW sv 122 91 [v0, v1, v2, v3] (.ref 71 :: r) (am_toH σ) 0 0 Q = AW sv 122 94 [v0, v1, v2, v3] (.int (σ.1 71 11) :: r) (am_toH σ) 0 0 Q := e_getI am_h122 dX9_number_91 fl_9_122 is9 rfl
theorem x122_94 (hi : am_in x (am_ln a) = true) : AW sv 122 94 [v0, v1, v2, v3] (.int x :: .ref a :: r) (am_toH σ) 0 0 Q = AW sv 122 95 [v0, v1, v2, v3] (.int (σ.1 a x.toNatClampNeg) :: r) (am_toH σ) 0 0 Q := e_iald am_h122 dX9_number_94 hi
theorem x122_95 : AW sv 122 95 [v0, v1, v2, v3] (.int y :: .int x :: r) h 0 0 Q = AW sv 122 96 [v0, v1, v2, v3] (.int (x + y) :: r) h 0 0 Q := e_iadd am_h122 dX9_number_95
theorem x122_96 : AW sv 122 96 [v0, v1, v2, v3] r h 0 0 Q = AW sv 122 98 [v0, v1, v2, v3] (.int (48) :: r) h 0 0 Q := e_bipushv am_h122 dX9_number_96 c_bipush_48
theorem x122_98 : AW sv 122 98 [v0, v1, v2, v3] (.int y :: .int x :: r) h 0 0 Q = AW sv 122 99 [v0, v1, v2, v3] (.int (x - y) :: r) h 0 0 Q := e_isub am_h122 dX9_number_98
theorem x122_99 (hc : v2.category = 1) : AW sv 122 99 [v0, v1, v2, v3] (.int x :: r) h 0 0 Q = AW sv 122 100 [v0, v1, v2, .int x] r h 0 0 Q := e_pv am_h122 dX9_number_99 rfl rfl rfl (am_sti_of (Nat.le_of_ble_eq_true rfl) (am_c1_of rfl hc))
theorem x122_100 : AW sv 122 100 [.ref a, v1, v2, v3] r h 0 0 Q = AW sv 122 101 [.ref a, v1, v2, v3] (.ref a :: r) h 0 0 Q := e_pv am_h122 dX9_number_100 rfl rfl rfl rfl
theorem x122_101 (hc : v.category = 1) : AW sv 122 101 [v0, v1, v2, v3] (v :: r) h 0 0 Q = AW sv 122 102 [v0, v1, v2, v3] (v :: v :: r) h 0 0 Q := e_dup am_h122 dX9_number_101 hc
theorem x122_102 : AW sv 122 102 [v0, v1, v2, v3] (.ref 71 :: r) (am_toH σ) 0 0 Q = AW sv 122 105 [v0, v1, v2, v3] (.int (σ.1 71 11) :: r) (am_toH σ) 0 0 Q := e_getI am_h122 dX9_number_102 fl_9_122 is9 rfl
theorem x122_105 : AW sv 122 105 [v0, v1, v2, v3] r h 0 0 Q = AW sv 122 106 [v0, v1, v2, v3] (.int (1) :: r) h 0 0 Q := e_iconstv am_h122 dX9_number_105 c_iconst_1
theorem x122_106 : AW sv 122 106 [v0, v1, v2, v3] (.int y :: .int x :: r) h 0 0 Q = AW sv 122 107 [v0, v1, v2, v3] (.int (x + y) :: r) h 0 0 Q := e_iadd am_h122 dX9_number_106
theorem x122_107 : AW sv 122 107 [v0, v1, v2, v3] (.int x :: .ref 71 :: r) (am_toH σ) 0 0 Q = AW sv 122 110 [v0, v1, v2, v3] r (am_toH (am_wr σ 71 (upd (σ.1 71) 11 x))) 0 0 Q := e_putI am_h122 dX9_number_107 fl_9_122 is9 rfl rfl rfl
theorem x122_110 : AW sv 122 110 [v0, v1, v2, v3] r h 0 0 Q = AW sv 122 38 [v0, v1, v2, v3] r h 0 0 Q := e_goto am_h122 dX9_number_110 rfl
theorem x122_113 : AW sv 122 113 [.ref a, v1, v2, v3] r h 0 0 Q = AW sv 122 114 [.ref a, v1, v2, v3] (.ref a :: r) h 0 0 Q := e_pv am_h122 dX9_number_113 rfl rfl rfl rfl
theorem x122_114 : AW sv 122 114 [v0, v1, v2, .int x] r h 0 0 Q = AW sv 122 115 [v0, v1, v2, .int x] (.int x :: r) h 0 0 Q := e_pv am_h122 dX9_number_114 rfl rfl rfl rfl
theorem x122_115 : AW sv 122 115 [v0, .int x, v2, v3] r h 0 0 Q = AW sv 122 116 [v0, .int x, v2, v3] (.int x :: r) h 0 0 Q := e_pv am_h122 dX9_number_115 rfl rfl rfl rfl
theorem x122_116 : AW sv 122 116 [v0, v1, v2, v3] (.int y :: .int x :: r) h 0 0 Q = if x ≤ y then AW sv 122 123 [v0, v1, v2, v3] r h 0 0 Q else AW sv 122 119 [v0, v1, v2, v3] r h 0 0 Q := e_c_le am_h122 dX9_number_116 rfl
theorem x122_119 : AW sv 122 119 [v0, v1, v2, v3] r h 0 0 Q = AW sv 122 120 [v0, v1, v2, v3] (.int (1) :: r) h 0 0 Q := e_iconstv am_h122 dX9_number_119 c_iconst_1
theorem x122_120 : AW sv 122 120 [v0, v1, v2, v3] r h 0 0 Q = AW sv 122 124 [v0, v1, v2, v3] r h 0 0 Q := e_goto am_h122 dX9_number_120 rfl
theorem x122_123 : AW sv 122 123 [v0, v1, v2, v3] r h 0 0 Q = AW sv 122 124 [v0, v1, v2, v3] (.int (0) :: r) h 0 0 Q := e_iconstv am_h122 dX9_number_123 c_iconst_0
theorem x122_124 (hz : x = 0 ∨ x = 1) : AW sv 122 124 [v0, v1, v2, v3] (.int x :: .ref 71 :: r) (am_toH σ) 0 0 Q = AW sv 122 127 [v0, v1, v2, v3] r (am_toH (am_wr σ 71 (upd (σ.1 71) 12 x))) 0 0 Q := e_putI am_h122 dX9_number_124 fl_9_125 is9 rfl rfl (am_vz_bool hz)
theorem x122_127 : AW sv 122 127 [.ref a, v1, v2, v3] r h 0 0 Q = AW sv 122 128 [.ref a, v1, v2, v3] (.ref a :: r) h 0 0 Q := e_pv am_h122 dX9_number_127 rfl rfl rfl rfl
theorem x122_128 : AW sv 122 128 [.ref a, v1, v2, v3] r h 0 0 Q = AW sv 122 129 [.ref a, v1, v2, v3] (.ref a :: r) h 0 0 Q := e_pv am_h122 dX9_number_128 rfl rfl rfl rfl
theorem x122_129 : AW sv 122 129 [v0, v1, v2, v3] (.ref 71 :: r) (am_toH σ) 0 0 Q = AW sv 122 132 [v0, v1, v2, v3] (.int (σ.1 71 12) :: r) (am_toH σ) 0 0 Q := e_getI am_h122 dX9_number_129 fl_9_125 is9 rfl
theorem x122_132 : AW sv 122 132 [v0, v1, v2, v3] (.int x :: r) h 0 0 Q = if x = 0 then AW sv 122 139 [v0, v1, v2, v3] r h 0 0 Q else AW sv 122 135 [v0, v1, v2, v3] r h 0 0 Q := e_z_eq am_h122 dX9_number_132 rfl
theorem x122_135 : AW sv 122 135 [v0, v1, .int x, v3] r h 0 0 Q = AW sv 122 136 [v0, v1, .int x, v3] (.int x :: r) h 0 0 Q := e_pv am_h122 dX9_number_135 rfl rfl rfl rfl
theorem x122_136 : AW sv 122 136 [v0, v1, v2, v3] r h 0 0 Q = AW sv 122 143 [v0, v1, v2, v3] r h 0 0 Q := e_goto am_h122 dX9_number_136 rfl
theorem x122_139 : AW sv 122 139 [.ref a, v1, v2, v3] r h 0 0 Q = AW sv 122 140 [.ref a, v1, v2, v3] (.ref a :: r) h 0 0 Q := e_pv am_h122 dX9_number_139 rfl rfl rfl rfl
theorem x122_140 : AW sv 122 140 [v0, v1, v2, v3] (.ref 71 :: r) (am_toH σ) 0 0 Q = AW sv 122 143 [v0, v1, v2, v3] (.int (σ.1 71 11) :: r) (am_toH σ) 0 0 Q := e_getI am_h122 dX9_number_140 fl_9_122 is9 rfl
theorem x122_143 : AW sv 122 143 [v0, v1, v2, v3] (.int x :: .ref 71 :: r) (am_toH σ) 0 0 Q = AW sv 122 146 [v0, v1, v2, v3] r (am_toH (am_wr σ 71 (upd (σ.1 71) 11 x))) 0 0 Q := e_putI am_h122 dX9_number_143 fl_9_122 is9 rfl rfl rfl
theorem x122_146 : AW sv 122 146 [v0, v1, v2, .int x] r h 0 0 Q = AW sv 122 147 [v0, v1, v2, .int x] (.int x :: r) h 0 0 Q := e_pv am_h122 dX9_number_146 rfl rfl rfl rfl
theorem x122_147 : AW sv 122 147 [v0, v1, v2, v3] [.int x] h 0 0 Q = Q (some (.int x)) h := e_iret am_h122 dX9_number_147 rfl ⟨rfl, rfl⟩
theorem n122 : AM sv 122 [.ref a, .int x0] h Q = AW sv 122 0 [.ref a, .int x0, .null, .null] [] h 0 0 Q := rfl
theorem x123_0 : AW sv 123 0 [.ref a, v1, v2, v3] r h 0 0 Q = AW sv 123 1 [.ref a, v1, v2, v3] (.ref a :: r) h 0 0 Q := e_pv am_h123 dX9_digit_0 rfl rfl rfl rfl
theorem x123_1 : AW sv 123 1 [.ref a, v1, v2, v3] r h 0 0 Q = AW sv 123 2 [.ref a, v1, v2, v3] (.ref a :: r) h 0 0 Q := e_pv am_h123 dX9_digit_1 rfl rfl rfl rfl
theorem x123_2 : AW sv 123 2 [v0, v1, v2, v3] (.ref 71 :: r) (am_toH σ) 0 0 Q = AW sv 123 5 [v0, v1, v2, v3] (.int (σ.1 71 12) :: r) (am_toH σ) 0 0 Q := e_getI am_h123 dX9_digit_2 fl_9_125 is9 rfl
theorem x123_5 : AW sv 123 5 [v0, v1, v2, v3] (.int x :: r) h 0 0 Q = if ¬ x = 0 then AW sv 123 29 [v0, v1, v2, v3] r h 0 0 Q else AW sv 123 8 [v0, v1, v2, v3] r h 0 0 Q := e_z_ne am_h123 dX9_digit_5 rfl
theorem x123_8 : AW sv 123 8 [.ref a, v1, v2, v3] r h 0 0 Q = AW sv 123 9 [.ref a, v1, v2, v3] (.ref a :: r) h 0 0 Q := e_pv am_h123 dX9_digit_8 rfl rfl rfl rfl
theorem x123_9 (h8 : am_cs r ≤ 8) : AW sv 123 9 [v0, v1, v2, v3] (.ref 71 :: r) (am_toH σ) 0 0 Q = AM sv 120 [.ref 71] (am_toH σ) (fun v h1 => AW sv 123 12 [v0, v1, v2, v3] (v.toList ++ r) h1 0 0 Q) := e_cV (as := []) am_h123 dX9_digit_9 ml_9_129 (by decide) am_h120 rfl is9 rfl rfl ⟨by decide, Nat.le_of_ble_eq_true rfl, am_rc_of (by decide) h8⟩
theorem x123_12 : AW sv 123 12 [v0, v1, v2, v3] (.int x :: r) h 0 0 Q = AW sv 123 13 [v0, v1, v2, v3] (.long x.toInt64 :: r) h 0 0 Q := e_i2l am_h123 dX9_digit_12
theorem x123_13 : AW sv 123 13 [v0, v1, v2, v3] r h 0 0 Q = AW sv 123 15 [v0, v1, v2, v3] (.int (48) :: r) h 0 0 Q := e_bipushv am_h123 dX9_digit_13 c_bipush_48
theorem x123_15 : AW sv 123 15 [v0, .int x, v2, v3] r h 0 0 Q = AW sv 123 16 [v0, .int x, v2, v3] (.int x :: r) h 0 0 Q := e_pv am_h123 dX9_digit_15 rfl rfl rfl rfl
theorem x123_16 : AW sv 123 16 [v0, v1, v2, v3] (.int y :: .int x :: r) h 0 0 Q = AW sv 123 17 [v0, v1, v2, v3] (.int (x + y) :: r) h 0 0 Q := e_iadd am_h123 dX9_digit_16
theorem x123_17 : AW sv 123 17 [v0, v1, v2, v3] (.int x :: r) h 0 0 Q = AW sv 123 18 [v0, v1, v2, v3] (.long x.toInt64 :: r) h 0 0 Q := e_i2l am_h123 dX9_digit_17
theorem x123_18 : AW sv 123 18 [v0, v1, v2, v3] r h 0 0 Q = AW sv 123 20 [v0, v1, v2, v3] (.int (48) :: r) h 0 0 Q := e_bipushv am_h123 dX9_digit_18 c_bipush_48
theorem x123_20 : AW sv 123 20 [v0, v1, .int x, v3] r h 0 0 Q = AW sv 123 21 [v0, v1, .int x, v3] (.int x :: r) h 0 0 Q := e_pv am_h123 dX9_digit_20 rfl rfl rfl rfl
theorem x123_21 : AW sv 123 21 [v0, v1, v2, v3] (.int y :: .int x :: r) h 0 0 Q = AW sv 123 22 [v0, v1, v2, v3] (.int (x + y) :: r) h 0 0 Q := e_iadd am_h123 dX9_digit_21
theorem x123_22 : AW sv 123 22 [v0, v1, v2, v3] (.int x :: r) h 0 0 Q = AW sv 123 23 [v0, v1, v2, v3] (.long x.toInt64 :: r) h 0 0 Q := e_i2l am_h123 dX9_digit_22
theorem x123_23 (h8 : am_cs r ≤ 8) : AW sv 123 23 [v0, v1, v2, v3] (.long u2 :: .long u1 :: .long u0 :: r) h 0 0 Q = AM sv 104 [.long u0, .long u1, .long u2] h (fun v h1 => AW sv 123 26 [v0, v1, v2, v3] (v.toList ++ r) h1 0 0 Q) := e_cS (as := [.long u0, .long u1, .long u2]) am_h123 dX9_digit_23 ml_9_70 (by decide) am_h104 rfl rfl rfl ⟨by decide, Nat.le_of_ble_eq_true rfl, am_rc_of (by decide) h8⟩
theorem x123_26 : AW sv 123 26 [v0, v1, v2, v3] (.int x :: r) h 0 0 Q = if ¬ x = 0 then AW sv 123 33 [v0, v1, v2, v3] r h 0 0 Q else AW sv 123 29 [v0, v1, v2, v3] r h 0 0 Q := e_z_ne am_h123 dX9_digit_26 rfl
theorem x123_29 : AW sv 123 29 [v0, v1, v2, v3] r h 0 0 Q = AW sv 123 30 [v0, v1, v2, v3] (.int (1) :: r) h 0 0 Q := e_iconstv am_h123 dX9_digit_29 c_iconst_1
theorem x123_30 : AW sv 123 30 [v0, v1, v2, v3] r h 0 0 Q = AW sv 123 34 [v0, v1, v2, v3] r h 0 0 Q := e_goto am_h123 dX9_digit_30 rfl
theorem x123_33 : AW sv 123 33 [v0, v1, v2, v3] r h 0 0 Q = AW sv 123 34 [v0, v1, v2, v3] (.int (0) :: r) h 0 0 Q := e_iconstv am_h123 dX9_digit_33 c_iconst_0
theorem x123_34 (hz : x = 0 ∨ x = 1) : AW sv 123 34 [v0, v1, v2, v3] (.int x :: .ref 71 :: r) (am_toH σ) 0 0 Q = AW sv 123 37 [v0, v1, v2, v3] r (am_toH (am_wr σ 71 (upd (σ.1 71) 12 x))) 0 0 Q := e_putI am_h123 dX9_digit_34 fl_9_125 is9 rfl rfl (am_vz_bool hz)
theorem x123_37 : AW sv 123 37 [.ref a, v1, v2, v3] r h 0 0 Q = AW sv 123 38 [.ref a, v1, v2, v3] (.ref a :: r) h 0 0 Q := e_pv am_h123 dX9_digit_37 rfl rfl rfl rfl
theorem x123_38 : AW sv 123 38 [v0, v1, v2, v3] (.ref 71 :: r) (am_toH σ) 0 0 Q = AW sv 123 41 [v0, v1, v2, v3] (.int (σ.1 71 12) :: r) (am_toH σ) 0 0 Q := e_getI am_h123 dX9_digit_38 fl_9_125 is9 rfl
theorem x123_41 : AW sv 123 41 [v0, v1, v2, v3] (.int x :: r) h 0 0 Q = if x = 0 then AW sv 123 48 [v0, v1, v2, v3] r h 0 0 Q else AW sv 123 44 [v0, v1, v2, v3] r h 0 0 Q := e_z_eq am_h123 dX9_digit_41 rfl
theorem x123_44 : AW sv 123 44 [v0, v1, v2, v3] r h 0 0 Q = AW sv 123 45 [v0, v1, v2, v3] (.int (0) :: r) h 0 0 Q := e_iconstv am_h123 dX9_digit_44 c_iconst_0
theorem x123_45 : AW sv 123 45 [v0, v1, v2, v3] r h 0 0 Q = AW sv 123 55 [v0, v1, v2, v3] r h 0 0 Q := e_goto am_h123 dX9_digit_45 rfl
theorem x123_48 : AW sv 123 48 [.ref a, v1, v2, v3] r h 0 0 Q = AW sv 123 49 [.ref a, v1, v2, v3] (.ref a :: r) h 0 0 Q := e_pv am_h123 dX9_digit_48 rfl rfl rfl rfl
theorem x123_49 (h8 : am_cs r ≤ 8) : AW sv 123 49 [v0, v1, v2, v3] (.ref 71 :: r) (am_toH σ) 0 0 Q = AM sv 120 [.ref 71] (am_toH σ) (fun v h1 => AW sv 123 52 [v0, v1, v2, v3] (v.toList ++ r) h1 0 0 Q) := e_cV (as := []) am_h123 dX9_digit_49 ml_9_129 (by decide) am_h120 rfl is9 rfl rfl ⟨by decide, Nat.le_of_ble_eq_true rfl, am_rc_of (by decide) h8⟩
theorem x123_52 : AW sv 123 52 [v0, v1, v2, v3] r h 0 0 Q = AW sv 123 54 [v0, v1, v2, v3] (.int (48) :: r) h 0 0 Q := e_bipushv am_h123 dX9_digit_52 c_bipush_48
theorem x123_54 : AW sv 123 54 [v0, v1, v2, v3] (.int y :: .int x :: r) h 0 0 Q = AW sv 123 55 [v0, v1, v2, v3] (.int (x - y) :: r) h 0 0 Q := e_isub am_h123 dX9_digit_54
theorem x123_55 (hc : v2.category = 1) : AW sv 123 55 [v0, v1, v2, v3] (.int x :: r) h 0 0 Q = AW sv 123 56 [v0, v1, v2, .int x] r h 0 0 Q := e_pv am_h123 dX9_digit_55 rfl rfl rfl (am_sti_of (Nat.le_of_ble_eq_true rfl) (am_c1_of rfl hc))
theorem x123_56 : AW sv 123 56 [.ref a, v1, v2, v3] r h 0 0 Q = AW sv 123 57 [.ref a, v1, v2, v3] (.ref a :: r) h 0 0 Q := e_pv am_h123 dX9_digit_56 rfl rfl rfl rfl
theorem x123_57 (hc : v.category = 1) : AW sv 123 57 [v0, v1, v2, v3] (v :: r) h 0 0 Q = AW sv 123 58 [v0, v1, v2, v3] (v :: v :: r) h 0 0 Q := e_dup am_h123 dX9_digit_57 hc
theorem x123_58 : AW sv 123 58 [v0, v1, v2, v3] (.ref 71 :: r) (am_toH σ) 0 0 Q = AW sv 123 61 [v0, v1, v2, v3] (.int (σ.1 71 11) :: r) (am_toH σ) 0 0 Q := e_getI am_h123 dX9_digit_58 fl_9_122 is9 rfl
theorem x123_61 : AW sv 123 61 [.ref a, v1, v2, v3] r h 0 0 Q = AW sv 123 62 [.ref a, v1, v2, v3] (.ref a :: r) h 0 0 Q := e_pv am_h123 dX9_digit_61 rfl rfl rfl rfl
theorem x123_62 : AW sv 123 62 [v0, v1, v2, v3] (.ref 71 :: r) (am_toH σ) 0 0 Q = AW sv 123 65 [v0, v1, v2, v3] (.int (σ.1 71 12) :: r) (am_toH σ) 0 0 Q := e_getI am_h123 dX9_digit_62 fl_9_125 is9 rfl
theorem x123_65 : AW sv 123 65 [v0, v1, v2, v3] (.int x :: r) h 0 0 Q = if x = 0 then AW sv 123 72 [v0, v1, v2, v3] r h 0 0 Q else AW sv 123 68 [v0, v1, v2, v3] r h 0 0 Q := e_z_eq am_h123 dX9_digit_65 rfl
theorem x123_68 : AW sv 123 68 [v0, v1, v2, v3] r h 0 0 Q = AW sv 123 69 [v0, v1, v2, v3] (.int (0) :: r) h 0 0 Q := e_iconstv am_h123 dX9_digit_68 c_iconst_0
theorem x123_69 : AW sv 123 69 [v0, v1, v2, v3] r h 0 0 Q = AW sv 123 73 [v0, v1, v2, v3] r h 0 0 Q := e_goto am_h123 dX9_digit_69 rfl
theorem x123_72 : AW sv 123 72 [v0, v1, v2, v3] r h 0 0 Q = AW sv 123 73 [v0, v1, v2, v3] (.int (1) :: r) h 0 0 Q := e_iconstv am_h123 dX9_digit_72 c_iconst_1
theorem x123_73 : AW sv 123 73 [v0, v1, v2, v3] (.int y :: .int x :: r) h 0 0 Q = AW sv 123 74 [v0, v1, v2, v3] (.int (x + y) :: r) h 0 0 Q := e_iadd am_h123 dX9_digit_73
theorem x123_74 : AW sv 123 74 [v0, v1, v2, v3] (.int x :: .ref 71 :: r) (am_toH σ) 0 0 Q = AW sv 123 77 [v0, v1, v2, v3] r (am_toH (am_wr σ 71 (upd (σ.1 71) 11 x))) 0 0 Q := e_putI am_h123 dX9_digit_74 fl_9_122 is9 rfl rfl rfl
theorem x123_77 : AW sv 123 77 [v0, v1, v2, .int x] r h 0 0 Q = AW sv 123 78 [v0, v1, v2, .int x] (.int x :: r) h 0 0 Q := e_pv am_h123 dX9_digit_77 rfl rfl rfl rfl
theorem x123_78 : AW sv 123 78 [v0, v1, v2, v3] [.int x] h 0 0 Q = Q (some (.int x)) h := e_iret am_h123 dX9_digit_78 rfl ⟨rfl, rfl⟩
theorem n123 : AM sv 123 [.ref a, .int x0, .int x1] h Q = AW sv 123 0 [.ref a, .int x0, .int x1, .null] [] h 0 0 Q := rfl
theorem x124_0 : AW sv 124 0 [.ref a, v1] r h 0 0 Q = AW sv 124 1 [.ref a, v1] (.ref a :: r) h 0 0 Q := e_pv am_h124 dX9_both_0 rfl rfl rfl rfl
theorem x124_1 : AW sv 124 1 [v0, v1] r h 0 0 Q = AW sv 124 2 [v0, v1] (.int (0) :: r) h 0 0 Q := e_iconstv am_h124 dX9_both_1 c_iconst_0
theorem x124_2 : AW sv 124 2 [v0, v1] r h 0 0 Q = AW sv 124 3 [v0, v1] (.int (3) :: r) h 0 0 Q := e_iconstv am_h124 dX9_both_2 c_iconst_3
theorem x124_3 (h8 : am_cs r ≤ 8) : AW sv 124 3 [v0, v1] (.int x1 :: .int x0 :: .ref 71 :: r) (am_toH σ) 0 0 Q = AM sv 123 [.ref 71, .int x0, .int x1] (am_toH σ) (fun v h1 => AW sv 124 6 [v0, v1] (v.toList ++ r) h1 0 0 Q) := e_cV (as := [.int x0, .int x1]) am_h124 dX9_both_3 ml_9_137 (by decide) am_h123 rfl is9 rfl rfl ⟨by decide, Nat.le_of_ble_eq_true rfl, am_rc_of (by decide) h8⟩
theorem x124_6 (hc : v0.category = 1) : AW sv 124 6 [v0, v1] (.int x :: r) h 0 0 Q = AW sv 124 7 [v0, .int x] r h 0 0 Q := e_pv am_h124 dX9_both_6 rfl rfl rfl (am_sti_of (Nat.le_of_ble_eq_true rfl) (am_c1_of rfl hc))
theorem x124_7 : AW sv 124 7 [v0, v1] r h 0 0 Q = AW sv 124 9 [v0, v1] (.int (10) :: r) h 0 0 Q := e_bipushv am_h124 dX9_both_7 c_bipush_10
theorem x124_9 : AW sv 124 9 [v0, .int x] r h 0 0 Q = AW sv 124 10 [v0, .int x] (.int x :: r) h 0 0 Q := e_pv am_h124 dX9_both_9 rfl rfl rfl rfl
theorem x124_10 : AW sv 124 10 [v0, v1] (.int y :: .int x :: r) h 0 0 Q = AW sv 124 11 [v0, v1] (.int (x * y) :: r) h 0 0 Q := e_imul am_h124 dX9_both_10
theorem x124_11 : AW sv 124 11 [.ref a, v1] r h 0 0 Q = AW sv 124 12 [.ref a, v1] (.ref a :: r) h 0 0 Q := e_pv am_h124 dX9_both_11 rfl rfl rfl rfl
theorem x124_12 : AW sv 124 12 [v0, v1] r h 0 0 Q = AW sv 124 13 [v0, v1] (.int (1) :: r) h 0 0 Q := e_iconstv am_h124 dX9_both_12 c_iconst_1
theorem x124_13 : AW sv 124 13 [v0, v1] r h 0 0 Q = AW sv 124 15 [v0, v1] (.int (9) :: r) h 0 0 Q := e_bipushv am_h124 dX9_both_13 c_bipush_9
theorem x124_15 (h8 : am_cs r ≤ 8) : AW sv 124 15 [v0, v1] (.int x1 :: .int x0 :: .ref 71 :: r) (am_toH σ) 0 0 Q = AM sv 123 [.ref 71, .int x0, .int x1] (am_toH σ) (fun v h1 => AW sv 124 18 [v0, v1] (v.toList ++ r) h1 0 0 Q) := e_cV (as := [.int x0, .int x1]) am_h124 dX9_both_15 ml_9_137 (by decide) am_h123 rfl is9 rfl rfl ⟨by decide, Nat.le_of_ble_eq_true rfl, am_rc_of (by decide) h8⟩
theorem x124_18 : AW sv 124 18 [v0, v1] (.int y :: .int x :: r) h 0 0 Q = AW sv 124 19 [v0, v1] (.int (x + y) :: r) h 0 0 Q := e_iadd am_h124 dX9_both_18
theorem x124_19 : AW sv 124 19 [v0, v1] [.int x] h 0 0 Q = Q (some (.int x)) h := e_iret am_h124 dX9_both_19 rfl ⟨rfl, rfl⟩
theorem n124 : AM sv 124 [.ref a] h Q = AW sv 124 0 [.ref a, .null] [] h 0 0 Q := rfl
theorem x125_0 : AW sv 125 0 [.ref a, v1] r h 0 0 Q = AW sv 125 1 [.ref a, v1] (.ref a :: r) h 0 0 Q := e_pv am_h125 dX9_beatClause_0 rfl rfl rfl rfl
theorem x125_1 : AW sv 125 1 [v0, v1] (.ref 71 :: r) (am_toH σ) 0 0 Q = AW sv 125 4 [v0, v1] (.ref 80 :: r) (am_toH σ) 0 0 Q := e_getR am_h125 dX9_beatClause_1 fl_9_34 is9 rfl
theorem x125_4 : AW sv 125 4 [v0, .int x] r h 0 0 Q = AW sv 125 5 [v0, .int x] (.int x :: r) h 0 0 Q := e_pv am_h125 dX9_beatClause_4 rfl rfl rfl rfl
theorem x125_5 : AW sv 125 5 [.ref a, v1] r h 0 0 Q = AW sv 125 6 [.ref a, v1] (.ref a :: r) h 0 0 Q := e_pv am_h125 dX9_beatClause_5 rfl rfl rfl rfl
theorem x125_6 : AW sv 125 6 [v0, v1] r h 0 0 Q = AW sv 125 8 [v0, v1] (.int (15) :: r) h 0 0 Q := e_bipushv am_h125 dX9_beatClause_6 c_bipush_15
theorem x125_8 (h8 : am_cs r ≤ 8) : AW sv 125 8 [v0, v1] (.int x0 :: .ref 71 :: r) (am_toH σ) 0 0 Q = AM sv 122 [.ref 71, .int x0] (am_toH σ) (fun v h1 => AW sv 125 11 [v0, v1] (v.toList ++ r) h1 0 0 Q) := e_cV (as := [.int x0]) am_h125 dX9_beatClause_8 ml_9_140 (by decide) am_h122 rfl is9 rfl rfl ⟨by decide, Nat.le_of_ble_eq_true rfl, am_rc_of (by decide) h8⟩
theorem x125_11 (hi : am_in y (am_ln a) = true) : AW sv 125 11 [v0, v1] (.int x :: .int y :: .ref a :: r) (am_toH σ) 0 0 Q = AW sv 125 12 [v0, v1] r (am_toH (am_wr σ a (upd (σ.1 a) y.toNatClampNeg x))) 0 0 Q := e_iast am_h125 dX9_beatClause_11 hi
theorem x125_12 : AW sv 125 12 [.ref a, v1] r h 0 0 Q = AW sv 125 13 [.ref a, v1] (.ref a :: r) h 0 0 Q := e_pv am_h125 dX9_beatClause_12 rfl rfl rfl rfl
theorem x125_13 : AW sv 125 13 [.ref a, v1] r h 0 0 Q = AW sv 125 14 [.ref a, v1] (.ref a :: r) h 0 0 Q := e_pv am_h125 dX9_beatClause_13 rfl rfl rfl rfl
theorem x125_14 : AW sv 125 14 [v0, v1] r h 0 0 Q = AW sv 125 16 [v0, v1] (.int (58) :: r) h 0 0 Q := e_bipushv am_h125 dX9_beatClause_14 c_bipush_58
theorem x125_16 (h8 : am_cs r ≤ 8) : AW sv 125 16 [v0, v1] (.int x0 :: .ref 71 :: r) (am_toH σ) 0 0 Q = AM sv 121 [.ref 71, .int x0] (am_toH σ) (fun v h1 => AW sv 125 19 [v0, v1] (v.toList ++ r) h1 0 0 Q) := e_cV (as := [.int x0]) am_h125 dX9_beatClause_16 ml_9_144 (by decide) am_h121 rfl is9 rfl rfl ⟨by decide, Nat.le_of_ble_eq_true rfl, am_rc_of (by decide) h8⟩
theorem x125_19 : AW sv 125 19 [v0, v1] (.int x :: r) h 0 0 Q = if ¬ x = 0 then AW sv 125 26 [v0, v1] r h 0 0 Q else AW sv 125 22 [v0, v1] r h 0 0 Q := e_z_ne am_h125 dX9_beatClause_19 rfl
theorem x125_22 : AW sv 125 22 [v0, v1] r h 0 0 Q = AW sv 125 23 [v0, v1] (.int (1) :: r) h 0 0 Q := e_iconstv am_h125 dX9_beatClause_22 c_iconst_1
theorem x125_23 : AW sv 125 23 [v0, v1] r h 0 0 Q = AW sv 125 27 [v0, v1] r h 0 0 Q := e_goto am_h125 dX9_beatClause_23 rfl
theorem x125_26 : AW sv 125 26 [v0, v1] r h 0 0 Q = AW sv 125 27 [v0, v1] (.int (0) :: r) h 0 0 Q := e_iconstv am_h125 dX9_beatClause_26 c_iconst_0
theorem x125_27 (hz : x = 0 ∨ x = 1) : AW sv 125 27 [v0, v1] (.int x :: .ref 71 :: r) (am_toH σ) 0 0 Q = AW sv 125 30 [v0, v1] r (am_toH (am_wr σ 71 (upd (σ.1 71) 12 x))) 0 0 Q := e_putI am_h125 dX9_beatClause_27 fl_9_125 is9 rfl rfl (am_vz_bool hz)
theorem x125_30 : AW sv 125 30 [.ref a, v1] r h 0 0 Q = AW sv 125 31 [.ref a, v1] (.ref a :: r) h 0 0 Q := e_pv am_h125 dX9_beatClause_30 rfl rfl rfl rfl
theorem x125_31 : AW sv 125 31 [v0, v1] (.ref 71 :: r) (am_toH σ) 0 0 Q = AW sv 125 34 [v0, v1] (.ref 80 :: r) (am_toH σ) 0 0 Q := e_getR am_h125 dX9_beatClause_31 fl_9_34 is9 rfl
theorem x125_34 : AW sv 125 34 [v0, .int x] r h 0 0 Q = AW sv 125 35 [v0, .int x] (.int x :: r) h 0 0 Q := e_pv am_h125 dX9_beatClause_34 rfl rfl rfl rfl
theorem x125_35 : AW sv 125 35 [v0, v1] r h 0 0 Q = AW sv 125 36 [v0, v1] (.int (1) :: r) h 0 0 Q := e_iconstv am_h125 dX9_beatClause_35 c_iconst_1
theorem x125_36 : AW sv 125 36 [v0, v1] (.int y :: .int x :: r) h 0 0 Q = AW sv 125 37 [v0, v1] (.int (x + y) :: r) h 0 0 Q := e_iadd am_h125 dX9_beatClause_36
theorem x125_37 : AW sv 125 37 [.ref a, v1] r h 0 0 Q = AW sv 125 38 [.ref a, v1] (.ref a :: r) h 0 0 Q := e_pv am_h125 dX9_beatClause_37 rfl rfl rfl rfl
theorem x125_38 : AW sv 125 38 [v0, v1] r h 0 0 Q = AW sv 125 40 [v0, v1] (.int (109) :: r) h 0 0 Q := e_bipushv am_h125 dX9_beatClause_38 c_bipush_109
theorem x125_40 (h8 : am_cs r ≤ 8) : AW sv 125 40 [v0, v1] (.int x0 :: .ref 71 :: r) (am_toH σ) 0 0 Q = AM sv 121 [.ref 71, .int x0] (am_toH σ) (fun v h1 => AW sv 125 43 [v0, v1] (v.toList ++ r) h1 0 0 Q) := e_cV (as := [.int x0]) am_h125 dX9_beatClause_40 ml_9_144 (by decide) am_h121 rfl is9 rfl rfl ⟨by decide, Nat.le_of_ble_eq_true rfl, am_rc_of (by decide) h8⟩
theorem x125_43 : AW sv 125 43 [v0, v1] (.int x :: r) h 0 0 Q = if x = 0 then AW sv 125 53 [v0, v1] r h 0 0 Q else AW sv 125 46 [v0, v1] r h 0 0 Q := e_z_eq am_h125 dX9_beatClause_43 rfl
theorem x125_46 : AW sv 125 46 [.ref a, v1] r h 0 0 Q = AW sv 125 47 [.ref a, v1] (.ref a :: r) h 0 0 Q := e_pv am_h125 dX9_beatClause_46 rfl rfl rfl rfl
theorem x125_47 (h8 : am_cs r ≤ 8) : AW sv 125 47 [v0, v1] (.ref 71 :: r) (am_toH σ) 0 0 Q = AM sv 124 [.ref 71] (am_toH σ) (fun v h1 => AW sv 125 50 [v0, v1] (v.toList ++ r) h1 0 0 Q) := e_cV (as := []) am_h125 dX9_beatClause_47 ml_9_147 (by decide) am_h124 rfl is9 rfl rfl ⟨by decide, Nat.le_of_ble_eq_true rfl, am_rc_of (by decide) h8⟩
theorem x125_50 : AW sv 125 50 [v0, v1] r h 0 0 Q = AW sv 125 54 [v0, v1] r h 0 0 Q := e_goto am_h125 dX9_beatClause_50 rfl
theorem x125_53 : AW sv 125 53 [v0, v1] r h 0 0 Q = AW sv 125 54 [v0, v1] (.int (0) :: r) h 0 0 Q := e_iconstv am_h125 dX9_beatClause_53 c_iconst_0
theorem x125_54 (hi : am_in y (am_ln a) = true) : AW sv 125 54 [v0, v1] (.int x :: .int y :: .ref a :: r) (am_toH σ) 0 0 Q = AW sv 125 55 [v0, v1] r (am_toH (am_wr σ a (upd (σ.1 a) y.toNatClampNeg x))) 0 0 Q := e_iast am_h125 dX9_beatClause_54 hi
theorem x125_55 : AW sv 125 55 [.ref a, v1] r h 0 0 Q = AW sv 125 56 [.ref a, v1] (.ref a :: r) h 0 0 Q := e_pv am_h125 dX9_beatClause_55 rfl rfl rfl rfl
theorem x125_56 : AW sv 125 56 [v0, v1] (.ref 71 :: r) (am_toH σ) 0 0 Q = AW sv 125 59 [v0, v1] (.ref 80 :: r) (am_toH σ) 0 0 Q := e_getR am_h125 dX9_beatClause_56 fl_9_34 is9 rfl
theorem x125_59 : AW sv 125 59 [v0, .int x] r h 0 0 Q = AW sv 125 60 [v0, .int x] (.int x :: r) h 0 0 Q := e_pv am_h125 dX9_beatClause_59 rfl rfl rfl rfl
theorem x125_60 : AW sv 125 60 [v0, v1] r h 0 0 Q = AW sv 125 61 [v0, v1] (.int (2) :: r) h 0 0 Q := e_iconstv am_h125 dX9_beatClause_60 c_iconst_2
theorem x125_61 : AW sv 125 61 [v0, v1] (.int y :: .int x :: r) h 0 0 Q = AW sv 125 62 [v0, v1] (.int (x + y) :: r) h 0 0 Q := e_iadd am_h125 dX9_beatClause_61
theorem x125_62 : AW sv 125 62 [.ref a, v1] r h 0 0 Q = AW sv 125 63 [.ref a, v1] (.ref a :: r) h 0 0 Q := e_pv am_h125 dX9_beatClause_62 rfl rfl rfl rfl
theorem x125_63 : AW sv 125 63 [v0, v1] r h 0 0 Q = AW sv 125 65 [v0, v1] (.int (108) :: r) h 0 0 Q := e_bipushv am_h125 dX9_beatClause_63 c_bipush_108
theorem x125_65 (h8 : am_cs r ≤ 8) : AW sv 125 65 [v0, v1] (.int x0 :: .ref 71 :: r) (am_toH σ) 0 0 Q = AM sv 121 [.ref 71, .int x0] (am_toH σ) (fun v h1 => AW sv 125 68 [v0, v1] (v.toList ++ r) h1 0 0 Q) := e_cV (as := [.int x0]) am_h125 dX9_beatClause_65 ml_9_144 (by decide) am_h121 rfl is9 rfl rfl ⟨by decide, Nat.le_of_ble_eq_true rfl, am_rc_of (by decide) h8⟩
theorem x125_68 : AW sv 125 68 [v0, v1] (.int x :: r) h 0 0 Q = if x = 0 then AW sv 125 80 [v0, v1] r h 0 0 Q else AW sv 125 71 [v0, v1] r h 0 0 Q := e_z_eq am_h125 dX9_beatClause_68 rfl
theorem x125_71 : AW sv 125 71 [.ref a, v1] r h 0 0 Q = AW sv 125 72 [.ref a, v1] (.ref a :: r) h 0 0 Q := e_pv am_h125 dX9_beatClause_71 rfl rfl rfl rfl
theorem x125_72 : AW sv 125 72 [v0, v1] r h 0 0 Q = AW sv 125 73 [v0, v1] (.int (0) :: r) h 0 0 Q := e_iconstv am_h125 dX9_beatClause_72 c_iconst_0
theorem x125_73 : AW sv 125 73 [v0, v1] r h 0 0 Q = AW sv 125 74 [v0, v1] (.int (3) :: r) h 0 0 Q := e_iconstv am_h125 dX9_beatClause_73 c_iconst_3
theorem x125_74 (h8 : am_cs r ≤ 8) : AW sv 125 74 [v0, v1] (.int x1 :: .int x0 :: .ref 71 :: r) (am_toH σ) 0 0 Q = AM sv 123 [.ref 71, .int x0, .int x1] (am_toH σ) (fun v h1 => AW sv 125 77 [v0, v1] (v.toList ++ r) h1 0 0 Q) := e_cV (as := [.int x0, .int x1]) am_h125 dX9_beatClause_74 ml_9_137 (by decide) am_h123 rfl is9 rfl rfl ⟨by decide, Nat.le_of_ble_eq_true rfl, am_rc_of (by decide) h8⟩
theorem x125_77 : AW sv 125 77 [v0, v1] r h 0 0 Q = AW sv 125 81 [v0, v1] r h 0 0 Q := e_goto am_h125 dX9_beatClause_77 rfl
theorem x125_80 : AW sv 125 80 [v0, v1] r h 0 0 Q = AW sv 125 81 [v0, v1] (.int (-1) :: r) h 0 0 Q := e_iconstv am_h125 dX9_beatClause_80 c_iconst_m1
theorem x125_81 (hi : am_in y (am_ln a) = true) : AW sv 125 81 [v0, v1] (.int x :: .int y :: .ref a :: r) (am_toH σ) 0 0 Q = AW sv 125 82 [v0, v1] r (am_toH (am_wr σ a (upd (σ.1 a) y.toNatClampNeg x))) 0 0 Q := e_iast am_h125 dX9_beatClause_81 hi
theorem x125_82 : AW sv 125 82 [.ref a, v1] r h 0 0 Q = AW sv 125 83 [.ref a, v1] (.ref a :: r) h 0 0 Q := e_pv am_h125 dX9_beatClause_82 rfl rfl rfl rfl
theorem x125_83 : AW sv 125 83 [v0, v1] (.ref 71 :: r) (am_toH σ) 0 0 Q = AW sv 125 86 [v0, v1] (.ref 80 :: r) (am_toH σ) 0 0 Q := e_getR am_h125 dX9_beatClause_83 fl_9_34 is9 rfl
theorem x125_86 : AW sv 125 86 [v0, .int x] r h 0 0 Q = AW sv 125 87 [v0, .int x] (.int x :: r) h 0 0 Q := e_pv am_h125 dX9_beatClause_86 rfl rfl rfl rfl
theorem x125_87 : AW sv 125 87 [v0, v1] r h 0 0 Q = AW sv 125 88 [v0, v1] (.int (3) :: r) h 0 0 Q := e_iconstv am_h125 dX9_beatClause_87 c_iconst_3
theorem x125_88 : AW sv 125 88 [v0, v1] (.int y :: .int x :: r) h 0 0 Q = AW sv 125 89 [v0, v1] (.int (x + y) :: r) h 0 0 Q := e_iadd am_h125 dX9_beatClause_88
theorem x125_89 : AW sv 125 89 [.ref a, v1] r h 0 0 Q = AW sv 125 90 [.ref a, v1] (.ref a :: r) h 0 0 Q := e_pv am_h125 dX9_beatClause_89 rfl rfl rfl rfl
theorem x125_90 : AW sv 125 90 [v0, v1] r h 0 0 Q = AW sv 125 92 [v0, v1] (.int (110) :: r) h 0 0 Q := e_bipushv am_h125 dX9_beatClause_90 c_bipush_110
theorem x125_92 (h8 : am_cs r ≤ 8) : AW sv 125 92 [v0, v1] (.int x0 :: .ref 71 :: r) (am_toH σ) 0 0 Q = AM sv 121 [.ref 71, .int x0] (am_toH σ) (fun v h1 => AW sv 125 95 [v0, v1] (v.toList ++ r) h1 0 0 Q) := e_cV (as := [.int x0]) am_h125 dX9_beatClause_92 ml_9_144 (by decide) am_h121 rfl is9 rfl rfl ⟨by decide, Nat.le_of_ble_eq_true rfl, am_rc_of (by decide) h8⟩
theorem x125_95 : AW sv 125 95 [v0, v1] (.int x :: r) h 0 0 Q = if x = 0 then AW sv 125 107 [v0, v1] r h 0 0 Q else AW sv 125 98 [v0, v1] r h 0 0 Q := e_z_eq am_h125 dX9_beatClause_95 rfl
theorem x125_98 : AW sv 125 98 [.ref a, v1] r h 0 0 Q = AW sv 125 99 [.ref a, v1] (.ref a :: r) h 0 0 Q := e_pv am_h125 dX9_beatClause_98 rfl rfl rfl rfl
theorem x125_99 : AW sv 125 99 [v0, v1] r h 0 0 Q = AW sv 125 100 [v0, v1] (.int (0) :: r) h 0 0 Q := e_iconstv am_h125 dX9_beatClause_99 c_iconst_0
theorem x125_100 : AW sv 125 100 [v0, v1] r h 0 0 Q = AW sv 125 101 [v0, v1] (.int (3) :: r) h 0 0 Q := e_iconstv am_h125 dX9_beatClause_100 c_iconst_3
theorem x125_101 (h8 : am_cs r ≤ 8) : AW sv 125 101 [v0, v1] (.int x1 :: .int x0 :: .ref 71 :: r) (am_toH σ) 0 0 Q = AM sv 123 [.ref 71, .int x0, .int x1] (am_toH σ) (fun v h1 => AW sv 125 104 [v0, v1] (v.toList ++ r) h1 0 0 Q) := e_cV (as := [.int x0, .int x1]) am_h125 dX9_beatClause_101 ml_9_137 (by decide) am_h123 rfl is9 rfl rfl ⟨by decide, Nat.le_of_ble_eq_true rfl, am_rc_of (by decide) h8⟩
theorem x125_104 : AW sv 125 104 [v0, v1] r h 0 0 Q = AW sv 125 108 [v0, v1] r h 0 0 Q := e_goto am_h125 dX9_beatClause_104 rfl
theorem x125_107 : AW sv 125 107 [v0, v1] r h 0 0 Q = AW sv 125 108 [v0, v1] (.int (-1) :: r) h 0 0 Q := e_iconstv am_h125 dX9_beatClause_107 c_iconst_m1
theorem x125_108 (hi : am_in y (am_ln a) = true) : AW sv 125 108 [v0, v1] (.int x :: .int y :: .ref a :: r) (am_toH σ) 0 0 Q = AW sv 125 109 [v0, v1] r (am_toH (am_wr σ a (upd (σ.1 a) y.toNatClampNeg x))) 0 0 Q := e_iast am_h125 dX9_beatClause_108 hi
theorem x125_109 : AW sv 125 109 [.ref a, v1] r h 0 0 Q = AW sv 125 110 [.ref a, v1] (.ref a :: r) h 0 0 Q := e_pv am_h125 dX9_beatClause_109 rfl rfl rfl rfl
theorem x125_110 : AW sv 125 110 [v0, v1] (.ref 71 :: r) (am_toH σ) 0 0 Q = AW sv 125 113 [v0, v1] (.ref 80 :: r) (am_toH σ) 0 0 Q := e_getR am_h125 dX9_beatClause_110 fl_9_34 is9 rfl
theorem x125_113 : AW sv 125 113 [v0, .int x] r h 0 0 Q = AW sv 125 114 [v0, .int x] (.int x :: r) h 0 0 Q := e_pv am_h125 dX9_beatClause_113 rfl rfl rfl rfl
theorem x125_114 : AW sv 125 114 [v0, v1] r h 0 0 Q = AW sv 125 115 [v0, v1] (.int (4) :: r) h 0 0 Q := e_iconstv am_h125 dX9_beatClause_114 c_iconst_4
theorem x125_115 : AW sv 125 115 [v0, v1] (.int y :: .int x :: r) h 0 0 Q = AW sv 125 116 [v0, v1] (.int (x + y) :: r) h 0 0 Q := e_iadd am_h125 dX9_beatClause_115
theorem x125_116 : AW sv 125 116 [.ref a, v1] r h 0 0 Q = AW sv 125 117 [.ref a, v1] (.ref a :: r) h 0 0 Q := e_pv am_h125 dX9_beatClause_116 rfl rfl rfl rfl
theorem x125_117 : AW sv 125 117 [v0, v1] r h 0 0 Q = AW sv 125 119 [v0, v1] (.int (106) :: r) h 0 0 Q := e_bipushv am_h125 dX9_beatClause_117 c_bipush_106
theorem x125_119 (h8 : am_cs r ≤ 8) : AW sv 125 119 [v0, v1] (.int x0 :: .ref 71 :: r) (am_toH σ) 0 0 Q = AM sv 121 [.ref 71, .int x0] (am_toH σ) (fun v h1 => AW sv 125 122 [v0, v1] (v.toList ++ r) h1 0 0 Q) := e_cV (as := [.int x0]) am_h125 dX9_beatClause_119 ml_9_144 (by decide) am_h121 rfl is9 rfl rfl ⟨by decide, Nat.le_of_ble_eq_true rfl, am_rc_of (by decide) h8⟩
theorem x125_122 : AW sv 125 122 [v0, v1] (.int x :: r) h 0 0 Q = if x = 0 then AW sv 125 129 [v0, v1] r h 0 0 Q else AW sv 125 125 [v0, v1] r h 0 0 Q := e_z_eq am_h125 dX9_beatClause_122 rfl
theorem x125_125 : AW sv 125 125 [v0, v1] r h 0 0 Q = AW sv 125 126 [v0, v1] (.int (1) :: r) h 0 0 Q := e_iconstv am_h125 dX9_beatClause_125 c_iconst_1
theorem x125_126 : AW sv 125 126 [v0, v1] r h 0 0 Q = AW sv 125 130 [v0, v1] r h 0 0 Q := e_goto am_h125 dX9_beatClause_126 rfl
theorem x125_129 : AW sv 125 129 [v0, v1] r h 0 0 Q = AW sv 125 130 [v0, v1] (.int (0) :: r) h 0 0 Q := e_iconstv am_h125 dX9_beatClause_129 c_iconst_0
theorem x125_130 (hi : am_in y (am_ln a) = true) : AW sv 125 130 [v0, v1] (.int x :: .int y :: .ref a :: r) (am_toH σ) 0 0 Q = AW sv 125 131 [v0, v1] r (am_toH (am_wr σ a (upd (σ.1 a) y.toNatClampNeg x))) 0 0 Q := e_iast am_h125 dX9_beatClause_130 hi
theorem x125_131 : AW sv 125 131 [.ref a, v1] r h 0 0 Q = AW sv 125 132 [.ref a, v1] (.ref a :: r) h 0 0 Q := e_pv am_h125 dX9_beatClause_131 rfl rfl rfl rfl
theorem x125_132 : AW sv 125 132 [v0, v1] (.ref 71 :: r) (am_toH σ) 0 0 Q = AW sv 125 135 [v0, v1] (.ref 80 :: r) (am_toH σ) 0 0 Q := e_getR am_h125 dX9_beatClause_132 fl_9_34 is9 rfl
theorem x125_135 : AW sv 125 135 [v0, .int x] r h 0 0 Q = AW sv 125 136 [v0, .int x] (.int x :: r) h 0 0 Q := e_pv am_h125 dX9_beatClause_135 rfl rfl rfl rfl
theorem x125_136 : AW sv 125 136 [v0, v1] r h 0 0 Q = AW sv 125 137 [v0, v1] (.int (5) :: r) h 0 0 Q := e_iconstv am_h125 dX9_beatClause_136 c_iconst_5
theorem x125_137 : AW sv 125 137 [v0, v1] (.int y :: .int x :: r) h 0 0 Q = AW sv 125 138 [v0, v1] (.int (x + y) :: r) h 0 0 Q := e_iadd am_h125 dX9_beatClause_137
theorem x125_138 : AW sv 125 138 [.ref a, v1] r h 0 0 Q = AW sv 125 139 [.ref a, v1] (.ref a :: r) h 0 0 Q := e_pv am_h125 dX9_beatClause_138 rfl rfl rfl rfl
theorem x125_139 : AW sv 125 139 [v0, v1] r h 0 0 Q = AW sv 125 141 [v0, v1] (.int (120) :: r) h 0 0 Q := e_bipushv am_h125 dX9_beatClause_139 c_bipush_120
theorem x125_141 (h8 : am_cs r ≤ 8) : AW sv 125 141 [v0, v1] (.int x0 :: .ref 71 :: r) (am_toH σ) 0 0 Q = AM sv 121 [.ref 71, .int x0] (am_toH σ) (fun v h1 => AW sv 125 144 [v0, v1] (v.toList ++ r) h1 0 0 Q) := e_cV (as := [.int x0]) am_h125 dX9_beatClause_141 ml_9_144 (by decide) am_h121 rfl is9 rfl rfl ⟨by decide, Nat.le_of_ble_eq_true rfl, am_rc_of (by decide) h8⟩
theorem x125_144 : AW sv 125 144 [v0, v1] (.int x :: r) h 0 0 Q = if x = 0 then AW sv 125 154 [v0, v1] r h 0 0 Q else AW sv 125 147 [v0, v1] r h 0 0 Q := e_z_eq am_h125 dX9_beatClause_144 rfl
theorem x125_147 : AW sv 125 147 [.ref a, v1] r h 0 0 Q = AW sv 125 148 [.ref a, v1] (.ref a :: r) h 0 0 Q := e_pv am_h125 dX9_beatClause_147 rfl rfl rfl rfl
theorem x125_148 (h8 : am_cs r ≤ 8) : AW sv 125 148 [v0, v1] (.ref 71 :: r) (am_toH σ) 0 0 Q = AM sv 124 [.ref 71] (am_toH σ) (fun v h1 => AW sv 125 151 [v0, v1] (v.toList ++ r) h1 0 0 Q) := e_cV (as := []) am_h125 dX9_beatClause_148 ml_9_147 (by decide) am_h124 rfl is9 rfl rfl ⟨by decide, Nat.le_of_ble_eq_true rfl, am_rc_of (by decide) h8⟩
theorem x125_151 : AW sv 125 151 [v0, v1] r h 0 0 Q = AW sv 125 155 [v0, v1] r h 0 0 Q := e_goto am_h125 dX9_beatClause_151 rfl
theorem x125_154 : AW sv 125 154 [v0, v1] r h 0 0 Q = AW sv 125 155 [v0, v1] (.int (0) :: r) h 0 0 Q := e_iconstv am_h125 dX9_beatClause_154 c_iconst_0
theorem x125_155 (hi : am_in y (am_ln a) = true) : AW sv 125 155 [v0, v1] (.int x :: .int y :: .ref a :: r) (am_toH σ) 0 0 Q = AW sv 125 156 [v0, v1] r (am_toH (am_wr σ a (upd (σ.1 a) y.toNatClampNeg x))) 0 0 Q := e_iast am_h125 dX9_beatClause_155 hi
theorem x125_156 : AW sv 125 156 [v0, v1] [] h 0 0 Q = Q none h := e_vret am_h125 dX9_beatClause_156 rfl ⟨rfl, rfl⟩
theorem n125 : AM sv 125 [.ref a, .int x0] h Q = AW sv 125 0 [.ref a, .int x0] [] h 0 0 Q := rfl
theorem x126_0 : AW sv 126 0 [.ref a, v1, v2, v3, v4] r h 0 0 Q = AW sv 126 1 [.ref a, v1, v2, v3, v4] (.ref a :: r) h 0 0 Q := e_pv am_h126 dX9_seatClause_0 rfl rfl rfl rfl
theorem x126_1 (h8 : am_cs r ≤ 8) : AW sv 126 1 [v0, v1, v2, v3, v4] (.ref 71 :: r) (am_toH σ) 0 0 Q = AM sv 120 [.ref 71] (am_toH σ) (fun v h1 => AW sv 126 4 [v0, v1, v2, v3, v4] (v.toList ++ r) h1 0 0 Q) := e_cV (as := []) am_h126 dX9_seatClause_1 ml_9_129 (by decide) am_h120 rfl is9 rfl rfl ⟨by decide, Nat.le_of_ble_eq_true rfl, am_rc_of (by decide) h8⟩
theorem x126_4 (hc : v.category = 1) : AW sv 126 4 [v0, v1, v2, v3, v4] (v :: r) h 0 0 Q = AW sv 126 5 [v0, v1, v2, v3, v4] r h 0 0 Q := e_pop am_h126 dX9_seatClause_4 hc
theorem x126_5 : AW sv 126 5 [.ref a, v1, v2, v3, v4] r h 0 0 Q = AW sv 126 6 [.ref a, v1, v2, v3, v4] (.ref a :: r) h 0 0 Q := e_pv am_h126 dX9_seatClause_5 rfl rfl rfl rfl
theorem x126_6 : AW sv 126 6 [v0, v1, v2, v3, v4] (.ref 71 :: r) (am_toH σ) 0 0 Q = AW sv 126 9 [v0, v1, v2, v3, v4] (.int (σ.1 71 11) :: r) (am_toH σ) 0 0 Q := e_getI am_h126 dX9_seatClause_6 fl_9_122 is9 rfl
theorem x126_9 (hc : v1.category = 1) : AW sv 126 9 [v0, v1, v2, v3, v4] (.int x :: r) h 0 0 Q = AW sv 126 10 [v0, v1, .int x, v3, v4] r h 0 0 Q := e_pv am_h126 dX9_seatClause_9 rfl rfl rfl (am_sti_of (Nat.le_of_ble_eq_true rfl) (am_c1_of rfl hc))
theorem x126_10 : AW sv 126 10 [.ref a, v1, v2, v3, v4] r h 0 0 Q = AW sv 126 11 [.ref a, v1, v2, v3, v4] (.ref a :: r) h 0 0 Q := e_pv am_h126 dX9_seatClause_10 rfl rfl rfl rfl
theorem x126_11 : AW sv 126 11 [v0, v1, v2, v3, v4] (.ref 71 :: r) (am_toH σ) 0 0 Q = AW sv 126 14 [v0, v1, v2, v3, v4] (.ref 80 :: r) (am_toH σ) 0 0 Q := e_getR am_h126 dX9_seatClause_11 fl_9_34 is9 rfl
theorem x126_14 : AW sv 126 14 [v0, .int x, v2, v3, v4] r h 0 0 Q = AW sv 126 15 [v0, .int x, v2, v3, v4] (.int x :: r) h 0 0 Q := e_pv am_h126 dX9_seatClause_14 rfl rfl rfl rfl
theorem x126_15 : AW sv 126 15 [.ref a, v1, v2, v3, v4] r h 0 0 Q = AW sv 126 16 [.ref a, v1, v2, v3, v4] (.ref a :: r) h 0 0 Q := e_pv am_h126 dX9_seatClause_15 rfl rfl rfl rfl
theorem x126_16 : AW sv 126 16 [v0, v1, v2, v3, v4] r h 0 0 Q = AW sv 126 18 [v0, v1, v2, v3, v4] (.int (11) :: r) h 0 0 Q := e_bipushv am_h126 dX9_seatClause_16 c_bipush_11
theorem x126_18 (h8 : am_cs r ≤ 8) : AW sv 126 18 [v0, v1, v2, v3, v4] (.int x0 :: .ref 71 :: r) (am_toH σ) 0 0 Q = AM sv 122 [.ref 71, .int x0] (am_toH σ) (fun v h1 => AW sv 126 21 [v0, v1, v2, v3, v4] (v.toList ++ r) h1 0 0 Q) := e_cV (as := [.int x0]) am_h126 dX9_seatClause_18 ml_9_140 (by decide) am_h122 rfl is9 rfl rfl ⟨by decide, Nat.le_of_ble_eq_true rfl, am_rc_of (by decide) h8⟩
theorem x126_21 (hi : am_in y (am_ln a) = true) : AW sv 126 21 [v0, v1, v2, v3, v4] (.int x :: .int y :: .ref a :: r) (am_toH σ) 0 0 Q = AW sv 126 22 [v0, v1, v2, v3, v4] r (am_toH (am_wr σ a (upd (σ.1 a) y.toNatClampNeg x))) 0 0 Q := e_iast am_h126 dX9_seatClause_21 hi
theorem x126_22 : AW sv 126 22 [.ref a, v1, v2, v3, v4] r h 0 0 Q = AW sv 126 23 [.ref a, v1, v2, v3, v4] (.ref a :: r) h 0 0 Q := e_pv am_h126 dX9_seatClause_22 rfl rfl rfl rfl
theorem x126_23 : AW sv 126 23 [.ref a, v1, v2, v3, v4] r h 0 0 Q = AW sv 126 24 [.ref a, v1, v2, v3, v4] (.ref a :: r) h 0 0 Q := e_pv am_h126 dX9_seatClause_23 rfl rfl rfl rfl
theorem x126_24 : AW sv 126 24 [v0, v1, v2, v3, v4] (.ref 71 :: r) (am_toH σ) 0 0 Q = AW sv 126 27 [v0, v1, v2, v3, v4] (.ref 80 :: r) (am_toH σ) 0 0 Q := e_getR am_h126 dX9_seatClause_24 fl_9_34 is9 rfl
theorem x126_27 : AW sv 126 27 [v0, .int x, v2, v3, v4] r h 0 0 Q = AW sv 126 28 [v0, .int x, v2, v3, v4] (.int x :: r) h 0 0 Q := e_pv am_h126 dX9_seatClause_27 rfl rfl rfl rfl
theorem x126_28 (hi : am_in x (am_ln a) = true) : AW sv 126 28 [v0, v1, v2, v3, v4] (.int x :: .ref a :: r) (am_toH σ) 0 0 Q = AW sv 126 29 [v0, v1, v2, v3, v4] (.int (σ.1 a x.toNatClampNeg) :: r) (am_toH σ) 0 0 Q := e_iald am_h126 dX9_seatClause_28 hi
theorem x126_29 (h8 : am_cs r ≤ 8) : AW sv 126 29 [v0, v1, v2, v3, v4] (.int x0 :: .ref 71 :: r) (am_toH σ) 0 0 Q = AM sv 113 [.ref 71, .int x0] (am_toH σ) (fun v h1 => AW sv 126 32 [v0, v1, v2, v3, v4] (v.toList ++ r) h1 0 0 Q) := e_cV (as := [.int x0]) am_h126 dX9_seatClause_29 ml_9_98 (by decide) am_h113 rfl is9 rfl rfl ⟨by decide, Nat.le_of_ble_eq_true rfl, am_rc_of (by decide) h8⟩
theorem x126_32 (hc : v2.category = 1) : AW sv 126 32 [v0, v1, v2, v3, v4] (.int x :: r) h 0 0 Q = AW sv 126 33 [v0, v1, v2, .int x, v4] r h 0 0 Q := e_pv am_h126 dX9_seatClause_32 rfl rfl rfl (am_sti_of (Nat.le_of_ble_eq_true rfl) (am_c1_of rfl hc))
theorem x126_33 : AW sv 126 33 [v0, v1, v2, v3, v4] r h 0 0 Q = AW sv 126 34 [v0, v1, v2, v3, v4] (.int (0) :: r) h 0 0 Q := e_iconstv am_h126 dX9_seatClause_33 c_iconst_0
theorem x126_34 (hc : v3.category = 1) : AW sv 126 34 [v0, v1, v2, v3, v4] (.int x :: r) h 0 0 Q = AW sv 126 36 [v0, v1, v2, v3, .int x] r h 0 0 Q := e_pv am_h126 dX9_seatClause_34 rfl rfl rfl (am_sti_of (Nat.le_of_ble_eq_true rfl) (am_c1_of rfl hc))
theorem x126_36 : AW sv 126 36 [v0, v1, v2, v3, .int x] r h 0 0 Q = AW sv 126 38 [v0, v1, v2, v3, .int x] (.int x :: r) h 0 0 Q := e_pv am_h126 dX9_seatClause_36 rfl rfl rfl rfl
theorem x126_38 : AW sv 126 38 [v0, .int x, v2, v3, v4] r h 0 0 Q = AW sv 126 39 [v0, .int x, v2, v3, v4] (.int x :: r) h 0 0 Q := e_pv am_h126 dX9_seatClause_38 rfl rfl rfl rfl
theorem x126_39 : AW sv 126 39 [v0, v1, v2, v3, v4] (.int y :: .int x :: r) h 0 0 Q = if y ≤ x then AW sv 126 74 [v0, v1, v2, v3, v4] r h 0 0 Q else AW sv 126 42 [v0, v1, v2, v3, v4] r h 0 0 Q := e_c_ge am_h126 dX9_seatClause_39 rfl
theorem x126_42 : AW sv 126 42 [v0, v1, v2, .int x, v4] r h 0 0 Q = AW sv 126 43 [v0, v1, v2, .int x, v4] (.int x :: r) h 0 0 Q := e_pv am_h126 dX9_seatClause_42 rfl rfl rfl rfl
theorem x126_43 : AW sv 126 43 [v0, v1, v2, v3, v4] (.int x :: r) h 0 0 Q = if ¬ x = 0 then AW sv 126 62 [v0, v1, v2, v3, v4] r h 0 0 Q else AW sv 126 46 [v0, v1, v2, v3, v4] r h 0 0 Q := e_z_ne am_h126 dX9_seatClause_43 rfl
theorem x126_46 : AW sv 126 46 [.ref a, v1, v2, v3, v4] r h 0 0 Q = AW sv 126 47 [.ref a, v1, v2, v3, v4] (.ref a :: r) h 0 0 Q := e_pv am_h126 dX9_seatClause_46 rfl rfl rfl rfl
theorem x126_47 : AW sv 126 47 [v0, v1, v2, v3, v4] (.ref 71 :: r) (am_toH σ) 0 0 Q = AW sv 126 50 [v0, v1, v2, v3, v4] (.ref 80 :: r) (am_toH σ) 0 0 Q := e_getR am_h126 dX9_seatClause_47 fl_9_34 is9 rfl
theorem x126_50 : AW sv 126 50 [v0, v1, v2, v3, .int x] r h 0 0 Q = AW sv 126 52 [v0, v1, v2, v3, .int x] (.int x :: r) h 0 0 Q := e_pv am_h126 dX9_seatClause_50 rfl rfl rfl rfl
theorem x126_52 (hi : am_in x (am_ln a) = true) : AW sv 126 52 [v0, v1, v2, v3, v4] (.int x :: .ref a :: r) (am_toH σ) 0 0 Q = AW sv 126 53 [v0, v1, v2, v3, v4] (.int (σ.1 a x.toNatClampNeg) :: r) (am_toH σ) 0 0 Q := e_iald am_h126 dX9_seatClause_52 hi
theorem x126_53 : AW sv 126 53 [.ref a, v1, v2, v3, v4] r h 0 0 Q = AW sv 126 54 [.ref a, v1, v2, v3, v4] (.ref a :: r) h 0 0 Q := e_pv am_h126 dX9_seatClause_53 rfl rfl rfl rfl
theorem x126_54 : AW sv 126 54 [v0, v1, v2, v3, v4] (.ref 71 :: r) (am_toH σ) 0 0 Q = AW sv 126 57 [v0, v1, v2, v3, v4] (.ref 80 :: r) (am_toH σ) 0 0 Q := e_getR am_h126 dX9_seatClause_54 fl_9_34 is9 rfl
theorem x126_57 : AW sv 126 57 [v0, .int x, v2, v3, v4] r h 0 0 Q = AW sv 126 58 [v0, .int x, v2, v3, v4] (.int x :: r) h 0 0 Q := e_pv am_h126 dX9_seatClause_57 rfl rfl rfl rfl
theorem x126_58 (hi : am_in x (am_ln a) = true) : AW sv 126 58 [v0, v1, v2, v3, v4] (.int x :: .ref a :: r) (am_toH σ) 0 0 Q = AW sv 126 59 [v0, v1, v2, v3, v4] (.int (σ.1 a x.toNatClampNeg) :: r) (am_toH σ) 0 0 Q := e_iald am_h126 dX9_seatClause_58 hi
theorem x126_59 : AW sv 126 59 [v0, v1, v2, v3, v4] (.int y :: .int x :: r) h 0 0 Q = if ¬ x = y then AW sv 126 66 [v0, v1, v2, v3, v4] r h 0 0 Q else AW sv 126 62 [v0, v1, v2, v3, v4] r h 0 0 Q := e_c_ne am_h126 dX9_seatClause_59 rfl
theorem x126_62 : AW sv 126 62 [v0, v1, v2, v3, v4] r h 0 0 Q = AW sv 126 63 [v0, v1, v2, v3, v4] (.int (1) :: r) h 0 0 Q := e_iconstv am_h126 dX9_seatClause_62 c_iconst_1
theorem x126_63 : AW sv 126 63 [v0, v1, v2, v3, v4] r h 0 0 Q = AW sv 126 67 [v0, v1, v2, v3, v4] r h 0 0 Q := e_goto am_h126 dX9_seatClause_63 rfl
theorem x126_66 : AW sv 126 66 [v0, v1, v2, v3, v4] r h 0 0 Q = AW sv 126 67 [v0, v1, v2, v3, v4] (.int (0) :: r) h 0 0 Q := e_iconstv am_h126 dX9_seatClause_66 c_iconst_0
theorem x126_67 (hc : v2.category = 1) : AW sv 126 67 [v0, v1, v2, v3, v4] (.int x :: r) h 0 0 Q = AW sv 126 68 [v0, v1, v2, .int x, v4] r h 0 0 Q := e_pv am_h126 dX9_seatClause_67 rfl rfl rfl (am_sti_of (Nat.le_of_ble_eq_true rfl) (am_c1_of rfl hc))
theorem x126_68 (hc : v3.category = 1) : AW sv 126 68 [v0, v1, v2, v3, .int x] r h 0 0 Q = AW sv 126 71 [v0, v1, v2, v3, .int (x + (6))] r h 0 0 Q := e_pv am_h126 dX9_seatClause_68 rfl rfl rfl (am_inc_of (ls := [v0, v1, v2, v3, .int x]) (k := 4) rfl c_iconst_6 (am_c1_of (ls := [v0, v1, v2, v3, .int x]) (k := 3) (v := v3) rfl hc))
theorem x126_71 : AW sv 126 71 [v0, v1, v2, v3, v4] r h 0 0 Q = AW sv 126 36 [v0, v1, v2, v3, v4] r h 0 0 Q := e_goto am_h126 dX9_seatClause_71 rfl
theorem x126_74 : AW sv 126 74 [.ref a, v1, v2, v3, v4] r h 0 0 Q = AW sv 126 75 [.ref a, v1, v2, v3, v4] (.ref a :: r) h 0 0 Q := e_pv am_h126 dX9_seatClause_74 rfl rfl rfl rfl
theorem x126_75 : AW sv 126 75 [v0, v1, v2, v3, v4] (.ref 71 :: r) (am_toH σ) 0 0 Q = AW sv 126 78 [v0, v1, v2, v3, v4] (.int (σ.1 71 12) :: r) (am_toH σ) 0 0 Q := e_getI am_h126 dX9_seatClause_75 fl_9_125 is9 rfl
theorem x126_78 : AW sv 126 78 [v0, v1, v2, v3, v4] (.int x :: r) h 0 0 Q = if ¬ x = 0 then AW sv 126 95 [v0, v1, v2, v3, v4] r h 0 0 Q else AW sv 126 81 [v0, v1, v2, v3, v4] r h 0 0 Q := e_z_ne am_h126 dX9_seatClause_78 rfl
theorem x126_81 : AW sv 126 81 [v0, v1, v2, .int x, v4] r h 0 0 Q = AW sv 126 82 [v0, v1, v2, .int x, v4] (.int x :: r) h 0 0 Q := e_pv am_h126 dX9_seatClause_81 rfl rfl rfl rfl
theorem x126_82 : AW sv 126 82 [v0, v1, v2, v3, v4] (.int x :: r) h 0 0 Q = if x = 0 then AW sv 126 95 [v0, v1, v2, v3, v4] r h 0 0 Q else AW sv 126 85 [v0, v1, v2, v3, v4] r h 0 0 Q := e_z_eq am_h126 dX9_seatClause_82 rfl
theorem x126_85 : AW sv 126 85 [.ref a, v1, v2, v3, v4] r h 0 0 Q = AW sv 126 86 [.ref a, v1, v2, v3, v4] (.ref a :: r) h 0 0 Q := e_pv am_h126 dX9_seatClause_85 rfl rfl rfl rfl
theorem x126_86 : AW sv 126 86 [v0, v1, v2, v3, v4] r h 0 0 Q = AW sv 126 87 [v0, v1, v2, v3, v4] (.int (1) :: r) h 0 0 Q := e_iconstv am_h126 dX9_seatClause_86 c_iconst_1
theorem x126_87 (hz : x = 0 ∨ x = 1) : AW sv 126 87 [v0, v1, v2, v3, v4] (.int x :: .ref 71 :: r) (am_toH σ) 0 0 Q = AW sv 126 90 [v0, v1, v2, v3, v4] r (am_toH (am_wr σ 71 (upd (σ.1 71) 12 x))) 0 0 Q := e_putI am_h126 dX9_seatClause_87 fl_9_125 is9 rfl rfl (am_vz_bool hz)
theorem x126_90 : AW sv 126 90 [.ref a, v1, v2, v3, v4] r h 0 0 Q = AW sv 126 91 [.ref a, v1, v2, v3, v4] (.ref a :: r) h 0 0 Q := e_pv am_h126 dX9_seatClause_90 rfl rfl rfl rfl
theorem x126_91 : AW sv 126 91 [v0, v1, .int x, v3, v4] r h 0 0 Q = AW sv 126 92 [v0, v1, .int x, v3, v4] (.int x :: r) h 0 0 Q := e_pv am_h126 dX9_seatClause_91 rfl rfl rfl rfl
theorem x126_92 : AW sv 126 92 [v0, v1, v2, v3, v4] (.int x :: .ref 71 :: r) (am_toH σ) 0 0 Q = AW sv 126 95 [v0, v1, v2, v3, v4] r (am_toH (am_wr σ 71 (upd (σ.1 71) 11 x))) 0 0 Q := e_putI am_h126 dX9_seatClause_92 fl_9_122 is9 rfl rfl rfl
theorem x126_95 : AW sv 126 95 [.ref a, v1, v2, v3, v4] r h 0 0 Q = AW sv 126 96 [.ref a, v1, v2, v3, v4] (.ref a :: r) h 0 0 Q := e_pv am_h126 dX9_seatClause_95 rfl rfl rfl rfl
theorem x126_96 : AW sv 126 96 [v0, v1, v2, v3, v4] (.ref 71 :: r) (am_toH σ) 0 0 Q = AW sv 126 99 [v0, v1, v2, v3, v4] (.int (σ.1 71 12) :: r) (am_toH σ) 0 0 Q := e_getI am_h126 dX9_seatClause_96 fl_9_125 is9 rfl
theorem x126_99 : AW sv 126 99 [v0, v1, v2, v3, v4] (.int x :: r) h 0 0 Q = if x = 0 then AW sv 126 106 [v0, v1, v2, v3, v4] r h 0 0 Q else AW sv 126 102 [v0, v1, v2, v3, v4] r h 0 0 Q := e_z_eq am_h126 dX9_seatClause_99 rfl
theorem x126_102 : AW sv 126 102 [v0, v1, v2, v3, v4] r h 0 0 Q = AW sv 126 103 [v0, v1, v2, v3, v4] (.int (0) :: r) h 0 0 Q := e_iconstv am_h126 dX9_seatClause_102 c_iconst_0
theorem x126_103 : AW sv 126 103 [v0, v1, v2, v3, v4] r h 0 0 Q = AW sv 126 110 [v0, v1, v2, v3, v4] r h 0 0 Q := e_goto am_h126 dX9_seatClause_103 rfl
theorem x126_106 : AW sv 126 106 [.ref a, v1, v2, v3, v4] r h 0 0 Q = AW sv 126 107 [.ref a, v1, v2, v3, v4] (.ref a :: r) h 0 0 Q := e_pv am_h126 dX9_seatClause_106 rfl rfl rfl rfl
theorem x126_107 (h8 : am_cs r ≤ 8) : AW sv 126 107 [v0, v1, v2, v3, v4] (.ref 71 :: r) (am_toH σ) 0 0 Q = AM sv 120 [.ref 71] (am_toH σ) (fun v h1 => AW sv 126 110 [v0, v1, v2, v3, v4] (v.toList ++ r) h1 0 0 Q) := e_cV (as := []) am_h126 dX9_seatClause_107 ml_9_129 (by decide) am_h120 rfl is9 rfl rfl ⟨by decide, Nat.le_of_ble_eq_true rfl, am_rc_of (by decide) h8⟩
theorem x126_110 (hc : v3.category = 1) : AW sv 126 110 [v0, v1, v2, v3, v4] (.int x :: r) h 0 0 Q = AW sv 126 112 [v0, v1, v2, v3, .int x] r h 0 0 Q := e_pv am_h126 dX9_seatClause_110 rfl rfl rfl (am_sti_of (Nat.le_of_ble_eq_true rfl) (am_c1_of rfl hc))
theorem x126_112 : AW sv 126 112 [.ref a, v1, v2, v3, v4] r h 0 0 Q = AW sv 126 113 [.ref a, v1, v2, v3, v4] (.ref a :: r) h 0 0 Q := e_pv am_h126 dX9_seatClause_112 rfl rfl rfl rfl
theorem x126_113 : AW sv 126 113 [v0, v1, v2, v3, v4] (.ref 71 :: r) (am_toH σ) 0 0 Q = AW sv 126 116 [v0, v1, v2, v3, v4] (.ref 80 :: r) (am_toH σ) 0 0 Q := e_getR am_h126 dX9_seatClause_113 fl_9_34 is9 rfl
theorem x126_116 : AW sv 126 116 [v0, .int x, v2, v3, v4] r h 0 0 Q = AW sv 126 117 [v0, .int x, v2, v3, v4] (.int x :: r) h 0 0 Q := e_pv am_h126 dX9_seatClause_116 rfl rfl rfl rfl
theorem x126_117 : AW sv 126 117 [v0, v1, v2, v3, v4] r h 0 0 Q = AW sv 126 118 [v0, v1, v2, v3, v4] (.int (1) :: r) h 0 0 Q := e_iconstv am_h126 dX9_seatClause_117 c_iconst_1
theorem x126_118 : AW sv 126 118 [v0, v1, v2, v3, v4] (.int y :: .int x :: r) h 0 0 Q = AW sv 126 119 [v0, v1, v2, v3, v4] (.int (x + y) :: r) h 0 0 Q := e_iadd am_h126 dX9_seatClause_118
theorem x126_119 : AW sv 126 119 [v0, v1, v2, v3, .int x] r h 0 0 Q = AW sv 126 121 [v0, v1, v2, v3, .int x] (.int x :: r) h 0 0 Q := e_pv am_h126 dX9_seatClause_119 rfl rfl rfl rfl
theorem x126_121 : AW sv 126 121 [v0, v1, v2, v3, v4] r h 0 0 Q = AW sv 126 123 [v0, v1, v2, v3, v4] (.int (112) :: r) h 0 0 Q := e_bipushv am_h126 dX9_seatClause_121 c_bipush_112
theorem x126_123 : AW sv 126 123 [v0, v1, v2, v3, v4] (.int y :: .int x :: r) h 0 0 Q = if ¬ x = y then AW sv 126 130 [v0, v1, v2, v3, v4] r h 0 0 Q else AW sv 126 126 [v0, v1, v2, v3, v4] r h 0 0 Q := e_c_ne am_h126 dX9_seatClause_123 rfl
theorem x126_126 : AW sv 126 126 [v0, v1, v2, v3, v4] r h 0 0 Q = AW sv 126 127 [v0, v1, v2, v3, v4] (.int (0) :: r) h 0 0 Q := e_iconstv am_h126 dX9_seatClause_126 c_iconst_0
theorem x126_127 : AW sv 126 127 [v0, v1, v2, v3, v4] r h 0 0 Q = AW sv 126 165 [v0, v1, v2, v3, v4] r h 0 0 Q := e_goto am_h126 dX9_seatClause_127 rfl
theorem x126_130 : AW sv 126 130 [v0, v1, v2, v3, .int x] r h 0 0 Q = AW sv 126 132 [v0, v1, v2, v3, .int x] (.int x :: r) h 0 0 Q := e_pv am_h126 dX9_seatClause_130 rfl rfl rfl rfl
theorem x126_132 : AW sv 126 132 [v0, v1, v2, v3, v4] r h 0 0 Q = AW sv 126 134 [v0, v1, v2, v3, v4] (.int (119) :: r) h 0 0 Q := e_bipushv am_h126 dX9_seatClause_132 c_bipush_119
theorem x126_134 : AW sv 126 134 [v0, v1, v2, v3, v4] (.int y :: .int x :: r) h 0 0 Q = if ¬ x = y then AW sv 126 141 [v0, v1, v2, v3, v4] r h 0 0 Q else AW sv 126 137 [v0, v1, v2, v3, v4] r h 0 0 Q := e_c_ne am_h126 dX9_seatClause_134 rfl
theorem x126_137 : AW sv 126 137 [v0, v1, v2, v3, v4] r h 0 0 Q = AW sv 126 138 [v0, v1, v2, v3, v4] (.int (1) :: r) h 0 0 Q := e_iconstv am_h126 dX9_seatClause_137 c_iconst_1
theorem x126_138 : AW sv 126 138 [v0, v1, v2, v3, v4] r h 0 0 Q = AW sv 126 165 [v0, v1, v2, v3, v4] r h 0 0 Q := e_goto am_h126 dX9_seatClause_138 rfl
theorem x126_141 : AW sv 126 141 [v0, v1, v2, v3, .int x] r h 0 0 Q = AW sv 126 143 [v0, v1, v2, v3, .int x] (.int x :: r) h 0 0 Q := e_pv am_h126 dX9_seatClause_141 rfl rfl rfl rfl
theorem x126_143 : AW sv 126 143 [v0, v1, v2, v3, v4] r h 0 0 Q = AW sv 126 145 [v0, v1, v2, v3, v4] (.int (99) :: r) h 0 0 Q := e_bipushv am_h126 dX9_seatClause_143 c_bipush_99
theorem x126_145 : AW sv 126 145 [v0, v1, v2, v3, v4] (.int y :: .int x :: r) h 0 0 Q = if ¬ x = y then AW sv 126 152 [v0, v1, v2, v3, v4] r h 0 0 Q else AW sv 126 148 [v0, v1, v2, v3, v4] r h 0 0 Q := e_c_ne am_h126 dX9_seatClause_145 rfl
theorem x126_148 : AW sv 126 148 [v0, v1, v2, v3, v4] r h 0 0 Q = AW sv 126 149 [v0, v1, v2, v3, v4] (.int (2) :: r) h 0 0 Q := e_iconstv am_h126 dX9_seatClause_148 c_iconst_2
theorem x126_149 : AW sv 126 149 [v0, v1, v2, v3, v4] r h 0 0 Q = AW sv 126 165 [v0, v1, v2, v3, v4] r h 0 0 Q := e_goto am_h126 dX9_seatClause_149 rfl
theorem x126_152 : AW sv 126 152 [v0, v1, v2, v3, .int x] r h 0 0 Q = AW sv 126 154 [v0, v1, v2, v3, .int x] (.int x :: r) h 0 0 Q := e_pv am_h126 dX9_seatClause_152 rfl rfl rfl rfl
theorem x126_154 : AW sv 126 154 [v0, v1, v2, v3, v4] r h 0 0 Q = AW sv 126 156 [v0, v1, v2, v3, v4] (.int (120) :: r) h 0 0 Q := e_bipushv am_h126 dX9_seatClause_154 c_bipush_120
theorem x126_156 : AW sv 126 156 [v0, v1, v2, v3, v4] (.int y :: .int x :: r) h 0 0 Q = if ¬ x = y then AW sv 126 163 [v0, v1, v2, v3, v4] r h 0 0 Q else AW sv 126 159 [v0, v1, v2, v3, v4] r h 0 0 Q := e_c_ne am_h126 dX9_seatClause_156 rfl
theorem x126_159 : AW sv 126 159 [v0, v1, v2, v3, v4] r h 0 0 Q = AW sv 126 160 [v0, v1, v2, v3, v4] (.int (3) :: r) h 0 0 Q := e_iconstv am_h126 dX9_seatClause_159 c_iconst_3
theorem x126_160 : AW sv 126 160 [v0, v1, v2, v3, v4] r h 0 0 Q = AW sv 126 165 [v0, v1, v2, v3, v4] r h 0 0 Q := e_goto am_h126 dX9_seatClause_160 rfl
theorem x126_163 : AW sv 126 163 [v0, v1, v2, v3, v4] r h 0 0 Q = AW sv 126 165 [v0, v1, v2, v3, v4] (.int (-4) :: r) h 0 0 Q := e_bipushv am_h126 dX9_seatClause_163 c_bipush_m4
theorem x126_165 (hi : am_in y (am_ln a) = true) : AW sv 126 165 [v0, v1, v2, v3, v4] (.int x :: .int y :: .ref a :: r) (am_toH σ) 0 0 Q = AW sv 126 166 [v0, v1, v2, v3, v4] r (am_toH (am_wr σ a (upd (σ.1 a) y.toNatClampNeg x))) 0 0 Q := e_iast am_h126 dX9_seatClause_165 hi
theorem x126_166 : AW sv 126 166 [.ref a, v1, v2, v3, v4] r h 0 0 Q = AW sv 126 167 [.ref a, v1, v2, v3, v4] (.ref a :: r) h 0 0 Q := e_pv am_h126 dX9_seatClause_166 rfl rfl rfl rfl
theorem x126_167 : AW sv 126 167 [.ref a, v1, v2, v3, v4] r h 0 0 Q = AW sv 126 168 [.ref a, v1, v2, v3, v4] (.ref a :: r) h 0 0 Q := e_pv am_h126 dX9_seatClause_167 rfl rfl rfl rfl
theorem x126_168 : AW sv 126 168 [v0, v1, v2, v3, v4] (.ref 71 :: r) (am_toH σ) 0 0 Q = AW sv 126 171 [v0, v1, v2, v3, v4] (.int (σ.1 71 12) :: r) (am_toH σ) 0 0 Q := e_getI am_h126 dX9_seatClause_168 fl_9_125 is9 rfl
theorem x126_171 : AW sv 126 171 [v0, v1, v2, v3, v4] (.int x :: r) h 0 0 Q = if ¬ x = 0 then AW sv 126 185 [v0, v1, v2, v3, v4] r h 0 0 Q else AW sv 126 174 [v0, v1, v2, v3, v4] r h 0 0 Q := e_z_ne am_h126 dX9_seatClause_171 rfl
theorem x126_174 : AW sv 126 174 [.ref a, v1, v2, v3, v4] r h 0 0 Q = AW sv 126 175 [.ref a, v1, v2, v3, v4] (.ref a :: r) h 0 0 Q := e_pv am_h126 dX9_seatClause_174 rfl rfl rfl rfl
theorem x126_175 : AW sv 126 175 [v0, v1, v2, v3, v4] (.ref 71 :: r) (am_toH σ) 0 0 Q = AW sv 126 178 [v0, v1, v2, v3, v4] (.ref 80 :: r) (am_toH σ) 0 0 Q := e_getR am_h126 dX9_seatClause_175 fl_9_34 is9 rfl
theorem x126_178 : AW sv 126 178 [v0, .int x, v2, v3, v4] r h 0 0 Q = AW sv 126 179 [v0, .int x, v2, v3, v4] (.int x :: r) h 0 0 Q := e_pv am_h126 dX9_seatClause_178 rfl rfl rfl rfl
theorem x126_179 : AW sv 126 179 [v0, v1, v2, v3, v4] r h 0 0 Q = AW sv 126 180 [v0, v1, v2, v3, v4] (.int (1) :: r) h 0 0 Q := e_iconstv am_h126 dX9_seatClause_179 c_iconst_1
theorem x126_180 : AW sv 126 180 [v0, v1, v2, v3, v4] (.int y :: .int x :: r) h 0 0 Q = AW sv 126 181 [v0, v1, v2, v3, v4] (.int (x + y) :: r) h 0 0 Q := e_iadd am_h126 dX9_seatClause_180
theorem x126_181 (hi : am_in x (am_ln a) = true) : AW sv 126 181 [v0, v1, v2, v3, v4] (.int x :: .ref a :: r) (am_toH σ) 0 0 Q = AW sv 126 182 [v0, v1, v2, v3, v4] (.int (σ.1 a x.toNatClampNeg) :: r) (am_toH σ) 0 0 Q := e_iald am_h126 dX9_seatClause_181 hi
theorem x126_182 : AW sv 126 182 [v0, v1, v2, v3, v4] (.int x :: r) h 0 0 Q = if 0 ≤ x then AW sv 126 189 [v0, v1, v2, v3, v4] r h 0 0 Q else AW sv 126 185 [v0, v1, v2, v3, v4] r h 0 0 Q := e_z_ge am_h126 dX9_seatClause_182 rfl
theorem x126_185 : AW sv 126 185 [v0, v1, v2, v3, v4] r h 0 0 Q = AW sv 126 186 [v0, v1, v2, v3, v4] (.int (1) :: r) h 0 0 Q := e_iconstv am_h126 dX9_seatClause_185 c_iconst_1
theorem x126_186 : AW sv 126 186 [v0, v1, v2, v3, v4] r h 0 0 Q = AW sv 126 190 [v0, v1, v2, v3, v4] r h 0 0 Q := e_goto am_h126 dX9_seatClause_186 rfl
theorem x126_189 : AW sv 126 189 [v0, v1, v2, v3, v4] r h 0 0 Q = AW sv 126 190 [v0, v1, v2, v3, v4] (.int (0) :: r) h 0 0 Q := e_iconstv am_h126 dX9_seatClause_189 c_iconst_0
theorem x126_190 (hz : x = 0 ∨ x = 1) : AW sv 126 190 [v0, v1, v2, v3, v4] (.int x :: .ref 71 :: r) (am_toH σ) 0 0 Q = AW sv 126 193 [v0, v1, v2, v3, v4] r (am_toH (am_wr σ 71 (upd (σ.1 71) 12 x))) 0 0 Q := e_putI am_h126 dX9_seatClause_190 fl_9_125 is9 rfl rfl (am_vz_bool hz)
theorem x126_193 : AW sv 126 193 [.ref a, v1, v2, v3, v4] r h 0 0 Q = AW sv 126 194 [.ref a, v1, v2, v3, v4] (.ref a :: r) h 0 0 Q := e_pv am_h126 dX9_seatClause_193 rfl rfl rfl rfl
theorem x126_194 (hc : v.category = 1) : AW sv 126 194 [v0, v1, v2, v3, v4] (v :: r) h 0 0 Q = AW sv 126 195 [v0, v1, v2, v3, v4] (v :: v :: r) h 0 0 Q := e_dup am_h126 dX9_seatClause_194 hc
theorem x126_195 : AW sv 126 195 [v0, v1, v2, v3, v4] (.ref 71 :: r) (am_toH σ) 0 0 Q = AW sv 126 198 [v0, v1, v2, v3, v4] (.int (σ.1 71 11) :: r) (am_toH σ) 0 0 Q := e_getI am_h126 dX9_seatClause_195 fl_9_122 is9 rfl
theorem x126_198 : AW sv 126 198 [.ref a, v1, v2, v3, v4] r h 0 0 Q = AW sv 126 199 [.ref a, v1, v2, v3, v4] (.ref a :: r) h 0 0 Q := e_pv am_h126 dX9_seatClause_198 rfl rfl rfl rfl
theorem x126_199 : AW sv 126 199 [v0, v1, v2, v3, v4] (.ref 71 :: r) (am_toH σ) 0 0 Q = AW sv 126 202 [v0, v1, v2, v3, v4] (.int (σ.1 71 12) :: r) (am_toH σ) 0 0 Q := e_getI am_h126 dX9_seatClause_199 fl_9_125 is9 rfl
theorem x126_202 : AW sv 126 202 [v0, v1, v2, v3, v4] (.int x :: r) h 0 0 Q = if x = 0 then AW sv 126 209 [v0, v1, v2, v3, v4] r h 0 0 Q else AW sv 126 205 [v0, v1, v2, v3, v4] r h 0 0 Q := e_z_eq am_h126 dX9_seatClause_202 rfl
theorem x126_205 : AW sv 126 205 [v0, v1, v2, v3, v4] r h 0 0 Q = AW sv 126 206 [v0, v1, v2, v3, v4] (.int (0) :: r) h 0 0 Q := e_iconstv am_h126 dX9_seatClause_205 c_iconst_0
theorem x126_206 : AW sv 126 206 [v0, v1, v2, v3, v4] r h 0 0 Q = AW sv 126 210 [v0, v1, v2, v3, v4] r h 0 0 Q := e_goto am_h126 dX9_seatClause_206 rfl
theorem x126_209 : AW sv 126 209 [v0, v1, v2, v3, v4] r h 0 0 Q = AW sv 126 210 [v0, v1, v2, v3, v4] (.int (1) :: r) h 0 0 Q := e_iconstv am_h126 dX9_seatClause_209 c_iconst_1
theorem x126_210 : AW sv 126 210 [v0, v1, v2, v3, v4] (.int y :: .int x :: r) h 0 0 Q = AW sv 126 211 [v0, v1, v2, v3, v4] (.int (x + y) :: r) h 0 0 Q := e_iadd am_h126 dX9_seatClause_210
theorem x126_211 : AW sv 126 211 [v0, v1, v2, v3, v4] (.int x :: .ref 71 :: r) (am_toH σ) 0 0 Q = AW sv 126 214 [v0, v1, v2, v3, v4] r (am_toH (am_wr σ 71 (upd (σ.1 71) 11 x))) 0 0 Q := e_putI am_h126 dX9_seatClause_211 fl_9_122 is9 rfl rfl rfl
theorem x126_214 : AW sv 126 214 [v0, v1, v2, v3, v4] [] h 0 0 Q = Q none h := e_vret am_h126 dX9_seatClause_214 rfl ⟨rfl, rfl⟩
theorem n126 : AM sv 126 [.ref a, .int x0] h Q = AW sv 126 0 [.ref a, .int x0, .null, .null, .null] [] h 0 0 Q := rfl
theorem x127_0 : AW sv 127 0 [.ref a, v1, v2, v3] r h 0 0 Q = AW sv 127 1 [.ref a, v1, v2, v3] (.ref a :: r) h 0 0 Q := e_pv am_h127 dX9_readAll_0 rfl rfl rfl rfl
theorem x127_1 : AW sv 127 1 [v0, v1, v2, v3] r h 0 0 Q = AW sv 127 2 [v0, v1, v2, v3] (.int (0) :: r) h 0 0 Q := e_iconstv am_h127 dX9_readAll_1 c_iconst_0
theorem x127_2 : AW sv 127 2 [v0, v1, v2, v3] (.int x :: .ref 71 :: r) (am_toH σ) 0 0 Q = AW sv 127 5 [v0, v1, v2, v3] r (am_toH (am_wr σ 71 (upd (σ.1 71) 11 x))) 0 0 Q := e_putI am_h127 dX9_readAll_2 fl_9_122 is9 rfl rfl rfl
theorem x127_5 : AW sv 127 5 [.ref a, v1, v2, v3] r h 0 0 Q = AW sv 127 6 [.ref a, v1, v2, v3] (.ref a :: r) h 0 0 Q := e_pv am_h127 dX9_readAll_5 rfl rfl rfl rfl
theorem x127_6 : AW sv 127 6 [v0, v1, v2, v3] r h 0 0 Q = AW sv 127 7 [v0, v1, v2, v3] (.int (0) :: r) h 0 0 Q := e_iconstv am_h127 dX9_readAll_6 c_iconst_0
theorem x127_7 (hz : x = 0 ∨ x = 1) : AW sv 127 7 [v0, v1, v2, v3] (.int x :: .ref 71 :: r) (am_toH σ) 0 0 Q = AW sv 127 10 [v0, v1, v2, v3] r (am_toH (am_wr σ 71 (upd (σ.1 71) 12 x))) 0 0 Q := e_putI am_h127 dX9_readAll_7 fl_9_125 is9 rfl rfl (am_vz_bool hz)
theorem x127_10 : AW sv 127 10 [v0, v1, v2, v3] r h 0 0 Q = AW sv 127 11 [v0, v1, v2, v3] (.int (0) :: r) h 0 0 Q := e_iconstv am_h127 dX9_readAll_10 c_iconst_0
theorem x127_11 (hc : v1.category = 1) : AW sv 127 11 [v0, v1, v2, v3] (.int x :: r) h 0 0 Q = AW sv 127 12 [v0, v1, .int x, v3] r h 0 0 Q := e_pv am_h127 dX9_readAll_11 rfl rfl rfl (am_sti_of (Nat.le_of_ble_eq_true rfl) (am_c1_of rfl hc))
theorem x127_12 : AW sv 127 12 [v0, v1, v2, v3] r h 0 0 Q = AW sv 127 13 [v0, v1, v2, v3] (.int (1) :: r) h 0 0 Q := e_iconstv am_h127 dX9_readAll_12 c_iconst_1
theorem x127_13 (hc : v2.category = 1) : AW sv 127 13 [v0, v1, v2, v3] (.int x :: r) h 0 0 Q = AW sv 127 14 [v0, v1, v2, .int x] r h 0 0 Q := e_pv am_h127 dX9_readAll_13 rfl rfl rfl (am_sti_of (Nat.le_of_ble_eq_true rfl) (am_c1_of rfl hc))
theorem x127_14 : AW sv 127 14 [v0, v1, v2, .int x] r h 0 0 Q = AW sv 127 15 [v0, v1, v2, .int x] (.int x :: r) h 0 0 Q := e_pv am_h127 dX9_readAll_14 rfl rfl rfl rfl
theorem x127_15 : AW sv 127 15 [v0, v1, v2, v3] (.int x :: r) h 0 0 Q = if x = 0 then AW sv 127 68 [v0, v1, v2, v3] r h 0 0 Q else AW sv 127 18 [v0, v1, v2, v3] r h 0 0 Q := e_z_eq am_h127 dX9_readAll_15 rfl
theorem x127_18 : AW sv 127 18 [v0, .int x, v2, v3] r h 0 0 Q = AW sv 127 19 [v0, .int x, v2, v3] (.int x :: r) h 0 0 Q := e_pv am_h127 dX9_readAll_18 rfl rfl rfl rfl
theorem x127_19 : AW sv 127 19 [v0, v1, v2, v3] (.int x :: r) h 0 0 Q = if x = 0 then AW sv 127 33 [v0, v1, v2, v3] r h 0 0 Q else AW sv 127 22 [v0, v1, v2, v3] r h 0 0 Q := e_z_eq am_h127 dX9_readAll_19 rfl
theorem x127_22 : AW sv 127 22 [.ref a, v1, v2, v3] r h 0 0 Q = AW sv 127 23 [.ref a, v1, v2, v3] (.ref a :: r) h 0 0 Q := e_pv am_h127 dX9_readAll_22 rfl rfl rfl rfl
theorem x127_23 : AW sv 127 23 [v0, v1, v2, v3] r h 0 0 Q = AW sv 127 25 [v0, v1, v2, v3] (.int (6) :: r) h 0 0 Q := e_bipushv am_h127 dX9_readAll_23 c_bipush_6
theorem x127_25 : AW sv 127 25 [v0, v1, .int x, v3] r h 0 0 Q = AW sv 127 26 [v0, v1, .int x, v3] (.int x :: r) h 0 0 Q := e_pv am_h127 dX9_readAll_25 rfl rfl rfl rfl
theorem x127_26 : AW sv 127 26 [v0, v1, v2, v3] (.int y :: .int x :: r) h 0 0 Q = AW sv 127 27 [v0, v1, v2, v3] (.int (x * y) :: r) h 0 0 Q := e_imul am_h127 dX9_readAll_26
theorem x127_27 (h8 : am_cs r ≤ 8) : AW sv 127 27 [v0, v1, v2, v3] (.int x0 :: .ref 71 :: r) (am_toH σ) 0 0 Q = AM sv 125 [.ref 71, .int x0] (am_toH σ) (fun v h1 => AW sv 127 30 [v0, v1, v2, v3] (v.toList ++ r) h1 0 0 Q) := e_cV (as := [.int x0]) am_h127 dX9_readAll_27 ml_9_150 (by decide) am_h125 rfl is9 rfl rfl ⟨by decide, Nat.le_of_ble_eq_true rfl, am_rc_of (by decide) h8⟩
theorem x127_30 : AW sv 127 30 [v0, v1, v2, v3] r h 0 0 Q = AW sv 127 41 [v0, v1, v2, v3] r h 0 0 Q := e_goto am_h127 dX9_readAll_30 rfl
theorem x127_33 : AW sv 127 33 [.ref a, v1, v2, v3] r h 0 0 Q = AW sv 127 34 [.ref a, v1, v2, v3] (.ref a :: r) h 0 0 Q := e_pv am_h127 dX9_readAll_33 rfl rfl rfl rfl
theorem x127_34 : AW sv 127 34 [v0, v1, v2, v3] r h 0 0 Q = AW sv 127 36 [v0, v1, v2, v3] (.int (6) :: r) h 0 0 Q := e_bipushv am_h127 dX9_readAll_34 c_bipush_6
theorem x127_36 : AW sv 127 36 [v0, v1, .int x, v3] r h 0 0 Q = AW sv 127 37 [v0, v1, .int x, v3] (.int x :: r) h 0 0 Q := e_pv am_h127 dX9_readAll_36 rfl rfl rfl rfl
theorem x127_37 : AW sv 127 37 [v0, v1, v2, v3] (.int y :: .int x :: r) h 0 0 Q = AW sv 127 38 [v0, v1, v2, v3] (.int (x * y) :: r) h 0 0 Q := e_imul am_h127 dX9_readAll_37
theorem x127_38 (h8 : am_cs r ≤ 8) : AW sv 127 38 [v0, v1, v2, v3] (.int x0 :: .ref 71 :: r) (am_toH σ) 0 0 Q = AM sv 126 [.ref 71, .int x0] (am_toH σ) (fun v h1 => AW sv 127 41 [v0, v1, v2, v3] (v.toList ++ r) h1 0 0 Q) := e_cV (as := [.int x0]) am_h127 dX9_readAll_38 ml_9_154 (by decide) am_h126 rfl is9 rfl rfl ⟨by decide, Nat.le_of_ble_eq_true rfl, am_rc_of (by decide) h8⟩
theorem x127_41 (hc : v1.category = 1) : AW sv 127 41 [v0, v1, .int x, v3] r h 0 0 Q = AW sv 127 44 [v0, v1, .int (x + (1)), v3] r h 0 0 Q := e_pv am_h127 dX9_readAll_41 rfl rfl rfl (am_inc_of (ls := [v0, v1, .int x, v3]) (k := 2) rfl c_iconst_1 (am_c1_of (ls := [v0, v1, .int x, v3]) (k := 1) (v := v1) rfl hc))
theorem x127_44 : AW sv 127 44 [v0, v1, .int x, v3] r h 0 0 Q = AW sv 127 45 [v0, v1, .int x, v3] (.int x :: r) h 0 0 Q := e_pv am_h127 dX9_readAll_44 rfl rfl rfl rfl
theorem x127_45 : AW sv 127 45 [v0, v1, v2, v3] r h 0 0 Q = AW sv 127 47 [v0, v1, v2, v3] (.int (8) :: r) h 0 0 Q := e_bipushv am_h127 dX9_readAll_45 c_bipush_8
theorem x127_47 : AW sv 127 47 [v0, v1, v2, v3] (.int y :: .int x :: r) h 0 0 Q = if y ≤ x then AW sv 127 63 [v0, v1, v2, v3] r h 0 0 Q else AW sv 127 50 [v0, v1, v2, v3] r h 0 0 Q := e_c_ge am_h127 dX9_readAll_47 rfl
theorem x127_50 : AW sv 127 50 [.ref a, v1, v2, v3] r h 0 0 Q = AW sv 127 51 [.ref a, v1, v2, v3] (.ref a :: r) h 0 0 Q := e_pv am_h127 dX9_readAll_50 rfl rfl rfl rfl
theorem x127_51 : AW sv 127 51 [v0, v1, v2, v3] r h 0 0 Q = AW sv 127 53 [v0, v1, v2, v3] (.int (59) :: r) h 0 0 Q := e_bipushv am_h127 dX9_readAll_51 c_bipush_59
theorem x127_53 (h8 : am_cs r ≤ 8) : AW sv 127 53 [v0, v1, v2, v3] (.int x0 :: .ref 71 :: r) (am_toH σ) 0 0 Q = AM sv 121 [.ref 71, .int x0] (am_toH σ) (fun v h1 => AW sv 127 56 [v0, v1, v2, v3] (v.toList ++ r) h1 0 0 Q) := e_cV (as := [.int x0]) am_h127 dX9_readAll_53 ml_9_144 (by decide) am_h121 rfl is9 rfl rfl ⟨by decide, Nat.le_of_ble_eq_true rfl, am_rc_of (by decide) h8⟩
theorem x127_56 : AW sv 127 56 [v0, v1, v2, v3] (.int x :: r) h 0 0 Q = if x = 0 then AW sv 127 63 [v0, v1, v2, v3] r h 0 0 Q else AW sv 127 59 [v0, v1, v2, v3] r h 0 0 Q := e_z_eq am_h127 dX9_readAll_56 rfl
theorem x127_59 : AW sv 127 59 [v0, v1, v2, v3] r h 0 0 Q = AW sv 127 60 [v0, v1, v2, v3] (.int (1) :: r) h 0 0 Q := e_iconstv am_h127 dX9_readAll_59 c_iconst_1
theorem x127_60 : AW sv 127 60 [v0, v1, v2, v3] r h 0 0 Q = AW sv 127 64 [v0, v1, v2, v3] r h 0 0 Q := e_goto am_h127 dX9_readAll_60 rfl
theorem x127_63 : AW sv 127 63 [v0, v1, v2, v3] r h 0 0 Q = AW sv 127 64 [v0, v1, v2, v3] (.int (0) :: r) h 0 0 Q := e_iconstv am_h127 dX9_readAll_63 c_iconst_0
theorem x127_64 (hc : v2.category = 1) : AW sv 127 64 [v0, v1, v2, v3] (.int x :: r) h 0 0 Q = AW sv 127 65 [v0, v1, v2, .int x] r h 0 0 Q := e_pv am_h127 dX9_readAll_64 rfl rfl rfl (am_sti_of (Nat.le_of_ble_eq_true rfl) (am_c1_of rfl hc))
theorem x127_65 : AW sv 127 65 [v0, v1, v2, v3] r h 0 0 Q = AW sv 127 14 [v0, v1, v2, v3] r h 0 0 Q := e_goto am_h127 dX9_readAll_65 rfl
theorem x127_68 : AW sv 127 68 [.ref a, v1, v2, v3] r h 0 0 Q = AW sv 127 69 [.ref a, v1, v2, v3] (.ref a :: r) h 0 0 Q := e_pv am_h127 dX9_readAll_68 rfl rfl rfl rfl
theorem x127_69 : AW sv 127 69 [.ref a, v1, v2, v3] r h 0 0 Q = AW sv 127 70 [.ref a, v1, v2, v3] (.ref a :: r) h 0 0 Q := e_pv am_h127 dX9_readAll_69 rfl rfl rfl rfl
theorem x127_70 : AW sv 127 70 [v0, v1, v2, v3] (.ref 71 :: r) (am_toH σ) 0 0 Q = AW sv 127 73 [v0, v1, v2, v3] (.int (σ.1 71 12) :: r) (am_toH σ) 0 0 Q := e_getI am_h127 dX9_readAll_70 fl_9_125 is9 rfl
theorem x127_73 : AW sv 127 73 [v0, v1, v2, v3] (.int x :: r) h 0 0 Q = if ¬ x = 0 then AW sv 127 83 [v0, v1, v2, v3] r h 0 0 Q else AW sv 127 76 [v0, v1, v2, v3] r h 0 0 Q := e_z_ne am_h127 dX9_readAll_73 rfl
theorem x127_76 : AW sv 127 76 [.ref a, v1, v2, v3] r h 0 0 Q = AW sv 127 77 [.ref a, v1, v2, v3] (.ref a :: r) h 0 0 Q := e_pv am_h127 dX9_readAll_76 rfl rfl rfl rfl
theorem x127_77 (h8 : am_cs r ≤ 8) : AW sv 127 77 [v0, v1, v2, v3] (.ref 71 :: r) (am_toH σ) 0 0 Q = AM sv 120 [.ref 71] (am_toH σ) (fun v h1 => AW sv 127 80 [v0, v1, v2, v3] (v.toList ++ r) h1 0 0 Q) := e_cV (as := []) am_h127 dX9_readAll_77 ml_9_129 (by decide) am_h120 rfl is9 rfl rfl ⟨by decide, Nat.le_of_ble_eq_true rfl, am_rc_of (by decide) h8⟩
theorem x127_80 : AW sv 127 80 [v0, v1, v2, v3] (.int x :: r) h 0 0 Q = if x = 0 then AW sv 127 87 [v0, v1, v2, v3] r h 0 0 Q else AW sv 127 83 [v0, v1, v2, v3] r h 0 0 Q := e_z_eq am_h127 dX9_readAll_80 rfl
theorem x127_83 : AW sv 127 83 [v0, v1, v2, v3] r h 0 0 Q = AW sv 127 84 [v0, v1, v2, v3] (.int (1) :: r) h 0 0 Q := e_iconstv am_h127 dX9_readAll_83 c_iconst_1
theorem x127_84 : AW sv 127 84 [v0, v1, v2, v3] r h 0 0 Q = AW sv 127 88 [v0, v1, v2, v3] r h 0 0 Q := e_goto am_h127 dX9_readAll_84 rfl
theorem x127_87 : AW sv 127 87 [v0, v1, v2, v3] r h 0 0 Q = AW sv 127 88 [v0, v1, v2, v3] (.int (0) :: r) h 0 0 Q := e_iconstv am_h127 dX9_readAll_87 c_iconst_0
theorem x127_88 (hz : x = 0 ∨ x = 1) : AW sv 127 88 [v0, v1, v2, v3] (.int x :: .ref 71 :: r) (am_toH σ) 0 0 Q = AW sv 127 91 [v0, v1, v2, v3] r (am_toH (am_wr σ 71 (upd (σ.1 71) 12 x))) 0 0 Q := e_putI am_h127 dX9_readAll_88 fl_9_125 is9 rfl rfl (am_vz_bool hz)
theorem x127_91 : AW sv 127 91 [.ref a, v1, v2, v3] r h 0 0 Q = AW sv 127 92 [.ref a, v1, v2, v3] (.ref a :: r) h 0 0 Q := e_pv am_h127 dX9_readAll_91 rfl rfl rfl rfl
theorem x127_92 : AW sv 127 92 [v0, v1, v2, v3] r h 0 0 Q = AW sv 127 93 [v0, v1, v2, v3] (.int (0) :: r) h 0 0 Q := e_iconstv am_h127 dX9_readAll_92 c_iconst_0
theorem x127_93 : AW sv 127 93 [v0, v1, v2, v3] (.int x :: .ref 71 :: r) (am_toH σ) 0 0 Q = AW sv 127 96 [v0, v1, v2, v3] r (am_toH (am_wr σ 71 (upd (σ.1 71) 10 x))) 0 0 Q := e_putI am_h127 dX9_readAll_93 fl_9_119 is9 rfl rfl rfl
theorem x127_96 : AW sv 127 96 [.ref a, v1, v2, v3] r h 0 0 Q = AW sv 127 97 [.ref a, v1, v2, v3] (.ref a :: r) h 0 0 Q := e_pv am_h127 dX9_readAll_96 rfl rfl rfl rfl
theorem x127_97 : AW sv 127 97 [v0, v1, v2, v3] (.ref 71 :: r) (am_toH σ) 0 0 Q = AW sv 127 100 [v0, v1, v2, v3] (.int (σ.1 71 12) :: r) (am_toH σ) 0 0 Q := e_getI am_h127 dX9_readAll_97 fl_9_125 is9 rfl
theorem x127_100 : AW sv 127 100 [v0, v1, v2, v3] (.int x :: r) h 0 0 Q = if x = 0 then AW sv 127 113 [v0, v1, v2, v3] r h 0 0 Q else AW sv 127 103 [v0, v1, v2, v3] r h 0 0 Q := e_z_eq am_h127 dX9_readAll_100 rfl
theorem x127_103 : AW sv 127 103 [v0, v1, v2, v3] r h 0 0 Q = AW sv 127 105 [v0, v1, v2, v3] (.int (-20) :: r) h 0 0 Q := e_bipushv am_h127 dX9_readAll_103 c_bipush_m20
theorem x127_105 : AW sv 127 105 [.ref a, v1, v2, v3] r h 0 0 Q = AW sv 127 106 [.ref a, v1, v2, v3] (.ref a :: r) h 0 0 Q := e_pv am_h127 dX9_readAll_105 rfl rfl rfl rfl
theorem x127_106 : AW sv 127 106 [v0, v1, v2, v3] (.ref 71 :: r) (am_toH σ) 0 0 Q = AW sv 127 109 [v0, v1, v2, v3] (.int (σ.1 71 11) :: r) (am_toH σ) 0 0 Q := e_getI am_h127 dX9_readAll_106 fl_9_122 is9 rfl
theorem x127_109 : AW sv 127 109 [v0, v1, v2, v3] (.int y :: .int x :: r) h 0 0 Q = AW sv 127 110 [v0, v1, v2, v3] (.int (x - y) :: r) h 0 0 Q := e_isub am_h127 dX9_readAll_109
theorem x127_110 : AW sv 127 110 [v0, v1, v2, v3] r h 0 0 Q = AW sv 127 114 [v0, v1, v2, v3] r h 0 0 Q := e_goto am_h127 dX9_readAll_110 rfl
theorem x127_113 : AW sv 127 113 [v0, v1, .int x, v3] r h 0 0 Q = AW sv 127 114 [v0, v1, .int x, v3] (.int x :: r) h 0 0 Q := e_pv am_h127 dX9_readAll_113 rfl rfl rfl rfl
theorem x127_114 : AW sv 127 114 [v0, v1, v2, v3] [.int x] h 0 0 Q = Q (some (.int x)) h := e_iret am_h127 dX9_readAll_114 rfl ⟨rfl, rfl⟩
theorem n127 : AM sv 127 [.ref a, .int x0] h Q = AW sv 127 0 [.ref a, .int x0, .null, .null] [] h 0 0 Q := rfl
theorem x128_0 : AW sv 128 0 [.ref a, v1, v2] r h 0 0 Q = AW sv 128 1 [.ref a, v1, v2] (.ref a :: r) h 0 0 Q := e_pv am_h128 dX9_routine_0 rfl rfl rfl rfl
theorem x128_1 : AW sv 128 1 [v0, v1, v2] r h 0 0 Q = AW sv 128 2 [v0, v1, v2] (.int (1) :: r) h 0 0 Q := e_iconstv am_h128 dX9_routine_1 c_iconst_1
theorem x128_2 (h8 : am_cs r ≤ 8) : AW sv 128 2 [v0, v1, v2] (.int x0 :: .ref 71 :: r) (am_toH σ) 0 0 Q = AM sv 127 [.ref 71, .int x0] (am_toH σ) (fun v h1 => AW sv 128 5 [v0, v1, v2] (v.toList ++ r) h1 0 0 Q) := e_cV (as := [.int x0]) am_h128 dX9_routine_2 ml_9_157 (by decide) am_h127 rfl is9 rfl rfl ⟨by decide, Nat.le_of_ble_eq_true rfl, am_rc_of (by decide) h8⟩
theorem x128_5 (hc : v0.category = 1) : AW sv 128 5 [v0, v1, v2] (.int x :: r) h 0 0 Q = AW sv 128 6 [v0, .int x, v2] r h 0 0 Q := e_pv am_h128 dX9_routine_5 rfl rfl rfl (am_sti_of (Nat.le_of_ble_eq_true rfl) (am_c1_of rfl hc))
theorem x128_6 : AW sv 128 6 [v0, v1, v2] r h 0 0 Q = AW sv 128 7 [v0, v1, v2] (.int (0) :: r) h 0 0 Q := e_iconstv am_h128 dX9_routine_6 c_iconst_0
theorem x128_7 (hc : v1.category = 1) : AW sv 128 7 [v0, v1, v2] (.int x :: r) h 0 0 Q = AW sv 128 8 [v0, v1, .int x] r h 0 0 Q := e_pv am_h128 dX9_routine_7 rfl rfl rfl (am_sti_of (Nat.le_of_ble_eq_true rfl) (am_c1_of rfl hc))
theorem x128_8 : AW sv 128 8 [v0, v1, .int x] r h 0 0 Q = AW sv 128 9 [v0, v1, .int x] (.int x :: r) h 0 0 Q := e_pv am_h128 dX9_routine_8 rfl rfl rfl rfl
theorem x128_9 : AW sv 128 9 [v0, v1, v2] r h 0 0 Q = AW sv 128 11 [v0, v1, v2] (.int (6) :: r) h 0 0 Q := e_bipushv am_h128 dX9_routine_9 c_bipush_6
theorem x128_11 : AW sv 128 11 [v0, .int x, v2] r h 0 0 Q = AW sv 128 12 [v0, .int x, v2] (.int x :: r) h 0 0 Q := e_pv am_h128 dX9_routine_11 rfl rfl rfl rfl
theorem x128_12 : AW sv 128 12 [v0, v1, v2] (.int y :: .int x :: r) h 0 0 Q = AW sv 128 13 [v0, v1, v2] (.int (x * y) :: r) h 0 0 Q := e_imul am_h128 dX9_routine_12
theorem x128_13 : AW sv 128 13 [v0, v1, v2] (.int y :: .int x :: r) h 0 0 Q = if y ≤ x then AW sv 128 117 [v0, v1, v2] r h 0 0 Q else AW sv 128 16 [v0, v1, v2] r h 0 0 Q := e_c_ge am_h128 dX9_routine_13 rfl
theorem x128_16 : AW sv 128 16 [.ref a, v1, v2] r h 0 0 Q = AW sv 128 17 [.ref a, v1, v2] (.ref a :: r) h 0 0 Q := e_pv am_h128 dX9_routine_16 rfl rfl rfl rfl
theorem x128_17 : AW sv 128 17 [v0, v1, v2] (.ref 71 :: r) (am_toH σ) 0 0 Q = AW sv 128 20 [v0, v1, v2] (.ref 72 :: r) (am_toH σ) 0 0 Q := e_getR am_h128 dX9_routine_17 fl_9_7 is9 rfl
theorem x128_20 : AW sv 128 20 [.ref a, v1, v2] r h 0 0 Q = AW sv 128 21 [.ref a, v1, v2] (.ref a :: r) h 0 0 Q := e_pv am_h128 dX9_routine_20 rfl rfl rfl rfl
theorem x128_21 : AW sv 128 21 [v0, v1, v2] (.ref 71 :: r) (am_toH σ) 0 0 Q = AW sv 128 24 [v0, v1, v2] (.ref 80 :: r) (am_toH σ) 0 0 Q := e_getR am_h128 dX9_routine_21 fl_9_34 is9 rfl
theorem x128_24 : AW sv 128 24 [v0, v1, .int x] r h 0 0 Q = AW sv 128 25 [v0, v1, .int x] (.int x :: r) h 0 0 Q := e_pv am_h128 dX9_routine_24 rfl rfl rfl rfl
theorem x128_25 (hi : am_in x (am_ln a) = true) : AW sv 128 25 [v0, v1, v2] (.int x :: .ref a :: r) (am_toH σ) 0 0 Q = AW sv 128 26 [v0, v1, v2] (.int (σ.1 a x.toNatClampNeg) :: r) (am_toH σ) 0 0 Q := e_iald am_h128 dX9_routine_25 hi
theorem x128_26 : AW sv 128 26 [.ref a, v1, v2] r h 0 0 Q = AW sv 128 27 [.ref a, v1, v2] (.ref a :: r) h 0 0 Q := e_pv am_h128 dX9_routine_26 rfl rfl rfl rfl
theorem x128_27 : AW sv 128 27 [v0, v1, v2] (.ref 71 :: r) (am_toH σ) 0 0 Q = AW sv 128 30 [v0, v1, v2] (.ref 80 :: r) (am_toH σ) 0 0 Q := e_getR am_h128 dX9_routine_27 fl_9_34 is9 rfl
theorem x128_30 : AW sv 128 30 [v0, v1, .int x] r h 0 0 Q = AW sv 128 31 [v0, v1, .int x] (.int x :: r) h 0 0 Q := e_pv am_h128 dX9_routine_30 rfl rfl rfl rfl
theorem x128_31 : AW sv 128 31 [v0, v1, v2] r h 0 0 Q = AW sv 128 32 [v0, v1, v2] (.int (1) :: r) h 0 0 Q := e_iconstv am_h128 dX9_routine_31 c_iconst_1
theorem x128_32 : AW sv 128 32 [v0, v1, v2] (.int y :: .int x :: r) h 0 0 Q = AW sv 128 33 [v0, v1, v2] (.int (x + y) :: r) h 0 0 Q := e_iadd am_h128 dX9_routine_32
theorem x128_33 (hi : am_in x (am_ln a) = true) : AW sv 128 33 [v0, v1, v2] (.int x :: .ref a :: r) (am_toH σ) 0 0 Q = AW sv 128 34 [v0, v1, v2] (.int (σ.1 a x.toNatClampNeg) :: r) (am_toH σ) 0 0 Q := e_iald am_h128 dX9_routine_33 hi
theorem x128_34 (hi : am_in y (am_ln a) = true) : AW sv 128 34 [v0, v1, v2] (.int x :: .int y :: .ref a :: r) (am_toH σ) 0 0 Q = AW sv 128 35 [v0, v1, v2] r (am_toH (am_wr σ a (upd (σ.1 a) y.toNatClampNeg x))) 0 0 Q := e_iast am_h128 dX9_routine_34 hi
theorem x128_35 : AW sv 128 35 [.ref a, v1, v2] r h 0 0 Q = AW sv 128 36 [.ref a, v1, v2] (.ref a :: r) h 0 0 Q := e_pv am_h128 dX9_routine_35 rfl rfl rfl rfl
theorem x128_36 : AW sv 128 36 [v0, v1, v2] (.ref 71 :: r) (am_toH σ) 0 0 Q = AW sv 128 39 [v0, v1, v2] (.ref 74 :: r) (am_toH σ) 0 0 Q := e_getR am_h128 dX9_routine_36 fl_9_16 is9 rfl
theorem x128_39 : AW sv 128 39 [.ref a, v1, v2] r h 0 0 Q = AW sv 128 40 [.ref a, v1, v2] (.ref a :: r) h 0 0 Q := e_pv am_h128 dX9_routine_39 rfl rfl rfl rfl
theorem x128_40 : AW sv 128 40 [v0, v1, v2] (.ref 71 :: r) (am_toH σ) 0 0 Q = AW sv 128 43 [v0, v1, v2] (.ref 80 :: r) (am_toH σ) 0 0 Q := e_getR am_h128 dX9_routine_40 fl_9_34 is9 rfl
theorem x128_43 : AW sv 128 43 [v0, v1, .int x] r h 0 0 Q = AW sv 128 44 [v0, v1, .int x] (.int x :: r) h 0 0 Q := e_pv am_h128 dX9_routine_43 rfl rfl rfl rfl
theorem x128_44 (hi : am_in x (am_ln a) = true) : AW sv 128 44 [v0, v1, v2] (.int x :: .ref a :: r) (am_toH σ) 0 0 Q = AW sv 128 45 [v0, v1, v2] (.int (σ.1 a x.toNatClampNeg) :: r) (am_toH σ) 0 0 Q := e_iald am_h128 dX9_routine_44 hi
theorem x128_45 : AW sv 128 45 [.ref a, v1, v2] r h 0 0 Q = AW sv 128 46 [.ref a, v1, v2] (.ref a :: r) h 0 0 Q := e_pv am_h128 dX9_routine_45 rfl rfl rfl rfl
theorem x128_46 : AW sv 128 46 [v0, v1, v2] (.ref 71 :: r) (am_toH σ) 0 0 Q = AW sv 128 49 [v0, v1, v2] (.ref 80 :: r) (am_toH σ) 0 0 Q := e_getR am_h128 dX9_routine_46 fl_9_34 is9 rfl
theorem x128_49 : AW sv 128 49 [v0, v1, .int x] r h 0 0 Q = AW sv 128 50 [v0, v1, .int x] (.int x :: r) h 0 0 Q := e_pv am_h128 dX9_routine_49 rfl rfl rfl rfl
theorem x128_50 : AW sv 128 50 [v0, v1, v2] r h 0 0 Q = AW sv 128 51 [v0, v1, v2] (.int (2) :: r) h 0 0 Q := e_iconstv am_h128 dX9_routine_50 c_iconst_2
theorem x128_51 : AW sv 128 51 [v0, v1, v2] (.int y :: .int x :: r) h 0 0 Q = AW sv 128 52 [v0, v1, v2] (.int (x + y) :: r) h 0 0 Q := e_iadd am_h128 dX9_routine_51
theorem x128_52 (hi : am_in x (am_ln a) = true) : AW sv 128 52 [v0, v1, v2] (.int x :: .ref a :: r) (am_toH σ) 0 0 Q = AW sv 128 53 [v0, v1, v2] (.int (σ.1 a x.toNatClampNeg) :: r) (am_toH σ) 0 0 Q := e_iald am_h128 dX9_routine_52 hi
theorem x128_53 (hi : am_in y (am_ln a) = true) : AW sv 128 53 [v0, v1, v2] (.int x :: .int y :: .ref a :: r) (am_toH σ) 0 0 Q = AW sv 128 54 [v0, v1, v2] r (am_toH (am_wr σ a (upd (σ.1 a) y.toNatClampNeg x))) 0 0 Q := e_iast am_h128 dX9_routine_53 hi
theorem x128_54 : AW sv 128 54 [.ref a, v1, v2] r h 0 0 Q = AW sv 128 55 [.ref a, v1, v2] (.ref a :: r) h 0 0 Q := e_pv am_h128 dX9_routine_54 rfl rfl rfl rfl
theorem x128_55 : AW sv 128 55 [v0, v1, v2] (.ref 71 :: r) (am_toH σ) 0 0 Q = AW sv 128 58 [v0, v1, v2] (.ref 75 :: r) (am_toH σ) 0 0 Q := e_getR am_h128 dX9_routine_55 fl_9_19 is9 rfl
theorem x128_58 : AW sv 128 58 [.ref a, v1, v2] r h 0 0 Q = AW sv 128 59 [.ref a, v1, v2] (.ref a :: r) h 0 0 Q := e_pv am_h128 dX9_routine_58 rfl rfl rfl rfl
theorem x128_59 : AW sv 128 59 [v0, v1, v2] (.ref 71 :: r) (am_toH σ) 0 0 Q = AW sv 128 62 [v0, v1, v2] (.ref 80 :: r) (am_toH σ) 0 0 Q := e_getR am_h128 dX9_routine_59 fl_9_34 is9 rfl
theorem x128_62 : AW sv 128 62 [v0, v1, .int x] r h 0 0 Q = AW sv 128 63 [v0, v1, .int x] (.int x :: r) h 0 0 Q := e_pv am_h128 dX9_routine_62 rfl rfl rfl rfl
theorem x128_63 (hi : am_in x (am_ln a) = true) : AW sv 128 63 [v0, v1, v2] (.int x :: .ref a :: r) (am_toH σ) 0 0 Q = AW sv 128 64 [v0, v1, v2] (.int (σ.1 a x.toNatClampNeg) :: r) (am_toH σ) 0 0 Q := e_iald am_h128 dX9_routine_63 hi
theorem x128_64 : AW sv 128 64 [.ref a, v1, v2] r h 0 0 Q = AW sv 128 65 [.ref a, v1, v2] (.ref a :: r) h 0 0 Q := e_pv am_h128 dX9_routine_64 rfl rfl rfl rfl
theorem x128_65 : AW sv 128 65 [v0, v1, v2] (.ref 71 :: r) (am_toH σ) 0 0 Q = AW sv 128 68 [v0, v1, v2] (.ref 80 :: r) (am_toH σ) 0 0 Q := e_getR am_h128 dX9_routine_65 fl_9_34 is9 rfl
theorem x128_68 : AW sv 128 68 [v0, v1, .int x] r h 0 0 Q = AW sv 128 69 [v0, v1, .int x] (.int x :: r) h 0 0 Q := e_pv am_h128 dX9_routine_68 rfl rfl rfl rfl
theorem x128_69 : AW sv 128 69 [v0, v1, v2] r h 0 0 Q = AW sv 128 70 [v0, v1, v2] (.int (3) :: r) h 0 0 Q := e_iconstv am_h128 dX9_routine_69 c_iconst_3
theorem x128_70 : AW sv 128 70 [v0, v1, v2] (.int y :: .int x :: r) h 0 0 Q = AW sv 128 71 [v0, v1, v2] (.int (x + y) :: r) h 0 0 Q := e_iadd am_h128 dX9_routine_70
theorem x128_71 (hi : am_in x (am_ln a) = true) : AW sv 128 71 [v0, v1, v2] (.int x :: .ref a :: r) (am_toH σ) 0 0 Q = AW sv 128 72 [v0, v1, v2] (.int (σ.1 a x.toNatClampNeg) :: r) (am_toH σ) 0 0 Q := e_iald am_h128 dX9_routine_71 hi
theorem x128_72 (hi : am_in y (am_ln a) = true) : AW sv 128 72 [v0, v1, v2] (.int x :: .int y :: .ref a :: r) (am_toH σ) 0 0 Q = AW sv 128 73 [v0, v1, v2] r (am_toH (am_wr σ a (upd (σ.1 a) y.toNatClampNeg x))) 0 0 Q := e_iast am_h128 dX9_routine_72 hi
theorem x128_73 : AW sv 128 73 [.ref a, v1, v2] r h 0 0 Q = AW sv 128 74 [.ref a, v1, v2] (.ref a :: r) h 0 0 Q := e_pv am_h128 dX9_routine_73 rfl rfl rfl rfl
theorem x128_74 : AW sv 128 74 [v0, v1, v2] (.ref 71 :: r) (am_toH σ) 0 0 Q = AW sv 128 77 [v0, v1, v2] (.ref 76 :: r) (am_toH σ) 0 0 Q := e_getR am_h128 dX9_routine_74 fl_9_22 is9 rfl
theorem x128_77 : AW sv 128 77 [.ref a, v1, v2] r h 0 0 Q = AW sv 128 78 [.ref a, v1, v2] (.ref a :: r) h 0 0 Q := e_pv am_h128 dX9_routine_77 rfl rfl rfl rfl
theorem x128_78 : AW sv 128 78 [v0, v1, v2] (.ref 71 :: r) (am_toH σ) 0 0 Q = AW sv 128 81 [v0, v1, v2] (.ref 80 :: r) (am_toH σ) 0 0 Q := e_getR am_h128 dX9_routine_78 fl_9_34 is9 rfl
theorem x128_81 : AW sv 128 81 [v0, v1, .int x] r h 0 0 Q = AW sv 128 82 [v0, v1, .int x] (.int x :: r) h 0 0 Q := e_pv am_h128 dX9_routine_81 rfl rfl rfl rfl
theorem x128_82 (hi : am_in x (am_ln a) = true) : AW sv 128 82 [v0, v1, v2] (.int x :: .ref a :: r) (am_toH σ) 0 0 Q = AW sv 128 83 [v0, v1, v2] (.int (σ.1 a x.toNatClampNeg) :: r) (am_toH σ) 0 0 Q := e_iald am_h128 dX9_routine_82 hi
theorem x128_83 : AW sv 128 83 [.ref a, v1, v2] r h 0 0 Q = AW sv 128 84 [.ref a, v1, v2] (.ref a :: r) h 0 0 Q := e_pv am_h128 dX9_routine_83 rfl rfl rfl rfl
theorem x128_84 : AW sv 128 84 [v0, v1, v2] (.ref 71 :: r) (am_toH σ) 0 0 Q = AW sv 128 87 [v0, v1, v2] (.ref 80 :: r) (am_toH σ) 0 0 Q := e_getR am_h128 dX9_routine_84 fl_9_34 is9 rfl
theorem x128_87 : AW sv 128 87 [v0, v1, .int x] r h 0 0 Q = AW sv 128 88 [v0, v1, .int x] (.int x :: r) h 0 0 Q := e_pv am_h128 dX9_routine_87 rfl rfl rfl rfl
theorem x128_88 : AW sv 128 88 [v0, v1, v2] r h 0 0 Q = AW sv 128 89 [v0, v1, v2] (.int (4) :: r) h 0 0 Q := e_iconstv am_h128 dX9_routine_88 c_iconst_4
theorem x128_89 : AW sv 128 89 [v0, v1, v2] (.int y :: .int x :: r) h 0 0 Q = AW sv 128 90 [v0, v1, v2] (.int (x + y) :: r) h 0 0 Q := e_iadd am_h128 dX9_routine_89
theorem x128_90 (hi : am_in x (am_ln a) = true) : AW sv 128 90 [v0, v1, v2] (.int x :: .ref a :: r) (am_toH σ) 0 0 Q = AW sv 128 91 [v0, v1, v2] (.int (σ.1 a x.toNatClampNeg) :: r) (am_toH σ) 0 0 Q := e_iald am_h128 dX9_routine_90 hi
theorem x128_91 (hi : am_in y (am_ln a) = true) : AW sv 128 91 [v0, v1, v2] (.int x :: .int y :: .ref a :: r) (am_toH σ) 0 0 Q = AW sv 128 92 [v0, v1, v2] r (am_toH (am_wr σ a (upd (σ.1 a) y.toNatClampNeg x))) 0 0 Q := e_iast am_h128 dX9_routine_91 hi
theorem x128_92 : AW sv 128 92 [.ref a, v1, v2] r h 0 0 Q = AW sv 128 93 [.ref a, v1, v2] (.ref a :: r) h 0 0 Q := e_pv am_h128 dX9_routine_92 rfl rfl rfl rfl
theorem x128_93 : AW sv 128 93 [v0, v1, v2] (.ref 71 :: r) (am_toH σ) 0 0 Q = AW sv 128 96 [v0, v1, v2] (.ref 73 :: r) (am_toH σ) 0 0 Q := e_getR am_h128 dX9_routine_93 fl_9_13 is9 rfl
theorem x128_96 : AW sv 128 96 [.ref a, v1, v2] r h 0 0 Q = AW sv 128 97 [.ref a, v1, v2] (.ref a :: r) h 0 0 Q := e_pv am_h128 dX9_routine_96 rfl rfl rfl rfl
theorem x128_97 : AW sv 128 97 [v0, v1, v2] (.ref 71 :: r) (am_toH σ) 0 0 Q = AW sv 128 100 [v0, v1, v2] (.ref 80 :: r) (am_toH σ) 0 0 Q := e_getR am_h128 dX9_routine_97 fl_9_34 is9 rfl
theorem x128_100 : AW sv 128 100 [v0, v1, .int x] r h 0 0 Q = AW sv 128 101 [v0, v1, .int x] (.int x :: r) h 0 0 Q := e_pv am_h128 dX9_routine_100 rfl rfl rfl rfl
theorem x128_101 (hi : am_in x (am_ln a) = true) : AW sv 128 101 [v0, v1, v2] (.int x :: .ref a :: r) (am_toH σ) 0 0 Q = AW sv 128 102 [v0, v1, v2] (.int (σ.1 a x.toNatClampNeg) :: r) (am_toH σ) 0 0 Q := e_iald am_h128 dX9_routine_101 hi
theorem x128_102 : AW sv 128 102 [.ref a, v1, v2] r h 0 0 Q = AW sv 128 103 [.ref a, v1, v2] (.ref a :: r) h 0 0 Q := e_pv am_h128 dX9_routine_102 rfl rfl rfl rfl
theorem x128_103 : AW sv 128 103 [v0, v1, v2] (.ref 71 :: r) (am_toH σ) 0 0 Q = AW sv 128 106 [v0, v1, v2] (.ref 80 :: r) (am_toH σ) 0 0 Q := e_getR am_h128 dX9_routine_103 fl_9_34 is9 rfl
theorem x128_106 : AW sv 128 106 [v0, v1, .int x] r h 0 0 Q = AW sv 128 107 [v0, v1, .int x] (.int x :: r) h 0 0 Q := e_pv am_h128 dX9_routine_106 rfl rfl rfl rfl
theorem x128_107 : AW sv 128 107 [v0, v1, v2] r h 0 0 Q = AW sv 128 108 [v0, v1, v2] (.int (5) :: r) h 0 0 Q := e_iconstv am_h128 dX9_routine_107 c_iconst_5
theorem x128_108 : AW sv 128 108 [v0, v1, v2] (.int y :: .int x :: r) h 0 0 Q = AW sv 128 109 [v0, v1, v2] (.int (x + y) :: r) h 0 0 Q := e_iadd am_h128 dX9_routine_108
theorem x128_109 (hi : am_in x (am_ln a) = true) : AW sv 128 109 [v0, v1, v2] (.int x :: .ref a :: r) (am_toH σ) 0 0 Q = AW sv 128 110 [v0, v1, v2] (.int (σ.1 a x.toNatClampNeg) :: r) (am_toH σ) 0 0 Q := e_iald am_h128 dX9_routine_109 hi
theorem x128_110 (hi : am_in y (am_ln a) = true) : AW sv 128 110 [v0, v1, v2] (.int x :: .int y :: .ref a :: r) (am_toH σ) 0 0 Q = AW sv 128 111 [v0, v1, v2] r (am_toH (am_wr σ a (upd (σ.1 a) y.toNatClampNeg x))) 0 0 Q := e_iast am_h128 dX9_routine_110 hi
theorem x128_111 (hc : v1.category = 1) : AW sv 128 111 [v0, v1, .int x] r h 0 0 Q = AW sv 128 114 [v0, v1, .int (x + (6))] r h 0 0 Q := e_pv am_h128 dX9_routine_111 rfl rfl rfl (am_inc_of (ls := [v0, v1, .int x]) (k := 2) rfl c_iconst_6 (am_c1_of (ls := [v0, v1, .int x]) (k := 1) (v := v1) rfl hc))
theorem x128_114 : AW sv 128 114 [v0, v1, v2] r h 0 0 Q = AW sv 128 8 [v0, v1, v2] r h 0 0 Q := e_goto am_h128 dX9_routine_114 rfl
theorem x128_117 : AW sv 128 117 [v0, .int x, v2] r h 0 0 Q = AW sv 128 118 [v0, .int x, v2] (.int x :: r) h 0 0 Q := e_pv am_h128 dX9_routine_117 rfl rfl rfl rfl
theorem x128_118 : AW sv 128 118 [v0, v1, v2] [.int x] h 0 0 Q = Q (some (.int x)) h := e_iret am_h128 dX9_routine_118 rfl ⟨rfl, rfl⟩
theorem n128 : AM sv 128 [.ref a] h Q = AW sv 128 0 [.ref a, .null, .null] [] h 0 0 Q := rfl
theorem x129_0 : AW sv 129 0 [.ref a, v1, v2] r h 0 0 Q = AW sv 129 1 [.ref a, v1, v2] (.ref a :: r) h 0 0 Q := e_pv am_h129 dX9_house_0 rfl rfl rfl rfl
theorem x129_1 : AW sv 129 1 [v0, v1, v2] r h 0 0 Q = AW sv 129 2 [v0, v1, v2] (.int (0) :: r) h 0 0 Q := e_iconstv am_h129 dX9_house_1 c_iconst_0
theorem x129_2 (h8 : am_cs r ≤ 8) : AW sv 129 2 [v0, v1, v2] (.int x0 :: .ref 71 :: r) (am_toH σ) 0 0 Q = AM sv 127 [.ref 71, .int x0] (am_toH σ) (fun v h1 => AW sv 129 5 [v0, v1, v2] (v.toList ++ r) h1 0 0 Q) := e_cV (as := [.int x0]) am_h129 dX9_house_2 ml_9_157 (by decide) am_h127 rfl is9 rfl rfl ⟨by decide, Nat.le_of_ble_eq_true rfl, am_rc_of (by decide) h8⟩
theorem x129_5 (hc : v0.category = 1) : AW sv 129 5 [v0, v1, v2] (.int x :: r) h 0 0 Q = AW sv 129 6 [v0, .int x, v2] r h 0 0 Q := e_pv am_h129 dX9_house_5 rfl rfl rfl (am_sti_of (Nat.le_of_ble_eq_true rfl) (am_c1_of rfl hc))
theorem x129_6 : AW sv 129 6 [v0, .int x, v2] r h 0 0 Q = AW sv 129 7 [v0, .int x, v2] (.int x :: r) h 0 0 Q := e_pv am_h129 dX9_house_6 rfl rfl rfl rfl
theorem x129_7 : AW sv 129 7 [v0, v1, v2] (.int x :: r) h 0 0 Q = if x ≤ 0 then AW sv 129 24 [v0, v1, v2] r h 0 0 Q else AW sv 129 10 [v0, v1, v2] r h 0 0 Q := e_z_le am_h129 dX9_house_7 rfl
theorem x129_10 : AW sv 129 10 [.ref a, v1, v2] r h 0 0 Q = AW sv 129 11 [.ref a, v1, v2] (.ref a :: r) h 0 0 Q := e_pv am_h129 dX9_house_10 rfl rfl rfl rfl
theorem x129_11 : AW sv 129 11 [v0, v1, v2] (.ref 71 :: r) (am_toH σ) 0 0 Q = AW sv 129 14 [v0, v1, v2] (.int (σ.1 71 7) :: r) (am_toH σ) 0 0 Q := e_getI am_h129 dX9_house_11 fl_9_76 is9 rfl
theorem x129_14 : AW sv 129 14 [v0, .int x, v2] r h 0 0 Q = AW sv 129 15 [v0, .int x, v2] (.int x :: r) h 0 0 Q := e_pv am_h129 dX9_house_14 rfl rfl rfl rfl
theorem x129_15 : AW sv 129 15 [v0, v1, v2] (.int y :: .int x :: r) h 0 0 Q = AW sv 129 16 [v0, v1, v2] (.int (x + y) :: r) h 0 0 Q := e_iadd am_h129 dX9_house_15
theorem x129_16 : AW sv 129 16 [v0, v1, v2] r h 0 0 Q = AW sv 129 18 [v0, v1, v2] (.int (8) :: r) h 0 0 Q := e_bipushv am_h129 dX9_house_16 c_bipush_8
theorem x129_18 : AW sv 129 18 [v0, v1, v2] (.int y :: .int x :: r) h 0 0 Q = if x ≤ y then AW sv 129 24 [v0, v1, v2] r h 0 0 Q else AW sv 129 21 [v0, v1, v2] r h 0 0 Q := e_c_le am_h129 dX9_house_18 rfl
theorem x129_21 : AW sv 129 21 [v0, v1, v2] r h 0 0 Q = AW sv 129 23 [v0, v1, v2] (.int (-3) :: r) h 0 0 Q := e_bipushv am_h129 dX9_house_21 c_bipush_m3
theorem x129_23 : AW sv 129 23 [v0, v1, v2] [.int x] h 0 0 Q = Q (some (.int x)) h := e_iret am_h129 dX9_house_23 rfl ⟨rfl, rfl⟩
theorem x129_24 : AW sv 129 24 [v0, v1, v2] r h 0 0 Q = AW sv 129 25 [v0, v1, v2] (.int (0) :: r) h 0 0 Q := e_iconstv am_h129 dX9_house_24 c_iconst_0
theorem x129_25 (hc : v1.category = 1) : AW sv 129 25 [v0, v1, v2] (.int x :: r) h 0 0 Q = AW sv 129 26 [v0, v1, .int x] r h 0 0 Q := e_pv am_h129 dX9_house_25 rfl rfl rfl (am_sti_of (Nat.le_of_ble_eq_true rfl) (am_c1_of rfl hc))
theorem x129_26 : AW sv 129 26 [v0, v1, .int x] r h 0 0 Q = AW sv 129 27 [v0, v1, .int x] (.int x :: r) h 0 0 Q := e_pv am_h129 dX9_house_26 rfl rfl rfl rfl
theorem x129_27 : AW sv 129 27 [v0, v1, v2] r h 0 0 Q = AW sv 129 29 [v0, v1, v2] (.int (6) :: r) h 0 0 Q := e_bipushv am_h129 dX9_house_27 c_bipush_6
theorem x129_29 : AW sv 129 29 [v0, .int x, v2] r h 0 0 Q = AW sv 129 30 [v0, .int x, v2] (.int x :: r) h 0 0 Q := e_pv am_h129 dX9_house_29 rfl rfl rfl rfl
theorem x129_30 : AW sv 129 30 [v0, v1, v2] (.int y :: .int x :: r) h 0 0 Q = AW sv 129 31 [v0, v1, v2] (.int (x * y) :: r) h 0 0 Q := e_imul am_h129 dX9_house_30
theorem x129_31 : AW sv 129 31 [v0, v1, v2] (.int y :: .int x :: r) h 0 0 Q = if y ≤ x then AW sv 129 59 [v0, v1, v2] r h 0 0 Q else AW sv 129 34 [v0, v1, v2] r h 0 0 Q := e_c_ge am_h129 dX9_house_31 rfl
theorem x129_34 : AW sv 129 34 [.ref a, v1, v2] r h 0 0 Q = AW sv 129 35 [.ref a, v1, v2] (.ref a :: r) h 0 0 Q := e_pv am_h129 dX9_house_34 rfl rfl rfl rfl
theorem x129_35 : AW sv 129 35 [.ref a, v1, v2] r h 0 0 Q = AW sv 129 36 [.ref a, v1, v2] (.ref a :: r) h 0 0 Q := e_pv am_h129 dX9_house_35 rfl rfl rfl rfl
theorem x129_36 : AW sv 129 36 [v0, v1, v2] (.ref 71 :: r) (am_toH σ) 0 0 Q = AW sv 129 39 [v0, v1, v2] (.ref 80 :: r) (am_toH σ) 0 0 Q := e_getR am_h129 dX9_house_36 fl_9_34 is9 rfl
theorem x129_39 : AW sv 129 39 [v0, v1, .int x] r h 0 0 Q = AW sv 129 40 [v0, v1, .int x] (.int x :: r) h 0 0 Q := e_pv am_h129 dX9_house_39 rfl rfl rfl rfl
theorem x129_40 (hi : am_in x (am_ln a) = true) : AW sv 129 40 [v0, v1, v2] (.int x :: .ref a :: r) (am_toH σ) 0 0 Q = AW sv 129 41 [v0, v1, v2] (.int (σ.1 a x.toNatClampNeg) :: r) (am_toH σ) 0 0 Q := e_iald am_h129 dX9_house_40 hi
theorem x129_41 : AW sv 129 41 [.ref a, v1, v2] r h 0 0 Q = AW sv 129 42 [.ref a, v1, v2] (.ref a :: r) h 0 0 Q := e_pv am_h129 dX9_house_41 rfl rfl rfl rfl
theorem x129_42 : AW sv 129 42 [v0, v1, v2] (.ref 71 :: r) (am_toH σ) 0 0 Q = AW sv 129 45 [v0, v1, v2] (.ref 80 :: r) (am_toH σ) 0 0 Q := e_getR am_h129 dX9_house_42 fl_9_34 is9 rfl
theorem x129_45 : AW sv 129 45 [v0, v1, .int x] r h 0 0 Q = AW sv 129 46 [v0, v1, .int x] (.int x :: r) h 0 0 Q := e_pv am_h129 dX9_house_45 rfl rfl rfl rfl
theorem x129_46 : AW sv 129 46 [v0, v1, v2] r h 0 0 Q = AW sv 129 47 [v0, v1, v2] (.int (1) :: r) h 0 0 Q := e_iconstv am_h129 dX9_house_46 c_iconst_1
theorem x129_47 : AW sv 129 47 [v0, v1, v2] (.int y :: .int x :: r) h 0 0 Q = AW sv 129 48 [v0, v1, v2] (.int (x + y) :: r) h 0 0 Q := e_iadd am_h129 dX9_house_47
theorem x129_48 (hi : am_in x (am_ln a) = true) : AW sv 129 48 [v0, v1, v2] (.int x :: .ref a :: r) (am_toH σ) 0 0 Q = AW sv 129 49 [v0, v1, v2] (.int (σ.1 a x.toNatClampNeg) :: r) (am_toH σ) 0 0 Q := e_iald am_h129 dX9_house_48 hi
theorem x129_49 (h8 : am_cs r ≤ 8) : AW sv 129 49 [v0, v1, v2] (.int x1 :: .int x0 :: .ref 71 :: r) (am_toH σ) 0 0 Q = AM sv 114 [.ref 71, .int x0, .int x1] (am_toH σ) (fun v h1 => AW sv 129 52 [v0, v1, v2] (v.toList ++ r) h1 0 0 Q) := e_cV (as := [.int x0, .int x1]) am_h129 dX9_house_49 ml_9_101 (by decide) am_h114 rfl is9 rfl rfl ⟨by decide, Nat.le_of_ble_eq_true rfl, am_rc_of (by decide) h8⟩
theorem x129_52 (hc : v.category = 1) : AW sv 129 52 [v0, v1, v2] (v :: r) h 0 0 Q = AW sv 129 53 [v0, v1, v2] r h 0 0 Q := e_pop am_h129 dX9_house_52 hc
theorem x129_53 (hc : v1.category = 1) : AW sv 129 53 [v0, v1, .int x] r h 0 0 Q = AW sv 129 56 [v0, v1, .int (x + (6))] r h 0 0 Q := e_pv am_h129 dX9_house_53 rfl rfl rfl (am_inc_of (ls := [v0, v1, .int x]) (k := 2) rfl c_iconst_6 (am_c1_of (ls := [v0, v1, .int x]) (k := 1) (v := v1) rfl hc))
theorem x129_56 : AW sv 129 56 [v0, v1, v2] r h 0 0 Q = AW sv 129 26 [v0, v1, v2] r h 0 0 Q := e_goto am_h129 dX9_house_56 rfl
theorem x129_59 : AW sv 129 59 [v0, .int x, v2] r h 0 0 Q = AW sv 129 60 [v0, .int x, v2] (.int x :: r) h 0 0 Q := e_pv am_h129 dX9_house_59 rfl rfl rfl rfl
theorem x129_60 : AW sv 129 60 [v0, v1, v2] [.int x] h 0 0 Q = Q (some (.int x)) h := e_iret am_h129 dX9_house_60 rfl ⟨rfl, rfl⟩
theorem n129 : AM sv 129 [.ref a] h Q = AW sv 129 0 [.ref a, .null, .null] [] h 0 0 Q := rfl
theorem x130_0 : AW sv 130 0 [v0, v1, v2, v3] r h 0 0 Q = AW sv 130 1 [v0, v1, v2, v3] (.int (0) :: r) h 0 0 Q := e_iconstv am_h130 dX9_count_0 c_iconst_0
theorem x130_1 (hc : v1.category = 1) : AW sv 130 1 [v0, v1, v2, v3] (.int x :: r) h 0 0 Q = AW sv 130 2 [v0, v1, .int x, v3] r h 0 0 Q := e_pv am_h130 dX9_count_1 rfl rfl rfl (am_sti_of (Nat.le_of_ble_eq_true rfl) (am_c1_of rfl hc))
theorem x130_2 : AW sv 130 2 [v0, v1, v2, v3] r h 0 0 Q = AW sv 130 3 [v0, v1, v2, v3] (.int (0) :: r) h 0 0 Q := e_iconstv am_h130 dX9_count_2 c_iconst_0
theorem x130_3 (hc : v2.category = 1) : AW sv 130 3 [v0, v1, v2, v3] (.int x :: r) h 0 0 Q = AW sv 130 4 [v0, v1, v2, .int x] r h 0 0 Q := e_pv am_h130 dX9_count_3 rfl rfl rfl (am_sti_of (Nat.le_of_ble_eq_true rfl) (am_c1_of rfl hc))
theorem x130_4 : AW sv 130 4 [v0, v1, v2, .int x] r h 0 0 Q = AW sv 130 5 [v0, v1, v2, .int x] (.int x :: r) h 0 0 Q := e_pv am_h130 dX9_count_4 rfl rfl rfl rfl
theorem x130_5 : AW sv 130 5 [v0, v1, v2, v3] r h 0 0 Q = AW sv 130 7 [v0, v1, v2, v3] (.int (16) :: r) h 0 0 Q := e_bipushv am_h130 dX9_count_5 c_bipush_16
theorem x130_7 : AW sv 130 7 [v0, v1, v2, v3] (.int y :: .int x :: r) h 0 0 Q = if y ≤ x then AW sv 130 66 [v0, v1, v2, v3] r h 0 0 Q else AW sv 130 10 [v0, v1, v2, v3] r h 0 0 Q := e_c_ge am_h130 dX9_count_7 rfl
theorem x130_10 : AW sv 130 10 [v0, v1, .int x, v3] r h 0 0 Q = AW sv 130 11 [v0, v1, .int x, v3] (.int x :: r) h 0 0 Q := e_pv am_h130 dX9_count_10 rfl rfl rfl rfl
theorem x130_11 : AW sv 130 11 [v0, .int x, v2, v3] r h 0 0 Q = AW sv 130 12 [v0, .int x, v2, v3] (.int x :: r) h 0 0 Q := e_pv am_h130 dX9_count_11 rfl rfl rfl rfl
theorem x130_12 : AW sv 130 12 [v0, v1, v2, v3] r h 0 0 Q = AW sv 130 13 [v0, v1, v2, v3] (.int (1) :: r) h 0 0 Q := e_iconstv am_h130 dX9_count_12 c_iconst_1
theorem x130_13 : AW sv 130 13 [v0, v1, v2, v3] (.int y :: .int x :: r) h 0 0 Q = if ¬ x = y then AW sv 130 25 [v0, v1, v2, v3] r h 0 0 Q else AW sv 130 16 [v0, v1, v2, v3] r h 0 0 Q := e_c_ne am_h130 dX9_count_13 rfl
theorem x130_16 : AW sv 130 16 [.ref a, v1, v2, v3] r h 0 0 Q = AW sv 130 17 [.ref a, v1, v2, v3] (.ref a :: r) h 0 0 Q := e_pv am_h130 dX9_count_16 rfl rfl rfl rfl
theorem x130_17 : AW sv 130 17 [v0, v1, v2, v3] (.ref 71 :: r) (am_toH σ) 0 0 Q = AW sv 130 20 [v0, v1, v2, v3] (.ref 73 :: r) (am_toH σ) 0 0 Q := e_getR am_h130 dX9_count_17 fl_9_13 is9 rfl
theorem x130_20 : AW sv 130 20 [v0, v1, v2, .int x] r h 0 0 Q = AW sv 130 21 [v0, v1, v2, .int x] (.int x :: r) h 0 0 Q := e_pv am_h130 dX9_count_20 rfl rfl rfl rfl
theorem x130_21 (hi : am_in x (am_ln a) = true) : AW sv 130 21 [v0, v1, v2, v3] (.int x :: .ref a :: r) (am_toH σ) 0 0 Q = AW sv 130 22 [v0, v1, v2, v3] (.int (σ.1 a x.toNatClampNeg) :: r) (am_toH σ) 0 0 Q := e_iald am_h130 dX9_count_21 hi
theorem x130_22 : AW sv 130 22 [v0, v1, v2, v3] (.int x :: r) h 0 0 Q = if 0 < x then AW sv 130 53 [v0, v1, v2, v3] r h 0 0 Q else AW sv 130 25 [v0, v1, v2, v3] r h 0 0 Q := e_z_gt am_h130 dX9_count_22 rfl
theorem x130_25 : AW sv 130 25 [v0, .int x, v2, v3] r h 0 0 Q = AW sv 130 26 [v0, .int x, v2, v3] (.int x :: r) h 0 0 Q := e_pv am_h130 dX9_count_25 rfl rfl rfl rfl
theorem x130_26 : AW sv 130 26 [v0, v1, v2, v3] r h 0 0 Q = AW sv 130 27 [v0, v1, v2, v3] (.int (2) :: r) h 0 0 Q := e_iconstv am_h130 dX9_count_26 c_iconst_2
theorem x130_27 : AW sv 130 27 [v0, v1, v2, v3] (.int y :: .int x :: r) h 0 0 Q = if ¬ x = y then AW sv 130 39 [v0, v1, v2, v3] r h 0 0 Q else AW sv 130 30 [v0, v1, v2, v3] r h 0 0 Q := e_c_ne am_h130 dX9_count_27 rfl
theorem x130_30 : AW sv 130 30 [.ref a, v1, v2, v3] r h 0 0 Q = AW sv 130 31 [.ref a, v1, v2, v3] (.ref a :: r) h 0 0 Q := e_pv am_h130 dX9_count_30 rfl rfl rfl rfl
theorem x130_31 : AW sv 130 31 [v0, v1, v2, v3] (.ref 71 :: r) (am_toH σ) 0 0 Q = AW sv 130 34 [v0, v1, v2, v3] (.ref 72 :: r) (am_toH σ) 0 0 Q := e_getR am_h130 dX9_count_31 fl_9_7 is9 rfl
theorem x130_34 : AW sv 130 34 [v0, v1, v2, .int x] r h 0 0 Q = AW sv 130 35 [v0, v1, v2, .int x] (.int x :: r) h 0 0 Q := e_pv am_h130 dX9_count_34 rfl rfl rfl rfl
theorem x130_35 (hi : am_in x (am_ln a) = true) : AW sv 130 35 [v0, v1, v2, v3] (.int x :: .ref a :: r) (am_toH σ) 0 0 Q = AW sv 130 36 [v0, v1, v2, v3] (.int (σ.1 a x.toNatClampNeg) :: r) (am_toH σ) 0 0 Q := e_iald am_h130 dX9_count_35 hi
theorem x130_36 : AW sv 130 36 [v0, v1, v2, v3] (.int x :: r) h 0 0 Q = if 0 < x then AW sv 130 53 [v0, v1, v2, v3] r h 0 0 Q else AW sv 130 39 [v0, v1, v2, v3] r h 0 0 Q := e_z_gt am_h130 dX9_count_36 rfl
theorem x130_39 : AW sv 130 39 [v0, .int x, v2, v3] r h 0 0 Q = AW sv 130 40 [v0, .int x, v2, v3] (.int x :: r) h 0 0 Q := e_pv am_h130 dX9_count_39 rfl rfl rfl rfl
theorem x130_40 : AW sv 130 40 [v0, v1, v2, v3] r h 0 0 Q = AW sv 130 41 [v0, v1, v2, v3] (.int (3) :: r) h 0 0 Q := e_iconstv am_h130 dX9_count_40 c_iconst_3
theorem x130_41 : AW sv 130 41 [v0, v1, v2, v3] (.int y :: .int x :: r) h 0 0 Q = if ¬ x = y then AW sv 130 57 [v0, v1, v2, v3] r h 0 0 Q else AW sv 130 44 [v0, v1, v2, v3] r h 0 0 Q := e_c_ne am_h130 dX9_count_41 rfl
theorem x130_44 : AW sv 130 44 [.ref a, v1, v2, v3] r h 0 0 Q = AW sv 130 45 [.ref a, v1, v2, v3] (.ref a :: r) h 0 0 Q := e_pv am_h130 dX9_count_44 rfl rfl rfl rfl
theorem x130_45 : AW sv 130 45 [v0, v1, v2, v3] (.ref 71 :: r) (am_toH σ) 0 0 Q = AW sv 130 48 [v0, v1, v2, v3] (.ref 76 :: r) (am_toH σ) 0 0 Q := e_getR am_h130 dX9_count_45 fl_9_22 is9 rfl
theorem x130_48 : AW sv 130 48 [v0, v1, v2, .int x] r h 0 0 Q = AW sv 130 49 [v0, v1, v2, .int x] (.int x :: r) h 0 0 Q := e_pv am_h130 dX9_count_48 rfl rfl rfl rfl
theorem x130_49 (hi : am_in x (am_ln a) = true) : AW sv 130 49 [v0, v1, v2, v3] (.int x :: .ref a :: r) (am_toH σ) 0 0 Q = AW sv 130 50 [v0, v1, v2, v3] (.int (σ.1 a x.toNatClampNeg) :: r) (am_toH σ) 0 0 Q := e_iald am_h130 dX9_count_49 hi
theorem x130_50 : AW sv 130 50 [v0, v1, v2, v3] (.int x :: r) h 0 0 Q = if x ≤ 0 then AW sv 130 57 [v0, v1, v2, v3] r h 0 0 Q else AW sv 130 53 [v0, v1, v2, v3] r h 0 0 Q := e_z_le am_h130 dX9_count_50 rfl
theorem x130_53 : AW sv 130 53 [v0, v1, v2, v3] r h 0 0 Q = AW sv 130 54 [v0, v1, v2, v3] (.int (1) :: r) h 0 0 Q := e_iconstv am_h130 dX9_count_53 c_iconst_1
theorem x130_54 : AW sv 130 54 [v0, v1, v2, v3] r h 0 0 Q = AW sv 130 58 [v0, v1, v2, v3] r h 0 0 Q := e_goto am_h130 dX9_count_54 rfl
theorem x130_57 : AW sv 130 57 [v0, v1, v2, v3] r h 0 0 Q = AW sv 130 58 [v0, v1, v2, v3] (.int (0) :: r) h 0 0 Q := e_iconstv am_h130 dX9_count_57 c_iconst_0
theorem x130_58 : AW sv 130 58 [v0, v1, v2, v3] (.int y :: .int x :: r) h 0 0 Q = AW sv 130 59 [v0, v1, v2, v3] (.int (x + y) :: r) h 0 0 Q := e_iadd am_h130 dX9_count_58
theorem x130_59 (hc : v1.category = 1) : AW sv 130 59 [v0, v1, v2, v3] (.int x :: r) h 0 0 Q = AW sv 130 60 [v0, v1, .int x, v3] r h 0 0 Q := e_pv am_h130 dX9_count_59 rfl rfl rfl (am_sti_of (Nat.le_of_ble_eq_true rfl) (am_c1_of rfl hc))
theorem x130_60 (hc : v2.category = 1) : AW sv 130 60 [v0, v1, v2, .int x] r h 0 0 Q = AW sv 130 63 [v0, v1, v2, .int (x + (1))] r h 0 0 Q := e_pv am_h130 dX9_count_60 rfl rfl rfl (am_inc_of (ls := [v0, v1, v2, .int x]) (k := 3) rfl c_iconst_1 (am_c1_of (ls := [v0, v1, v2, .int x]) (k := 2) (v := v2) rfl hc))
theorem x130_63 : AW sv 130 63 [v0, v1, v2, v3] r h 0 0 Q = AW sv 130 4 [v0, v1, v2, v3] r h 0 0 Q := e_goto am_h130 dX9_count_63 rfl
theorem x130_66 : AW sv 130 66 [v0, .int x, v2, v3] r h 0 0 Q = AW sv 130 67 [v0, .int x, v2, v3] (.int x :: r) h 0 0 Q := e_pv am_h130 dX9_count_66 rfl rfl rfl rfl
theorem x130_67 : AW sv 130 67 [v0, v1, v2, v3] (.int x :: r) h 0 0 Q = AW sv 130 68 [v0, v1, v2, v3] (.long x.toInt64 :: r) h 0 0 Q := e_i2l am_h130 dX9_count_67
theorem x130_68 : AW sv 130 68 [v0, v1, v2, v3] r h 0 0 Q = AW sv 130 69 [v0, v1, v2, v3] (.long (0) :: r) h 0 0 Q := e_lconstv am_h130 dX9_count_68 c_l_0
theorem x130_69 : AW sv 130 69 [v0, v1, v2, v3] r h 0 0 Q = AW sv 130 72 [v0, v1, v2, v3] (.long (5) :: r) h 0 0 Q := e_ldc2 am_h130 dX9_count_69 (by decide +kernel)
theorem x130_72 (h8 : am_cs r ≤ 8) : AW sv 130 72 [v0, v1, v2, v3] (.long u2 :: .long u1 :: .long u0 :: r) h 0 0 Q = AM sv 104 [.long u0, .long u1, .long u2] h (fun v h1 => AW sv 130 75 [v0, v1, v2, v3] (v.toList ++ r) h1 0 0 Q) := e_cS (as := [.long u0, .long u1, .long u2]) am_h130 dX9_count_72 ml_9_70 (by decide) am_h104 rfl rfl rfl ⟨by decide, Nat.le_of_ble_eq_true rfl, am_rc_of (by decide) h8⟩
theorem x130_75 : AW sv 130 75 [v0, v1, v2, v3] (.int x :: r) h 0 0 Q = if ¬ x = 0 then AW sv 130 82 [v0, v1, v2, v3] r h 0 0 Q else AW sv 130 78 [v0, v1, v2, v3] r h 0 0 Q := e_z_ne am_h130 dX9_count_75 rfl
theorem x130_78 : AW sv 130 78 [v0, v1, v2, v3] r h 0 0 Q = AW sv 130 79 [v0, v1, v2, v3] (.int (-1) :: r) h 0 0 Q := e_iconstv am_h130 dX9_count_78 c_iconst_m1
theorem x130_79 : AW sv 130 79 [v0, v1, v2, v3] r h 0 0 Q = AW sv 130 118 [v0, v1, v2, v3] r h 0 0 Q := e_goto am_h130 dX9_count_79 rfl
theorem x130_82 : AW sv 130 82 [v0, .int x, v2, v3] r h 0 0 Q = AW sv 130 83 [v0, .int x, v2, v3] (.int x :: r) h 0 0 Q := e_pv am_h130 dX9_count_82 rfl rfl rfl rfl
theorem x130_83 : AW sv 130 83 [v0, v1, v2, v3] (.int x :: r) h 0 0 Q = if ¬ x = 0 then AW sv 130 93 [v0, v1, v2, v3] r h 0 0 Q else AW sv 130 86 [v0, v1, v2, v3] r h 0 0 Q := e_z_ne am_h130 dX9_count_83 rfl
theorem x130_86 : AW sv 130 86 [.ref a, v1, v2, v3] r h 0 0 Q = AW sv 130 87 [.ref a, v1, v2, v3] (.ref a :: r) h 0 0 Q := e_pv am_h130 dX9_count_86 rfl rfl rfl rfl
theorem x130_87 : AW sv 130 87 [v0, v1, v2, v3] (.ref 71 :: r) (am_toH σ) 0 0 Q = AW sv 130 90 [v0, v1, v2, v3] (.int (σ.1 71 7) :: r) (am_toH σ) 0 0 Q := e_getI am_h130 dX9_count_87 fl_9_76 is9 rfl
theorem x130_90 : AW sv 130 90 [v0, v1, v2, v3] r h 0 0 Q = AW sv 130 118 [v0, v1, v2, v3] r h 0 0 Q := e_goto am_h130 dX9_count_90 rfl
theorem x130_93 : AW sv 130 93 [v0, .int x, v2, v3] r h 0 0 Q = AW sv 130 94 [v0, .int x, v2, v3] (.int x :: r) h 0 0 Q := e_pv am_h130 dX9_count_93 rfl rfl rfl rfl
theorem x130_94 : AW sv 130 94 [v0, v1, v2, v3] r h 0 0 Q = AW sv 130 95 [v0, v1, v2, v3] (.int (4) :: r) h 0 0 Q := e_iconstv am_h130 dX9_count_94 c_iconst_4
theorem x130_95 : AW sv 130 95 [v0, v1, v2, v3] (.int y :: .int x :: r) h 0 0 Q = if ¬ x = y then AW sv 130 105 [v0, v1, v2, v3] r h 0 0 Q else AW sv 130 98 [v0, v1, v2, v3] r h 0 0 Q := e_c_ne am_h130 dX9_count_95 rfl
theorem x130_98 : AW sv 130 98 [.ref a, v1, v2, v3] r h 0 0 Q = AW sv 130 99 [.ref a, v1, v2, v3] (.ref a :: r) h 0 0 Q := e_pv am_h130 dX9_count_98 rfl rfl rfl rfl
theorem x130_99 : AW sv 130 99 [v0, v1, v2, v3] (.ref 71 :: r) (am_toH σ) 0 0 Q = AW sv 130 102 [v0, v1, v2, v3] (.int (σ.1 71 16) :: r) (am_toH σ) 0 0 Q := e_getI am_h130 dX9_count_99 fl_9_163 is9 rfl
theorem x130_102 : AW sv 130 102 [v0, v1, v2, v3] r h 0 0 Q = AW sv 130 118 [v0, v1, v2, v3] r h 0 0 Q := e_goto am_h130 dX9_count_102 rfl
theorem x130_105 : AW sv 130 105 [v0, .int x, v2, v3] r h 0 0 Q = AW sv 130 106 [v0, .int x, v2, v3] (.int x :: r) h 0 0 Q := e_pv am_h130 dX9_count_105 rfl rfl rfl rfl
theorem x130_106 : AW sv 130 106 [v0, v1, v2, v3] r h 0 0 Q = AW sv 130 107 [v0, v1, v2, v3] (.int (5) :: r) h 0 0 Q := e_iconstv am_h130 dX9_count_106 c_iconst_5
theorem x130_107 : AW sv 130 107 [v0, v1, v2, v3] (.int y :: .int x :: r) h 0 0 Q = if ¬ x = y then AW sv 130 117 [v0, v1, v2, v3] r h 0 0 Q else AW sv 130 110 [v0, v1, v2, v3] r h 0 0 Q := e_c_ne am_h130 dX9_count_107 rfl
theorem x130_110 : AW sv 130 110 [.ref a, v1, v2, v3] r h 0 0 Q = AW sv 130 111 [.ref a, v1, v2, v3] (.ref a :: r) h 0 0 Q := e_pv am_h130 dX9_count_110 rfl rfl rfl rfl
theorem x130_111 : AW sv 130 111 [v0, v1, v2, v3] (.ref 71 :: r) (am_toH σ) 0 0 Q = AW sv 130 114 [v0, v1, v2, v3] (.int (σ.1 71 19) :: r) (am_toH σ) 0 0 Q := e_getI am_h130 dX9_count_111 fl_9_166 is9 rfl
theorem x130_114 : AW sv 130 114 [v0, v1, v2, v3] r h 0 0 Q = AW sv 130 118 [v0, v1, v2, v3] r h 0 0 Q := e_goto am_h130 dX9_count_114 rfl
theorem x130_117 : AW sv 130 117 [v0, v1, .int x, v3] r h 0 0 Q = AW sv 130 118 [v0, v1, .int x, v3] (.int x :: r) h 0 0 Q := e_pv am_h130 dX9_count_117 rfl rfl rfl rfl
theorem x130_118 : AW sv 130 118 [v0, v1, v2, v3] [.int x] h 0 0 Q = Q (some (.int x)) h := e_iret am_h130 dX9_count_118 rfl ⟨rfl, rfl⟩
theorem n130 : AM sv 130 [.ref a, .int x0] h Q = AW sv 130 0 [.ref a, .int x0, .null, .null] [] h 0 0 Q := rfl
theorem x131_0 : AW sv 131 0 [v0, .int x, v2, v3, v4, v5, v6, v7] r h 0 0 Q = AW sv 131 1 [v0, .int x, v2, v3, v4, v5, v6, v7] (.int x :: r) h 0 0 Q := e_pv am_h131 dX9_pullOn_0 rfl rfl rfl rfl
theorem x131_1 : AW sv 131 1 [v0, v1, v2, v3, v4, v5, v6, v7] r h 0 0 Q = AW sv 131 2 [v0, v1, v2, v3, v4, v5, v6, v7] (.int (3) :: r) h 0 0 Q := e_iconstv am_h131 dX9_pullOn_1 c_iconst_3
theorem x131_2 : AW sv 131 2 [v0, v1, v2, v3, v4, v5, v6, v7] (.int y :: .int x :: r) h 0 0 Q = if ¬ x = y then AW sv 131 18 [v0, v1, v2, v3, v4, v5, v6, v7] r h 0 0 Q else AW sv 131 5 [v0, v1, v2, v3, v4, v5, v6, v7] r h 0 0 Q := e_c_ne am_h131 dX9_pullOn_2 rfl
theorem x131_5 : AW sv 131 5 [v0, v1, v2, v3, .int x, v5, v6, v7] r h 0 0 Q = AW sv 131 7 [v0, v1, v2, v3, .int x, v5, v6, v7] (.int x :: r) h 0 0 Q := e_pv am_h131 dX9_pullOn_5 rfl rfl rfl rfl
theorem x131_7 : AW sv 131 7 [v0, v1, v2, v3, v4, v5, v6, v7] r h 0 0 Q = AW sv 131 8 [v0, v1, v2, v3, v4, v5, v6, v7] (.int (2) :: r) h 0 0 Q := e_iconstv am_h131 dX9_pullOn_7 c_iconst_2
theorem x131_8 : AW sv 131 8 [v0, v1, v2, v3, v4, v5, v6, v7] (.int y :: .int x :: r) h 0 0 Q = if y ≤ x then AW sv 131 18 [v0, v1, v2, v3, v4, v5, v6, v7] r h 0 0 Q else AW sv 131 11 [v0, v1, v2, v3, v4, v5, v6, v7] r h 0 0 Q := e_c_ge am_h131 dX9_pullOn_8 rfl
theorem x131_11 : AW sv 131 11 [v0, v1, v2, v3, v4, v5, v6, v7] r h 0 0 Q = AW sv 131 12 [v0, v1, v2, v3, v4, v5, v6, v7] (.int (1) :: r) h 0 0 Q := e_iconstv am_h131 dX9_pullOn_11 c_iconst_1
theorem x131_12 : AW sv 131 12 [v0, v1, v2, v3, .int x, v5, v6, v7] r h 0 0 Q = AW sv 131 14 [v0, v1, v2, v3, .int x, v5, v6, v7] (.int x :: r) h 0 0 Q := e_pv am_h131 dX9_pullOn_12 rfl rfl rfl rfl
theorem x131_14 : AW sv 131 14 [v0, v1, v2, v3, v4, v5, v6, v7] (.int y :: .int x :: r) h 0 0 Q = AW sv 131 15 [v0, v1, v2, v3, v4, v5, v6, v7] (.int (x - y) :: r) h 0 0 Q := e_isub am_h131 dX9_pullOn_14
theorem x131_15 : AW sv 131 15 [v0, v1, v2, v3, v4, v5, v6, v7] r h 0 0 Q = AW sv 131 20 [v0, v1, v2, v3, v4, v5, v6, v7] r h 0 0 Q := e_goto am_h131 dX9_pullOn_15 rfl
theorem x131_18 : AW sv 131 18 [v0, v1, v2, v3, .int x, v5, v6, v7] r h 0 0 Q = AW sv 131 20 [v0, v1, v2, v3, .int x, v5, v6, v7] (.int x :: r) h 0 0 Q := e_pv am_h131 dX9_pullOn_18 rfl rfl rfl rfl
theorem x131_20 (hc : v5.category = 1) : AW sv 131 20 [v0, v1, v2, v3, v4, v5, v6, v7] (.int x :: r) h 0 0 Q = AW sv 131 22 [v0, v1, v2, v3, v4, v5, .int x, v7] r h 0 0 Q := e_pv am_h131 dX9_pullOn_20 rfl rfl rfl (am_sti_of (Nat.le_of_ble_eq_true rfl) (am_c1_of rfl hc))
theorem x131_22 : AW sv 131 22 [v0, v1, v2, v3, v4, v5, v6, v7] r h 0 0 Q = AW sv 131 23 [v0, v1, v2, v3, v4, v5, v6, v7] (.int (1) :: r) h 0 0 Q := e_iconstv am_h131 dX9_pullOn_22 c_iconst_1
theorem x131_23 (hc : v6.category = 1) : AW sv 131 23 [v0, v1, v2, v3, v4, v5, v6, v7] (.int x :: r) h 0 0 Q = AW sv 131 25 [v0, v1, v2, v3, v4, v5, v6, .int x] r h 0 0 Q := e_pv am_h131 dX9_pullOn_23 rfl rfl rfl (am_sti_of (Nat.le_of_ble_eq_true rfl) (am_c1_of rfl hc))
theorem x131_25 : AW sv 131 25 [v0, v1, v2, v3, v4, v5, v6, .int x] r h 0 0 Q = AW sv 131 27 [v0, v1, v2, v3, v4, v5, v6, .int x] (.int x :: r) h 0 0 Q := e_pv am_h131 dX9_pullOn_25 rfl rfl rfl rfl
theorem x131_27 : AW sv 131 27 [.ref a, v1, v2, v3, v4, v5, v6, v7] r h 0 0 Q = AW sv 131 28 [.ref a, v1, v2, v3, v4, v5, v6, v7] (.ref a :: r) h 0 0 Q := e_pv am_h131 dX9_pullOn_27 rfl rfl rfl rfl
theorem x131_28 : AW sv 131 28 [v0, v1, v2, v3, v4, v5, v6, v7] (.ref 71 :: r) (am_toH σ) 0 0 Q = AW sv 131 31 [v0, v1, v2, v3, v4, v5, v6, v7] (.ref 72 :: r) (am_toH σ) 0 0 Q := e_getR am_h131 dX9_pullOn_28 fl_9_7 is9 rfl
theorem x131_31 : AW sv 131 31 [v0, v1, v2, .int x, v4, v5, v6, v7] r h 0 0 Q = AW sv 131 32 [v0, v1, v2, .int x, v4, v5, v6, v7] (.int x :: r) h 0 0 Q := e_pv am_h131 dX9_pullOn_31 rfl rfl rfl rfl
theorem x131_32 (hi : am_in x (am_ln a) = true) : AW sv 131 32 [v0, v1, v2, v3, v4, v5, v6, v7] (.int x :: .ref a :: r) (am_toH σ) 0 0 Q = AW sv 131 33 [v0, v1, v2, v3, v4, v5, v6, v7] (.int (σ.1 a x.toNatClampNeg) :: r) (am_toH σ) 0 0 Q := e_iald am_h131 dX9_pullOn_32 hi
theorem x131_33 : AW sv 131 33 [v0, v1, v2, v3, v4, v5, v6, v7] (.int x :: r) h 0 0 Q = if x ≤ 0 then AW sv 131 62 [v0, v1, v2, v3, v4, v5, v6, v7] r h 0 0 Q else AW sv 131 36 [v0, v1, v2, v3, v4, v5, v6, v7] r h 0 0 Q := e_z_le am_h131 dX9_pullOn_33 rfl
theorem x131_36 : AW sv 131 36 [.ref a, v1, v2, v3, v4, v5, v6, v7] r h 0 0 Q = AW sv 131 37 [.ref a, v1, v2, v3, v4, v5, v6, v7] (.ref a :: r) h 0 0 Q := e_pv am_h131 dX9_pullOn_36 rfl rfl rfl rfl
theorem x131_37 : AW sv 131 37 [v0, v1, v2, v3, v4, v5, v6, v7] (.ref 71 :: r) (am_toH σ) 0 0 Q = AW sv 131 40 [v0, v1, v2, v3, v4, v5, v6, v7] (.ref 72 :: r) (am_toH σ) 0 0 Q := e_getR am_h131 dX9_pullOn_37 fl_9_7 is9 rfl
theorem x131_40 : AW sv 131 40 [v0, v1, v2, .int x, v4, v5, v6, v7] r h 0 0 Q = AW sv 131 41 [v0, v1, v2, .int x, v4, v5, v6, v7] (.int x :: r) h 0 0 Q := e_pv am_h131 dX9_pullOn_40 rfl rfl rfl rfl
theorem x131_41 (hi : am_in x (am_ln a) = true) : AW sv 131 41 [v0, v1, v2, v3, v4, v5, v6, v7] (.int x :: .ref a :: r) (am_toH σ) 0 0 Q = AW sv 131 42 [v0, v1, v2, v3, v4, v5, v6, v7] (.int (σ.1 a x.toNatClampNeg) :: r) (am_toH σ) 0 0 Q := e_iald am_h131 dX9_pullOn_41 hi
theorem x131_42 : AW sv 131 42 [v0, v1, v2, v3, v4, v5, v6, v7] r h 0 0 Q = AW sv 131 44 [v0, v1, v2, v3, v4, v5, v6, v7] (.int (10) :: r) h 0 0 Q := e_bipushv am_h131 dX9_pullOn_42 c_bipush_10
theorem x131_44 (hy : ¬ y = 0) : AW sv 131 44 [v0, v1, v2, v3, v4, v5, v6, v7] (.int y :: .int x :: r) h 0 0 Q = AW sv 131 45 [v0, v1, v2, v3, v4, v5, v6, v7] (.int (x / y) :: r) h 0 0 Q := e_idiv am_h131 dX9_pullOn_44 hy
theorem x131_45 : AW sv 131 45 [v0, v1, v2, v3, v4, v5, .int x, v7] r h 0 0 Q = AW sv 131 47 [v0, v1, v2, v3, v4, v5, .int x, v7] (.int x :: r) h 0 0 Q := e_pv am_h131 dX9_pullOn_45 rfl rfl rfl rfl
theorem x131_47 : AW sv 131 47 [v0, v1, v2, v3, v4, v5, v6, v7] (.int y :: .int x :: r) h 0 0 Q = if ¬ x = y then AW sv 131 62 [v0, v1, v2, v3, v4, v5, v6, v7] r h 0 0 Q else AW sv 131 50 [v0, v1, v2, v3, v4, v5, v6, v7] r h 0 0 Q := e_c_ne am_h131 dX9_pullOn_47 rfl
theorem x131_50 : AW sv 131 50 [.ref a, v1, v2, v3, v4, v5, v6, v7] r h 0 0 Q = AW sv 131 51 [.ref a, v1, v2, v3, v4, v5, v6, v7] (.ref a :: r) h 0 0 Q := e_pv am_h131 dX9_pullOn_50 rfl rfl rfl rfl
theorem x131_51 : AW sv 131 51 [v0, v1, v2, v3, v4, v5, v6, v7] (.ref 71 :: r) (am_toH σ) 0 0 Q = AW sv 131 54 [v0, v1, v2, v3, v4, v5, v6, v7] (.ref 72 :: r) (am_toH σ) 0 0 Q := e_getR am_h131 dX9_pullOn_51 fl_9_7 is9 rfl
theorem x131_54 : AW sv 131 54 [v0, v1, v2, .int x, v4, v5, v6, v7] r h 0 0 Q = AW sv 131 55 [v0, v1, v2, .int x, v4, v5, v6, v7] (.int x :: r) h 0 0 Q := e_pv am_h131 dX9_pullOn_54 rfl rfl rfl rfl
theorem x131_55 (hi : am_in x (am_ln a) = true) : AW sv 131 55 [v0, v1, v2, v3, v4, v5, v6, v7] (.int x :: .ref a :: r) (am_toH σ) 0 0 Q = AW sv 131 56 [v0, v1, v2, v3, v4, v5, v6, v7] (.int (σ.1 a x.toNatClampNeg) :: r) (am_toH σ) 0 0 Q := e_iald am_h131 dX9_pullOn_55 hi
theorem x131_56 : AW sv 131 56 [v0, v1, v2, v3, v4, v5, v6, v7] r h 0 0 Q = AW sv 131 58 [v0, v1, v2, v3, v4, v5, v6, v7] (.int (10) :: r) h 0 0 Q := e_bipushv am_h131 dX9_pullOn_56 c_bipush_10
theorem x131_58 (hy : ¬ y = 0) : AW sv 131 58 [v0, v1, v2, v3, v4, v5, v6, v7] (.int y :: .int x :: r) h 0 0 Q = AW sv 131 59 [v0, v1, v2, v3, v4, v5, v6, v7] (.int (x - x / y * y) :: r) h 0 0 Q := e_irem am_h131 dX9_pullOn_58 hy
theorem x131_59 : AW sv 131 59 [v0, v1, v2, v3, v4, v5, v6, v7] r h 0 0 Q = AW sv 131 63 [v0, v1, v2, v3, v4, v5, v6, v7] r h 0 0 Q := e_goto am_h131 dX9_pullOn_59 rfl
theorem x131_62 : AW sv 131 62 [v0, v1, v2, v3, v4, v5, v6, v7] r h 0 0 Q = AW sv 131 63 [v0, v1, v2, v3, v4, v5, v6, v7] (.int (0) :: r) h 0 0 Q := e_iconstv am_h131 dX9_pullOn_62 c_iconst_0
theorem x131_63 : AW sv 131 63 [v0, v1, v2, v3, v4, v5, v6, v7] (.int y :: .int x :: r) h 0 0 Q = AW sv 131 64 [v0, v1, v2, v3, v4, v5, v6, v7] (.int (x + y) :: r) h 0 0 Q := e_iadd am_h131 dX9_pullOn_63
theorem x131_64 (hc : v6.category = 1) : AW sv 131 64 [v0, v1, v2, v3, v4, v5, v6, v7] (.int x :: r) h 0 0 Q = AW sv 131 66 [v0, v1, v2, v3, v4, v5, v6, .int x] r h 0 0 Q := e_pv am_h131 dX9_pullOn_64 rfl rfl rfl (am_sti_of (Nat.le_of_ble_eq_true rfl) (am_c1_of rfl hc))
theorem x131_66 : AW sv 131 66 [v0, v1, v2, v3, v4, v5, v6, .int x] r h 0 0 Q = AW sv 131 68 [v0, v1, v2, v3, v4, v5, v6, .int x] (.int x :: r) h 0 0 Q := e_pv am_h131 dX9_pullOn_66 rfl rfl rfl rfl
theorem x131_68 : AW sv 131 68 [.ref a, v1, v2, v3, v4, v5, v6, v7] r h 0 0 Q = AW sv 131 69 [.ref a, v1, v2, v3, v4, v5, v6, v7] (.ref a :: r) h 0 0 Q := e_pv am_h131 dX9_pullOn_68 rfl rfl rfl rfl
theorem x131_69 : AW sv 131 69 [v0, v1, v2, v3, v4, v5, v6, v7] (.ref 71 :: r) (am_toH σ) 0 0 Q = AW sv 131 72 [v0, v1, v2, v3, v4, v5, v6, v7] (.ref 74 :: r) (am_toH σ) 0 0 Q := e_getR am_h131 dX9_pullOn_69 fl_9_16 is9 rfl
theorem x131_72 : AW sv 131 72 [v0, v1, v2, .int x, v4, v5, v6, v7] r h 0 0 Q = AW sv 131 73 [v0, v1, v2, .int x, v4, v5, v6, v7] (.int x :: r) h 0 0 Q := e_pv am_h131 dX9_pullOn_72 rfl rfl rfl rfl
theorem x131_73 (hi : am_in x (am_ln a) = true) : AW sv 131 73 [v0, v1, v2, v3, v4, v5, v6, v7] (.int x :: .ref a :: r) (am_toH σ) 0 0 Q = AW sv 131 74 [v0, v1, v2, v3, v4, v5, v6, v7] (.int (σ.1 a x.toNatClampNeg) :: r) (am_toH σ) 0 0 Q := e_iald am_h131 dX9_pullOn_73 hi
theorem x131_74 : AW sv 131 74 [v0, v1, v2, v3, v4, v5, .int x, v7] r h 0 0 Q = AW sv 131 76 [v0, v1, v2, v3, v4, v5, .int x, v7] (.int x :: r) h 0 0 Q := e_pv am_h131 dX9_pullOn_74 rfl rfl rfl rfl
theorem x131_76 : AW sv 131 76 [v0, v1, v2, v3, v4, v5, v6, v7] (.int y :: .int x :: r) h 0 0 Q = if ¬ x = y then AW sv 131 88 [v0, v1, v2, v3, v4, v5, v6, v7] r h 0 0 Q else AW sv 131 79 [v0, v1, v2, v3, v4, v5, v6, v7] r h 0 0 Q := e_c_ne am_h131 dX9_pullOn_76 rfl
theorem x131_79 : AW sv 131 79 [.ref a, v1, v2, v3, v4, v5, v6, v7] r h 0 0 Q = AW sv 131 80 [.ref a, v1, v2, v3, v4, v5, v6, v7] (.ref a :: r) h 0 0 Q := e_pv am_h131 dX9_pullOn_79 rfl rfl rfl rfl
theorem x131_80 : AW sv 131 80 [v0, v1, v2, v3, v4, v5, v6, v7] (.ref 71 :: r) (am_toH σ) 0 0 Q = AW sv 131 83 [v0, v1, v2, v3, v4, v5, v6, v7] (.ref 77 :: r) (am_toH σ) 0 0 Q := e_getR am_h131 dX9_pullOn_80 fl_9_25 is9 rfl
theorem x131_83 : AW sv 131 83 [v0, v1, v2, v3, v4, v5, v6, v7] r h 0 0 Q = AW sv 131 84 [v0, v1, v2, v3, v4, v5, v6, v7] (.int (0) :: r) h 0 0 Q := e_iconstv am_h131 dX9_pullOn_83 c_iconst_0
theorem x131_84 (hi : am_in x (am_ln a) = true) : AW sv 131 84 [v0, v1, v2, v3, v4, v5, v6, v7] (.int x :: .ref a :: r) (am_toH σ) 0 0 Q = AW sv 131 85 [v0, v1, v2, v3, v4, v5, v6, v7] (.int (σ.1 a x.toNatClampNeg) :: r) (am_toH σ) 0 0 Q := e_iald am_h131 dX9_pullOn_84 hi
theorem x131_85 : AW sv 131 85 [v0, v1, v2, v3, v4, v5, v6, v7] r h 0 0 Q = AW sv 131 89 [v0, v1, v2, v3, v4, v5, v6, v7] r h 0 0 Q := e_goto am_h131 dX9_pullOn_85 rfl
theorem x131_88 : AW sv 131 88 [v0, v1, v2, v3, v4, v5, v6, v7] r h 0 0 Q = AW sv 131 89 [v0, v1, v2, v3, v4, v5, v6, v7] (.int (0) :: r) h 0 0 Q := e_iconstv am_h131 dX9_pullOn_88 c_iconst_0
theorem x131_89 : AW sv 131 89 [v0, v1, v2, v3, v4, v5, v6, v7] (.int y :: .int x :: r) h 0 0 Q = AW sv 131 90 [v0, v1, v2, v3, v4, v5, v6, v7] (.int (x + y) :: r) h 0 0 Q := e_iadd am_h131 dX9_pullOn_89
theorem x131_90 (hc : v6.category = 1) : AW sv 131 90 [v0, v1, v2, v3, v4, v5, v6, v7] (.int x :: r) h 0 0 Q = AW sv 131 92 [v0, v1, v2, v3, v4, v5, v6, .int x] r h 0 0 Q := e_pv am_h131 dX9_pullOn_90 rfl rfl rfl (am_sti_of (Nat.le_of_ble_eq_true rfl) (am_c1_of rfl hc))
theorem x131_92 : AW sv 131 92 [v0, v1, v2, v3, v4, v5, v6, .int x] r h 0 0 Q = AW sv 131 94 [v0, v1, v2, v3, v4, v5, v6, .int x] (.int x :: r) h 0 0 Q := e_pv am_h131 dX9_pullOn_92 rfl rfl rfl rfl
theorem x131_94 : AW sv 131 94 [.ref a, v1, v2, v3, v4, v5, v6, v7] r h 0 0 Q = AW sv 131 95 [.ref a, v1, v2, v3, v4, v5, v6, v7] (.ref a :: r) h 0 0 Q := e_pv am_h131 dX9_pullOn_94 rfl rfl rfl rfl
theorem x131_95 : AW sv 131 95 [v0, v1, v2, v3, v4, v5, v6, v7] (.ref 71 :: r) (am_toH σ) 0 0 Q = AW sv 131 98 [v0, v1, v2, v3, v4, v5, v6, v7] (.ref 75 :: r) (am_toH σ) 0 0 Q := e_getR am_h131 dX9_pullOn_95 fl_9_19 is9 rfl
theorem x131_98 : AW sv 131 98 [v0, v1, v2, .int x, v4, v5, v6, v7] r h 0 0 Q = AW sv 131 99 [v0, v1, v2, .int x, v4, v5, v6, v7] (.int x :: r) h 0 0 Q := e_pv am_h131 dX9_pullOn_98 rfl rfl rfl rfl
theorem x131_99 (hi : am_in x (am_ln a) = true) : AW sv 131 99 [v0, v1, v2, v3, v4, v5, v6, v7] (.int x :: .ref a :: r) (am_toH σ) 0 0 Q = AW sv 131 100 [v0, v1, v2, v3, v4, v5, v6, v7] (.int (σ.1 a x.toNatClampNeg) :: r) (am_toH σ) 0 0 Q := e_iald am_h131 dX9_pullOn_99 hi
theorem x131_100 : AW sv 131 100 [v0, v1, v2, v3, v4, v5, .int x, v7] r h 0 0 Q = AW sv 131 102 [v0, v1, v2, v3, v4, v5, .int x, v7] (.int x :: r) h 0 0 Q := e_pv am_h131 dX9_pullOn_100 rfl rfl rfl rfl
theorem x131_102 : AW sv 131 102 [v0, v1, v2, v3, v4, v5, v6, v7] (.int y :: .int x :: r) h 0 0 Q = if ¬ x = y then AW sv 131 119 [v0, v1, v2, v3, v4, v5, v6, v7] r h 0 0 Q else AW sv 131 105 [v0, v1, v2, v3, v4, v5, v6, v7] r h 0 0 Q := e_c_ne am_h131 dX9_pullOn_102 rfl
theorem x131_105 : AW sv 131 105 [v0, .int x, v2, v3, v4, v5, v6, v7] r h 0 0 Q = AW sv 131 106 [v0, .int x, v2, v3, v4, v5, v6, v7] (.int x :: r) h 0 0 Q := e_pv am_h131 dX9_pullOn_105 rfl rfl rfl rfl
theorem x131_106 : AW sv 131 106 [v0, v1, v2, v3, v4, v5, v6, v7] r h 0 0 Q = AW sv 131 107 [v0, v1, v2, v3, v4, v5, v6, v7] (.int (2) :: r) h 0 0 Q := e_iconstv am_h131 dX9_pullOn_106 c_iconst_2
theorem x131_107 : AW sv 131 107 [v0, v1, v2, v3, v4, v5, v6, v7] (.int y :: .int x :: r) h 0 0 Q = if x = y then AW sv 131 119 [v0, v1, v2, v3, v4, v5, v6, v7] r h 0 0 Q else AW sv 131 110 [v0, v1, v2, v3, v4, v5, v6, v7] r h 0 0 Q := e_c_eq am_h131 dX9_pullOn_107 rfl
theorem x131_110 : AW sv 131 110 [.ref a, v1, v2, v3, v4, v5, v6, v7] r h 0 0 Q = AW sv 131 111 [.ref a, v1, v2, v3, v4, v5, v6, v7] (.ref a :: r) h 0 0 Q := e_pv am_h131 dX9_pullOn_110 rfl rfl rfl rfl
theorem x131_111 : AW sv 131 111 [v0, v1, v2, v3, v4, v5, v6, v7] (.ref 71 :: r) (am_toH σ) 0 0 Q = AW sv 131 114 [v0, v1, v2, v3, v4, v5, v6, v7] (.ref 77 :: r) (am_toH σ) 0 0 Q := e_getR am_h131 dX9_pullOn_111 fl_9_25 is9 rfl
theorem x131_114 : AW sv 131 114 [v0, v1, v2, v3, v4, v5, v6, v7] r h 0 0 Q = AW sv 131 115 [v0, v1, v2, v3, v4, v5, v6, v7] (.int (1) :: r) h 0 0 Q := e_iconstv am_h131 dX9_pullOn_114 c_iconst_1
theorem x131_115 (hi : am_in x (am_ln a) = true) : AW sv 131 115 [v0, v1, v2, v3, v4, v5, v6, v7] (.int x :: .ref a :: r) (am_toH σ) 0 0 Q = AW sv 131 116 [v0, v1, v2, v3, v4, v5, v6, v7] (.int (σ.1 a x.toNatClampNeg) :: r) (am_toH σ) 0 0 Q := e_iald am_h131 dX9_pullOn_115 hi
theorem x131_116 : AW sv 131 116 [v0, v1, v2, v3, v4, v5, v6, v7] r h 0 0 Q = AW sv 131 120 [v0, v1, v2, v3, v4, v5, v6, v7] r h 0 0 Q := e_goto am_h131 dX9_pullOn_116 rfl
theorem x131_119 : AW sv 131 119 [v0, v1, v2, v3, v4, v5, v6, v7] r h 0 0 Q = AW sv 131 120 [v0, v1, v2, v3, v4, v5, v6, v7] (.int (0) :: r) h 0 0 Q := e_iconstv am_h131 dX9_pullOn_119 c_iconst_0
theorem x131_120 : AW sv 131 120 [v0, v1, v2, v3, v4, v5, v6, v7] (.int y :: .int x :: r) h 0 0 Q = AW sv 131 121 [v0, v1, v2, v3, v4, v5, v6, v7] (.int (x + y) :: r) h 0 0 Q := e_iadd am_h131 dX9_pullOn_120
theorem x131_121 (hc : v6.category = 1) : AW sv 131 121 [v0, v1, v2, v3, v4, v5, v6, v7] (.int x :: r) h 0 0 Q = AW sv 131 123 [v0, v1, v2, v3, v4, v5, v6, .int x] r h 0 0 Q := e_pv am_h131 dX9_pullOn_121 rfl rfl rfl (am_sti_of (Nat.le_of_ble_eq_true rfl) (am_c1_of rfl hc))
theorem x131_123 : AW sv 131 123 [v0, v1, v2, v3, v4, v5, v6, .int x] r h 0 0 Q = AW sv 131 125 [v0, v1, v2, v3, v4, v5, v6, .int x] (.int x :: r) h 0 0 Q := e_pv am_h131 dX9_pullOn_123 rfl rfl rfl rfl
theorem x131_125 : AW sv 131 125 [v0, .int x, v2, v3, v4, v5, v6, v7] r h 0 0 Q = AW sv 131 126 [v0, .int x, v2, v3, v4, v5, v6, v7] (.int x :: r) h 0 0 Q := e_pv am_h131 dX9_pullOn_125 rfl rfl rfl rfl
theorem x131_126 : AW sv 131 126 [v0, v1, v2, v3, v4, v5, v6, v7] r h 0 0 Q = AW sv 131 127 [v0, v1, v2, v3, v4, v5, v6, v7] (.int (1) :: r) h 0 0 Q := e_iconstv am_h131 dX9_pullOn_126 c_iconst_1
theorem x131_127 : AW sv 131 127 [v0, v1, v2, v3, v4, v5, v6, v7] (.int y :: .int x :: r) h 0 0 Q = if ¬ x = y then AW sv 131 151 [v0, v1, v2, v3, v4, v5, v6, v7] r h 0 0 Q else AW sv 131 130 [v0, v1, v2, v3, v4, v5, v6, v7] r h 0 0 Q := e_c_ne am_h131 dX9_pullOn_127 rfl
theorem x131_130 : AW sv 131 130 [v0, v1, v2, v3, v4, v5, .int x, v7] r h 0 0 Q = AW sv 131 132 [v0, v1, v2, v3, v4, v5, .int x, v7] (.int x :: r) h 0 0 Q := e_pv am_h131 dX9_pullOn_130 rfl rfl rfl rfl
theorem x131_132 : AW sv 131 132 [v0, v1, v2, v3, v4, v5, v6, v7] r h 0 0 Q = AW sv 131 133 [v0, v1, v2, v3, v4, v5, v6, v7] (.int (2) :: r) h 0 0 Q := e_iconstv am_h131 dX9_pullOn_132 c_iconst_2
theorem x131_133 : AW sv 131 133 [v0, v1, v2, v3, v4, v5, v6, v7] (.int y :: .int x :: r) h 0 0 Q = if y ≤ x then AW sv 131 151 [v0, v1, v2, v3, v4, v5, v6, v7] r h 0 0 Q else AW sv 131 136 [v0, v1, v2, v3, v4, v5, v6, v7] r h 0 0 Q := e_c_ge am_h131 dX9_pullOn_133 rfl
theorem x131_136 : AW sv 131 136 [.ref a, v1, v2, v3, v4, v5, v6, v7] r h 0 0 Q = AW sv 131 137 [.ref a, v1, v2, v3, v4, v5, v6, v7] (.ref a :: r) h 0 0 Q := e_pv am_h131 dX9_pullOn_136 rfl rfl rfl rfl
theorem x131_137 : AW sv 131 137 [v0, v1, v2, v3, v4, v5, v6, v7] (.ref 71 :: r) (am_toH σ) 0 0 Q = AW sv 131 140 [v0, v1, v2, v3, v4, v5, v6, v7] (.ref 74 :: r) (am_toH σ) 0 0 Q := e_getR am_h131 dX9_pullOn_137 fl_9_16 is9 rfl
theorem x131_140 : AW sv 131 140 [v0, v1, v2, .int x, v4, v5, v6, v7] r h 0 0 Q = AW sv 131 141 [v0, v1, v2, .int x, v4, v5, v6, v7] (.int x :: r) h 0 0 Q := e_pv am_h131 dX9_pullOn_140 rfl rfl rfl rfl
theorem x131_141 (hi : am_in x (am_ln a) = true) : AW sv 131 141 [v0, v1, v2, v3, v4, v5, v6, v7] (.int x :: .ref a :: r) (am_toH σ) 0 0 Q = AW sv 131 142 [v0, v1, v2, v3, v4, v5, v6, v7] (.int (σ.1 a x.toNatClampNeg) :: r) (am_toH σ) 0 0 Q := e_iald am_h131 dX9_pullOn_141 hi
theorem x131_142 : AW sv 131 142 [v0, v1, v2, v3, v4, v5, .int x, v7] r h 0 0 Q = AW sv 131 144 [v0, v1, v2, v3, v4, v5, .int x, v7] (.int x :: r) h 0 0 Q := e_pv am_h131 dX9_pullOn_142 rfl rfl rfl rfl
theorem x131_144 : AW sv 131 144 [v0, v1, v2, v3, v4, v5, v6, v7] (.int y :: .int x :: r) h 0 0 Q = if x = y then AW sv 131 151 [v0, v1, v2, v3, v4, v5, v6, v7] r h 0 0 Q else AW sv 131 147 [v0, v1, v2, v3, v4, v5, v6, v7] r h 0 0 Q := e_c_eq am_h131 dX9_pullOn_144 rfl
theorem x131_147 : AW sv 131 147 [v0, v1, .int x, v3, v4, v5, v6, v7] r h 0 0 Q = AW sv 131 148 [v0, v1, .int x, v3, v4, v5, v6, v7] (.int x :: r) h 0 0 Q := e_pv am_h131 dX9_pullOn_147 rfl rfl rfl rfl
theorem x131_148 : AW sv 131 148 [v0, v1, v2, v3, v4, v5, v6, v7] r h 0 0 Q = AW sv 131 152 [v0, v1, v2, v3, v4, v5, v6, v7] r h 0 0 Q := e_goto am_h131 dX9_pullOn_148 rfl
theorem x131_151 : AW sv 131 151 [v0, v1, v2, v3, v4, v5, v6, v7] r h 0 0 Q = AW sv 131 152 [v0, v1, v2, v3, v4, v5, v6, v7] (.int (0) :: r) h 0 0 Q := e_iconstv am_h131 dX9_pullOn_151 c_iconst_0
theorem x131_152 : AW sv 131 152 [v0, v1, v2, v3, v4, v5, v6, v7] (.int y :: .int x :: r) h 0 0 Q = AW sv 131 153 [v0, v1, v2, v3, v4, v5, v6, v7] (.int (x + y) :: r) h 0 0 Q := e_iadd am_h131 dX9_pullOn_152
theorem x131_153 (hc : v6.category = 1) : AW sv 131 153 [v0, v1, v2, v3, v4, v5, v6, v7] (.int x :: r) h 0 0 Q = AW sv 131 155 [v0, v1, v2, v3, v4, v5, v6, .int x] r h 0 0 Q := e_pv am_h131 dX9_pullOn_153 rfl rfl rfl (am_sti_of (Nat.le_of_ble_eq_true rfl) (am_c1_of rfl hc))
theorem x131_155 : AW sv 131 155 [v0, v1, v2, v3, v4, v5, v6, .int x] r h 0 0 Q = AW sv 131 157 [v0, v1, v2, v3, v4, v5, v6, .int x] (.int x :: r) h 0 0 Q := e_pv am_h131 dX9_pullOn_155 rfl rfl rfl rfl
theorem x131_157 : AW sv 131 157 [.ref a, v1, v2, v3, v4, v5, v6, v7] r h 0 0 Q = AW sv 131 158 [.ref a, v1, v2, v3, v4, v5, v6, v7] (.ref a :: r) h 0 0 Q := e_pv am_h131 dX9_pullOn_157 rfl rfl rfl rfl
theorem x131_158 : AW sv 131 158 [v0, v1, v2, v3, v4, v5, v6, v7] (.ref 71 :: r) (am_toH σ) 0 0 Q = AW sv 131 161 [v0, v1, v2, v3, v4, v5, v6, v7] (.ref 73 :: r) (am_toH σ) 0 0 Q := e_getR am_h131 dX9_pullOn_158 fl_9_13 is9 rfl
theorem x131_161 : AW sv 131 161 [v0, v1, v2, .int x, v4, v5, v6, v7] r h 0 0 Q = AW sv 131 162 [v0, v1, v2, .int x, v4, v5, v6, v7] (.int x :: r) h 0 0 Q := e_pv am_h131 dX9_pullOn_161 rfl rfl rfl rfl
theorem x131_162 (hi : am_in x (am_ln a) = true) : AW sv 131 162 [v0, v1, v2, v3, v4, v5, v6, v7] (.int x :: .ref a :: r) (am_toH σ) 0 0 Q = AW sv 131 163 [v0, v1, v2, v3, v4, v5, v6, v7] (.int (σ.1 a x.toNatClampNeg) :: r) (am_toH σ) 0 0 Q := e_iald am_h131 dX9_pullOn_162 hi
theorem x131_163 : AW sv 131 163 [v0, v1, v2, v3, v4, v5, v6, v7] (.int x :: r) h 0 0 Q = if x ≤ 0 then AW sv 131 194 [v0, v1, v2, v3, v4, v5, v6, v7] r h 0 0 Q else AW sv 131 166 [v0, v1, v2, v3, v4, v5, v6, v7] r h 0 0 Q := e_z_le am_h131 dX9_pullOn_163 rfl
theorem x131_166 : AW sv 131 166 [.ref a, v1, v2, v3, v4, v5, v6, v7] r h 0 0 Q = AW sv 131 167 [.ref a, v1, v2, v3, v4, v5, v6, v7] (.ref a :: r) h 0 0 Q := e_pv am_h131 dX9_pullOn_166 rfl rfl rfl rfl
theorem x131_167 : AW sv 131 167 [v0, v1, v2, v3, v4, v5, v6, v7] (.ref 71 :: r) (am_toH σ) 0 0 Q = AW sv 131 170 [v0, v1, v2, v3, v4, v5, v6, v7] (.ref 73 :: r) (am_toH σ) 0 0 Q := e_getR am_h131 dX9_pullOn_167 fl_9_13 is9 rfl
theorem x131_170 : AW sv 131 170 [v0, v1, v2, .int x, v4, v5, v6, v7] r h 0 0 Q = AW sv 131 171 [v0, v1, v2, .int x, v4, v5, v6, v7] (.int x :: r) h 0 0 Q := e_pv am_h131 dX9_pullOn_170 rfl rfl rfl rfl
theorem x131_171 (hi : am_in x (am_ln a) = true) : AW sv 131 171 [v0, v1, v2, v3, v4, v5, v6, v7] (.int x :: .ref a :: r) (am_toH σ) 0 0 Q = AW sv 131 172 [v0, v1, v2, v3, v4, v5, v6, v7] (.int (σ.1 a x.toNatClampNeg) :: r) (am_toH σ) 0 0 Q := e_iald am_h131 dX9_pullOn_171 hi
theorem x131_172 : AW sv 131 172 [v0, v1, v2, v3, v4, v5, v6, v7] r h 0 0 Q = AW sv 131 174 [v0, v1, v2, v3, v4, v5, v6, v7] (.int (10) :: r) h 0 0 Q := e_bipushv am_h131 dX9_pullOn_172 c_bipush_10
theorem x131_174 (hy : ¬ y = 0) : AW sv 131 174 [v0, v1, v2, v3, v4, v5, v6, v7] (.int y :: .int x :: r) h 0 0 Q = AW sv 131 175 [v0, v1, v2, v3, v4, v5, v6, v7] (.int (x / y) :: r) h 0 0 Q := e_idiv am_h131 dX9_pullOn_174 hy
theorem x131_175 : AW sv 131 175 [v0, v1, v2, v3, .int x, v5, v6, v7] r h 0 0 Q = AW sv 131 177 [v0, v1, v2, v3, .int x, v5, v6, v7] (.int x :: r) h 0 0 Q := e_pv am_h131 dX9_pullOn_175 rfl rfl rfl rfl
theorem x131_177 : AW sv 131 177 [v0, v1, v2, v3, v4, v5, v6, v7] (.int y :: .int x :: r) h 0 0 Q = if ¬ x = y then AW sv 131 194 [v0, v1, v2, v3, v4, v5, v6, v7] r h 0 0 Q else AW sv 131 180 [v0, v1, v2, v3, v4, v5, v6, v7] r h 0 0 Q := e_c_ne am_h131 dX9_pullOn_177 rfl
theorem x131_180 : AW sv 131 180 [.ref a, v1, v2, v3, v4, v5, v6, v7] r h 0 0 Q = AW sv 131 181 [.ref a, v1, v2, v3, v4, v5, v6, v7] (.ref a :: r) h 0 0 Q := e_pv am_h131 dX9_pullOn_180 rfl rfl rfl rfl
theorem x131_181 : AW sv 131 181 [v0, v1, v2, v3, v4, v5, v6, v7] (.ref 71 :: r) (am_toH σ) 0 0 Q = AW sv 131 184 [v0, v1, v2, v3, v4, v5, v6, v7] (.ref 77 :: r) (am_toH σ) 0 0 Q := e_getR am_h131 dX9_pullOn_181 fl_9_25 is9 rfl
theorem x131_184 : AW sv 131 184 [v0, v1, v2, v3, v4, v5, v6, v7] r h 0 0 Q = AW sv 131 185 [v0, v1, v2, v3, v4, v5, v6, v7] (.int (3) :: r) h 0 0 Q := e_iconstv am_h131 dX9_pullOn_184 c_iconst_3
theorem x131_185 (hi : am_in x (am_ln a) = true) : AW sv 131 185 [v0, v1, v2, v3, v4, v5, v6, v7] (.int x :: .ref a :: r) (am_toH σ) 0 0 Q = AW sv 131 186 [v0, v1, v2, v3, v4, v5, v6, v7] (.int (σ.1 a x.toNatClampNeg) :: r) (am_toH σ) 0 0 Q := e_iald am_h131 dX9_pullOn_185 hi
theorem x131_186 : AW sv 131 186 [v0, v1, v2, v3, v4, .int x, v6, v7] r h 0 0 Q = AW sv 131 188 [v0, v1, v2, v3, v4, .int x, v6, v7] (.int x :: r) h 0 0 Q := e_pv am_h131 dX9_pullOn_186 rfl rfl rfl rfl
theorem x131_188 : AW sv 131 188 [v0, v1, v2, v3, v4, v5, v6, v7] r h 0 0 Q = AW sv 131 189 [v0, v1, v2, v3, v4, v5, v6, v7] (.int (1) :: r) h 0 0 Q := e_iconstv am_h131 dX9_pullOn_188 c_iconst_1
theorem x131_189 : AW sv 131 189 [v0, v1, v2, v3, v4, v5, v6, v7] (.int y :: .int x :: r) h 0 0 Q = AW sv 131 190 [v0, v1, v2, v3, v4, v5, v6, v7] (.int (x - y) :: r) h 0 0 Q := e_isub am_h131 dX9_pullOn_189
theorem x131_190 : AW sv 131 190 [v0, v1, v2, v3, v4, v5, v6, v7] (.int y :: .int x :: r) h 0 0 Q = AW sv 131 191 [v0, v1, v2, v3, v4, v5, v6, v7] (.int (x * y) :: r) h 0 0 Q := e_imul am_h131 dX9_pullOn_190
theorem x131_191 : AW sv 131 191 [v0, v1, v2, v3, v4, v5, v6, v7] r h 0 0 Q = AW sv 131 195 [v0, v1, v2, v3, v4, v5, v6, v7] r h 0 0 Q := e_goto am_h131 dX9_pullOn_191 rfl
theorem x131_194 : AW sv 131 194 [v0, v1, v2, v3, v4, v5, v6, v7] r h 0 0 Q = AW sv 131 195 [v0, v1, v2, v3, v4, v5, v6, v7] (.int (0) :: r) h 0 0 Q := e_iconstv am_h131 dX9_pullOn_194 c_iconst_0
theorem x131_195 : AW sv 131 195 [v0, v1, v2, v3, v4, v5, v6, v7] (.int y :: .int x :: r) h 0 0 Q = AW sv 131 196 [v0, v1, v2, v3, v4, v5, v6, v7] (.int (x + y) :: r) h 0 0 Q := e_iadd am_h131 dX9_pullOn_195
theorem x131_196 (hc : v6.category = 1) : AW sv 131 196 [v0, v1, v2, v3, v4, v5, v6, v7] (.int x :: r) h 0 0 Q = AW sv 131 198 [v0, v1, v2, v3, v4, v5, v6, .int x] r h 0 0 Q := e_pv am_h131 dX9_pullOn_196 rfl rfl rfl (am_sti_of (Nat.le_of_ble_eq_true rfl) (am_c1_of rfl hc))
theorem x131_198 : AW sv 131 198 [v0, v1, v2, v3, v4, v5, v6, .int x] r h 0 0 Q = AW sv 131 200 [v0, v1, v2, v3, v4, v5, v6, .int x] (.int x :: r) h 0 0 Q := e_pv am_h131 dX9_pullOn_198 rfl rfl rfl rfl
theorem x131_200 : AW sv 131 200 [v0, v1, v2, v3, v4, v5, v6, v7] [.int x] h 0 0 Q = Q (some (.int x)) h := e_iret am_h131 dX9_pullOn_200 rfl ⟨rfl, rfl⟩
theorem n131 : AM sv 131 [.ref a, .int x0, .int x1, .int x2, .int x3, .int x4] h Q = AW sv 131 0 [.ref a, .int x0, .int x1, .int x2, .int x3, .int x4, .null, .null] [] h 0 0 Q := rfl
theorem x132_0 : AW sv 132 0 [.ref a, v1, v2, v3, v4] r h 0 0 Q = AW sv 132 1 [.ref a, v1, v2, v3, v4] (.ref a :: r) h 0 0 Q := e_pv am_h132 dX9_pull_0 rfl rfl rfl rfl
theorem x132_1 : AW sv 132 1 [v0, .int x, v2, v3, v4] r h 0 0 Q = AW sv 132 2 [v0, .int x, v2, v3, v4] (.int x :: r) h 0 0 Q := e_pv am_h132 dX9_pull_1 rfl rfl rfl rfl
theorem x132_2 (h8 : am_cs r ≤ 8) : AW sv 132 2 [v0, v1, v2, v3, v4] (.int x0 :: .ref 71 :: r) (am_toH σ) 0 0 Q = AM sv 108 [.ref 71, .int x0] (am_toH σ) (fun v h1 => AW sv 132 5 [v0, v1, v2, v3, v4] (v.toList ++ r) h1 0 0 Q) := e_cV (as := [.int x0]) am_h132 dX9_pull_2 ml_9_105 (by decide) am_h108 rfl is9 rfl rfl ⟨by decide, Nat.le_of_ble_eq_true rfl, am_rc_of (by decide) h8⟩
theorem x132_5 : AW sv 132 5 [v0, v1, v2, v3, v4] (.int x :: r) h 0 0 Q = if x = 0 then AW sv 132 35 [v0, v1, v2, v3, v4] r h 0 0 Q else AW sv 132 8 [v0, v1, v2, v3, v4] r h 0 0 Q := e_z_eq am_h132 dX9_pull_5 rfl
theorem x132_8 : AW sv 132 8 [v0, v1, .int x, v3, v4] r h 0 0 Q = AW sv 132 9 [v0, v1, .int x, v3, v4] (.int x :: r) h 0 0 Q := e_pv am_h132 dX9_pull_8 rfl rfl rfl rfl
theorem x132_9 (h8 : am_cs r ≤ 8) : AW sv 132 9 [v0, v1, v2, v3, v4] (.int x0 :: r) h 0 0 Q = AM sv 106 [.int x0] h (fun v h1 => AW sv 132 12 [v0, v1, v2, v3, v4] (v.toList ++ r) h1 0 0 Q) := e_cS (as := [.int x0]) am_h132 dX9_pull_9 ml_9_79 (by decide) am_h106 rfl rfl rfl ⟨by decide, Nat.le_of_ble_eq_true rfl, am_rc_of (by decide) h8⟩
theorem x132_12 : AW sv 132 12 [v0, v1, v2, v3, v4] (.int x :: r) h 0 0 Q = if x = 0 then AW sv 132 35 [v0, v1, v2, v3, v4] r h 0 0 Q else AW sv 132 15 [v0, v1, v2, v3, v4] r h 0 0 Q := e_z_eq am_h132 dX9_pull_12 rfl
theorem x132_15 : AW sv 132 15 [v0, v1, v2, .int x, v4] r h 0 0 Q = AW sv 132 16 [v0, v1, v2, .int x, v4] (.int x :: r) h 0 0 Q := e_pv am_h132 dX9_pull_15 rfl rfl rfl rfl
theorem x132_16 (h8 : am_cs r ≤ 8) : AW sv 132 16 [v0, v1, v2, v3, v4] (.int x0 :: r) h 0 0 Q = AM sv 107 [.int x0] h (fun v h1 => AW sv 132 19 [v0, v1, v2, v3, v4] (v.toList ++ r) h1 0 0 Q) := e_cS (as := [.int x0]) am_h132 dX9_pull_16 ml_9_83 (by decide) am_h107 rfl rfl rfl ⟨by decide, Nat.le_of_ble_eq_true rfl, am_rc_of (by decide) h8⟩
theorem x132_19 : AW sv 132 19 [v0, v1, v2, v3, v4] (.int x :: r) h 0 0 Q = if x = 0 then AW sv 132 35 [v0, v1, v2, v3, v4] r h 0 0 Q else AW sv 132 22 [v0, v1, v2, v3, v4] r h 0 0 Q := e_z_eq am_h132 dX9_pull_19 rfl
theorem x132_22 : AW sv 132 22 [v0, v1, v2, v3, .int x] r h 0 0 Q = AW sv 132 24 [v0, v1, v2, v3, .int x] (.int x :: r) h 0 0 Q := e_pv am_h132 dX9_pull_22 rfl rfl rfl rfl
theorem x132_24 : AW sv 132 24 [v0, v1, v2, v3, v4] (.int x :: r) h 0 0 Q = AW sv 132 25 [v0, v1, v2, v3, v4] (.long x.toInt64 :: r) h 0 0 Q := e_i2l am_h132 dX9_pull_24
theorem x132_25 : AW sv 132 25 [v0, v1, v2, v3, v4] r h 0 0 Q = AW sv 132 26 [v0, v1, v2, v3, v4] (.long (1) :: r) h 0 0 Q := e_lconstv am_h132 dX9_pull_25 c_l_1
theorem x132_26 : AW sv 132 26 [v0, v1, v2, v3, v4] r h 0 0 Q = AW sv 132 29 [v0, v1, v2, v3, v4] (.long (9) :: r) h 0 0 Q := e_ldc2 am_h132 dX9_pull_26 (by decide +kernel)
theorem x132_29 (h8 : am_cs r ≤ 8) : AW sv 132 29 [v0, v1, v2, v3, v4] (.long u2 :: .long u1 :: .long u0 :: r) h 0 0 Q = AM sv 104 [.long u0, .long u1, .long u2] h (fun v h1 => AW sv 132 32 [v0, v1, v2, v3, v4] (v.toList ++ r) h1 0 0 Q) := e_cS (as := [.long u0, .long u1, .long u2]) am_h132 dX9_pull_29 ml_9_70 (by decide) am_h104 rfl rfl rfl ⟨by decide, Nat.le_of_ble_eq_true rfl, am_rc_of (by decide) h8⟩
theorem x132_32 : AW sv 132 32 [v0, v1, v2, v3, v4] (.int x :: r) h 0 0 Q = if ¬ x = 0 then AW sv 132 37 [v0, v1, v2, v3, v4] r h 0 0 Q else AW sv 132 35 [v0, v1, v2, v3, v4] r h 0 0 Q := e_z_ne am_h132 dX9_pull_32 rfl
theorem x132_35 : AW sv 132 35 [v0, v1, v2, v3, v4] r h 0 0 Q = AW sv 132 36 [v0, v1, v2, v3, v4] (.int (-1) :: r) h 0 0 Q := e_iconstv am_h132 dX9_pull_35 c_iconst_m1
theorem x132_36 : AW sv 132 36 [v0, v1, v2, v3, v4] [.int x] h 0 0 Q = Q (some (.int x)) h := e_iret am_h132 dX9_pull_36 rfl ⟨rfl, rfl⟩
theorem x132_37 : AW sv 132 37 [.ref a, v1, v2, v3, v4] r h 0 0 Q = AW sv 132 38 [.ref a, v1, v2, v3, v4] (.ref a :: r) h 0 0 Q := e_pv am_h132 dX9_pull_37 rfl rfl rfl rfl
theorem x132_38 : AW sv 132 38 [.ref a, v1, v2, v3, v4] r h 0 0 Q = AW sv 132 39 [.ref a, v1, v2, v3, v4] (.ref a :: r) h 0 0 Q := e_pv am_h132 dX9_pull_38 rfl rfl rfl rfl
theorem x132_39 : AW sv 132 39 [v0, v1, v2, v3, v4] (.ref 71 :: r) (am_toH σ) 0 0 Q = AW sv 132 42 [v0, v1, v2, v3, v4] (.ref 78 :: r) (am_toH σ) 0 0 Q := e_getR am_h132 dX9_pull_39 fl_9_28 is9 rfl
theorem x132_42 : AW sv 132 42 [v0, v1, v2, v3, v4] r h 0 0 Q = AW sv 132 43 [v0, v1, v2, v3, v4] (.int (3) :: r) h 0 0 Q := e_iconstv am_h132 dX9_pull_42 c_iconst_3
theorem x132_43 : AW sv 132 43 [v0, .int x, v2, v3, v4] r h 0 0 Q = AW sv 132 44 [v0, .int x, v2, v3, v4] (.int x :: r) h 0 0 Q := e_pv am_h132 dX9_pull_43 rfl rfl rfl rfl
theorem x132_44 : AW sv 132 44 [v0, v1, v2, v3, v4] (.int y :: .int x :: r) h 0 0 Q = AW sv 132 45 [v0, v1, v2, v3, v4] (.int (x * y) :: r) h 0 0 Q := e_imul am_h132 dX9_pull_44
theorem x132_45 : AW sv 132 45 [v0, v1, v2, v3, v4] r h 0 0 Q = AW sv 132 46 [v0, v1, v2, v3, v4] (.int (1) :: r) h 0 0 Q := e_iconstv am_h132 dX9_pull_45 c_iconst_1
theorem x132_46 : AW sv 132 46 [v0, v1, v2, v3, v4] (.int y :: .int x :: r) h 0 0 Q = AW sv 132 47 [v0, v1, v2, v3, v4] (.int (x + y) :: r) h 0 0 Q := e_iadd am_h132 dX9_pull_46
theorem x132_47 (hi : am_in x (am_ln a) = true) : AW sv 132 47 [v0, v1, v2, v3, v4] (.int x :: .ref a :: r) (am_toH σ) 0 0 Q = AW sv 132 48 [v0, v1, v2, v3, v4] (.int (σ.1 a x.toNatClampNeg) :: r) (am_toH σ) 0 0 Q := e_iald am_h132 dX9_pull_47 hi
theorem x132_48 : AW sv 132 48 [.ref a, v1, v2, v3, v4] r h 0 0 Q = AW sv 132 49 [.ref a, v1, v2, v3, v4] (.ref a :: r) h 0 0 Q := e_pv am_h132 dX9_pull_48 rfl rfl rfl rfl
theorem x132_49 : AW sv 132 49 [v0, v1, v2, v3, v4] (.ref 71 :: r) (am_toH σ) 0 0 Q = AW sv 132 52 [v0, v1, v2, v3, v4] (.ref 78 :: r) (am_toH σ) 0 0 Q := e_getR am_h132 dX9_pull_49 fl_9_28 is9 rfl
theorem x132_52 : AW sv 132 52 [v0, v1, v2, v3, v4] r h 0 0 Q = AW sv 132 53 [v0, v1, v2, v3, v4] (.int (3) :: r) h 0 0 Q := e_iconstv am_h132 dX9_pull_52 c_iconst_3
theorem x132_53 : AW sv 132 53 [v0, .int x, v2, v3, v4] r h 0 0 Q = AW sv 132 54 [v0, .int x, v2, v3, v4] (.int x :: r) h 0 0 Q := e_pv am_h132 dX9_pull_53 rfl rfl rfl rfl
theorem x132_54 : AW sv 132 54 [v0, v1, v2, v3, v4] (.int y :: .int x :: r) h 0 0 Q = AW sv 132 55 [v0, v1, v2, v3, v4] (.int (x * y) :: r) h 0 0 Q := e_imul am_h132 dX9_pull_54
theorem x132_55 : AW sv 132 55 [v0, v1, v2, v3, v4] r h 0 0 Q = AW sv 132 56 [v0, v1, v2, v3, v4] (.int (2) :: r) h 0 0 Q := e_iconstv am_h132 dX9_pull_55 c_iconst_2
theorem x132_56 : AW sv 132 56 [v0, v1, v2, v3, v4] (.int y :: .int x :: r) h 0 0 Q = AW sv 132 57 [v0, v1, v2, v3, v4] (.int (x + y) :: r) h 0 0 Q := e_iadd am_h132 dX9_pull_56
theorem x132_57 (hi : am_in x (am_ln a) = true) : AW sv 132 57 [v0, v1, v2, v3, v4] (.int x :: .ref a :: r) (am_toH σ) 0 0 Q = AW sv 132 58 [v0, v1, v2, v3, v4] (.int (σ.1 a x.toNatClampNeg) :: r) (am_toH σ) 0 0 Q := e_iald am_h132 dX9_pull_57 hi
theorem x132_58 : AW sv 132 58 [v0, v1, .int x, v3, v4] r h 0 0 Q = AW sv 132 59 [v0, v1, .int x, v3, v4] (.int x :: r) h 0 0 Q := e_pv am_h132 dX9_pull_58 rfl rfl rfl rfl
theorem x132_59 : AW sv 132 59 [v0, v1, v2, .int x, v4] r h 0 0 Q = AW sv 132 60 [v0, v1, v2, .int x, v4] (.int x :: r) h 0 0 Q := e_pv am_h132 dX9_pull_59 rfl rfl rfl rfl
theorem x132_60 : AW sv 132 60 [v0, v1, v2, v3, .int x] r h 0 0 Q = AW sv 132 62 [v0, v1, v2, v3, .int x] (.int x :: r) h 0 0 Q := e_pv am_h132 dX9_pull_60 rfl rfl rfl rfl
theorem x132_62 (h8 : am_cs r ≤ 8) : AW sv 132 62 [v0, v1, v2, v3, v4] (.int x4 :: .int x3 :: .int x2 :: .int x1 :: .int x0 :: .ref 71 :: r) (am_toH σ) 0 0 Q = AM sv 131 [.ref 71, .int x0, .int x1, .int x2, .int x3, .int x4] (am_toH σ) (fun v h1 => AW sv 132 65 [v0, v1, v2, v3, v4] (v.toList ++ r) h1 0 0 Q) := e_cV (as := [.int x0, .int x1, .int x2, .int x3, .int x4]) am_h132 dX9_pull_62 ml_9_169 (by decide) am_h131 rfl is9 rfl rfl ⟨by decide, Nat.le_of_ble_eq_true rfl, am_rc_of (by decide) h8⟩
theorem x132_65 : AW sv 132 65 [v0, v1, v2, v3, v4] [.int x] h 0 0 Q = Q (some (.int x)) h := e_iret am_h132 dX9_pull_65 rfl ⟨rfl, rfl⟩
theorem n132 : AM sv 132 [.ref a, .int x0, .int x1, .int x2, .int x3] h Q = AW sv 132 0 [.ref a, .int x0, .int x1, .int x2, .int x3] [] h 0 0 Q := rfl
theorem x133_0 : AW sv 133 0 [v0, v1, v2, v3, v4] r h 0 0 Q = AW sv 133 2 [v0, v1, v2, v3, v4] (.int (9) :: r) h 0 0 Q := e_bipushv am_h133 dX9_heedOf_0 c_bipush_9
theorem x133_2 (hc : v2.category = 1) : AW sv 133 2 [v0, v1, v2, v3, v4] (.int x :: r) h 0 0 Q = AW sv 133 3 [v0, v1, v2, .int x, v4] r h 0 0 Q := e_pv am_h133 dX9_heedOf_2 rfl rfl rfl (am_sti_of (Nat.le_of_ble_eq_true rfl) (am_c1_of rfl hc))
theorem x133_3 : AW sv 133 3 [v0, v1, v2, v3, v4] r h 0 0 Q = AW sv 133 4 [v0, v1, v2, v3, v4] (.int (0) :: r) h 0 0 Q := e_iconstv am_h133 dX9_heedOf_3 c_iconst_0
theorem x133_4 (hc : v3.category = 1) : AW sv 133 4 [v0, v1, v2, v3, v4] (.int x :: r) h 0 0 Q = AW sv 133 6 [v0, v1, v2, v3, .int x] r h 0 0 Q := e_pv am_h133 dX9_heedOf_4 rfl rfl rfl (am_sti_of (Nat.le_of_ble_eq_true rfl) (am_c1_of rfl hc))
theorem x133_6 : AW sv 133 6 [v0, v1, v2, v3, .int x] r h 0 0 Q = AW sv 133 8 [v0, v1, v2, v3, .int x] (.int x :: r) h 0 0 Q := e_pv am_h133 dX9_heedOf_6 rfl rfl rfl rfl
theorem x133_8 : AW sv 133 8 [v0, v1, .int x, v3, v4] r h 0 0 Q = AW sv 133 9 [v0, v1, .int x, v3, v4] (.int x :: r) h 0 0 Q := e_pv am_h133 dX9_heedOf_8 rfl rfl rfl rfl
theorem x133_9 : AW sv 133 9 [v0, v1, v2, v3, v4] (.int y :: .int x :: r) h 0 0 Q = if y < x then AW sv 133 97 [v0, v1, v2, v3, v4] r h 0 0 Q else AW sv 133 12 [v0, v1, v2, v3, v4] r h 0 0 Q := e_c_gt am_h133 dX9_heedOf_9 rfl
theorem x133_12 : AW sv 133 12 [v0, v1, v2, .int x, v4] r h 0 0 Q = AW sv 133 13 [v0, v1, v2, .int x, v4] (.int x :: r) h 0 0 Q := e_pv am_h133 dX9_heedOf_12 rfl rfl rfl rfl
theorem x133_13 : AW sv 133 13 [.ref a, v1, v2, v3, v4] r h 0 0 Q = AW sv 133 14 [.ref a, v1, v2, v3, v4] (.ref a :: r) h 0 0 Q := e_pv am_h133 dX9_heedOf_13 rfl rfl rfl rfl
theorem x133_14 : AW sv 133 14 [v0, v1, v2, v3, v4] (.ref 71 :: r) (am_toH σ) 0 0 Q = AW sv 133 17 [v0, v1, v2, v3, v4] (.ref 77 :: r) (am_toH σ) 0 0 Q := e_getR am_h133 dX9_heedOf_14 fl_9_25 is9 rfl
theorem x133_17 : AW sv 133 17 [v0, v1, v2, v3, v4] r h 0 0 Q = AW sv 133 18 [v0, v1, v2, v3, v4] (.int (2) :: r) h 0 0 Q := e_iconstv am_h133 dX9_heedOf_17 c_iconst_2
theorem x133_18 (hi : am_in x (am_ln a) = true) : AW sv 133 18 [v0, v1, v2, v3, v4] (.int x :: .ref a :: r) (am_toH σ) 0 0 Q = AW sv 133 19 [v0, v1, v2, v3, v4] (.int (σ.1 a x.toNatClampNeg) :: r) (am_toH σ) 0 0 Q := e_iald am_h133 dX9_heedOf_18 hi
theorem x133_19 : AW sv 133 19 [v0, v1, v2, v3, v4] (.int y :: .int x :: r) h 0 0 Q = AW sv 133 20 [v0, v1, v2, v3, v4] (.int (x + y) :: r) h 0 0 Q := e_iadd am_h133 dX9_heedOf_19
theorem x133_20 : AW sv 133 20 [v0, v1, v2, v3, v4] r h 0 0 Q = AW sv 133 22 [v0, v1, v2, v3, v4] (.int (9) :: r) h 0 0 Q := e_bipushv am_h133 dX9_heedOf_20 c_bipush_9
theorem x133_22 : AW sv 133 22 [v0, v1, v2, v3, v4] (.int y :: .int x :: r) h 0 0 Q = if x ≤ y then AW sv 133 30 [v0, v1, v2, v3, v4] r h 0 0 Q else AW sv 133 25 [v0, v1, v2, v3, v4] r h 0 0 Q := e_c_le am_h133 dX9_heedOf_22 rfl
theorem x133_25 : AW sv 133 25 [v0, v1, v2, v3, v4] r h 0 0 Q = AW sv 133 27 [v0, v1, v2, v3, v4] (.int (9) :: r) h 0 0 Q := e_bipushv am_h133 dX9_heedOf_25 c_bipush_9
theorem x133_27 : AW sv 133 27 [v0, v1, v2, v3, v4] r h 0 0 Q = AW sv 133 38 [v0, v1, v2, v3, v4] r h 0 0 Q := e_goto am_h133 dX9_heedOf_27 rfl
theorem x133_30 : AW sv 133 30 [v0, v1, v2, .int x, v4] r h 0 0 Q = AW sv 133 31 [v0, v1, v2, .int x, v4] (.int x :: r) h 0 0 Q := e_pv am_h133 dX9_heedOf_30 rfl rfl rfl rfl
theorem x133_31 : AW sv 133 31 [.ref a, v1, v2, v3, v4] r h 0 0 Q = AW sv 133 32 [.ref a, v1, v2, v3, v4] (.ref a :: r) h 0 0 Q := e_pv am_h133 dX9_heedOf_31 rfl rfl rfl rfl
theorem x133_32 : AW sv 133 32 [v0, v1, v2, v3, v4] (.ref 71 :: r) (am_toH σ) 0 0 Q = AW sv 133 35 [v0, v1, v2, v3, v4] (.ref 77 :: r) (am_toH σ) 0 0 Q := e_getR am_h133 dX9_heedOf_32 fl_9_25 is9 rfl
theorem x133_35 : AW sv 133 35 [v0, v1, v2, v3, v4] r h 0 0 Q = AW sv 133 36 [v0, v1, v2, v3, v4] (.int (2) :: r) h 0 0 Q := e_iconstv am_h133 dX9_heedOf_35 c_iconst_2
theorem x133_36 (hi : am_in x (am_ln a) = true) : AW sv 133 36 [v0, v1, v2, v3, v4] (.int x :: .ref a :: r) (am_toH σ) 0 0 Q = AW sv 133 37 [v0, v1, v2, v3, v4] (.int (σ.1 a x.toNatClampNeg) :: r) (am_toH σ) 0 0 Q := e_iald am_h133 dX9_heedOf_36 hi
theorem x133_37 : AW sv 133 37 [v0, v1, v2, v3, v4] (.int y :: .int x :: r) h 0 0 Q = AW sv 133 38 [v0, v1, v2, v3, v4] (.int (x + y) :: r) h 0 0 Q := e_iadd am_h133 dX9_heedOf_37
theorem x133_38 (hc : v2.category = 1) : AW sv 133 38 [v0, v1, v2, v3, v4] (.int x :: r) h 0 0 Q = AW sv 133 39 [v0, v1, v2, .int x, v4] r h 0 0 Q := e_pv am_h133 dX9_heedOf_38 rfl rfl rfl (am_sti_of (Nat.le_of_ble_eq_true rfl) (am_c1_of rfl hc))
theorem x133_39 : AW sv 133 39 [v0, v1, v2, .int x, v4] r h 0 0 Q = AW sv 133 40 [v0, v1, v2, .int x, v4] (.int x :: r) h 0 0 Q := e_pv am_h133 dX9_heedOf_39 rfl rfl rfl rfl
theorem x133_40 : AW sv 133 40 [.ref a, v1, v2, v3, v4] r h 0 0 Q = AW sv 133 41 [.ref a, v1, v2, v3, v4] (.ref a :: r) h 0 0 Q := e_pv am_h133 dX9_heedOf_40 rfl rfl rfl rfl
theorem x133_41 : AW sv 133 41 [v0, v1, v2, v3, v4] (.ref 71 :: r) (am_toH σ) 0 0 Q = AW sv 133 44 [v0, v1, v2, v3, v4] (.ref 75 :: r) (am_toH σ) 0 0 Q := e_getR am_h133 dX9_heedOf_41 fl_9_19 is9 rfl
theorem x133_44 : AW sv 133 44 [v0, v1, v2, v3, .int x] r h 0 0 Q = AW sv 133 46 [v0, v1, v2, v3, .int x] (.int x :: r) h 0 0 Q := e_pv am_h133 dX9_heedOf_44 rfl rfl rfl rfl
theorem x133_46 (hi : am_in x (am_ln a) = true) : AW sv 133 46 [v0, v1, v2, v3, v4] (.int x :: .ref a :: r) (am_toH σ) 0 0 Q = AW sv 133 47 [v0, v1, v2, v3, v4] (.int (σ.1 a x.toNatClampNeg) :: r) (am_toH σ) 0 0 Q := e_iald am_h133 dX9_heedOf_46 hi
theorem x133_47 : AW sv 133 47 [v0, v1, v2, v3, v4] (.int x :: r) h 0 0 Q = if x < 0 then AW sv 133 68 [v0, v1, v2, v3, v4] r h 0 0 Q else AW sv 133 50 [v0, v1, v2, v3, v4] r h 0 0 Q := e_z_lt am_h133 dX9_heedOf_47 rfl
theorem x133_50 : AW sv 133 50 [.ref a, v1, v2, v3, v4] r h 0 0 Q = AW sv 133 51 [.ref a, v1, v2, v3, v4] (.ref a :: r) h 0 0 Q := e_pv am_h133 dX9_heedOf_50 rfl rfl rfl rfl
theorem x133_51 : AW sv 133 51 [v0, v1, v2, v3, v4] (.ref 71 :: r) (am_toH σ) 0 0 Q = AW sv 133 54 [v0, v1, v2, v3, v4] (.ref 78 :: r) (am_toH σ) 0 0 Q := e_getR am_h133 dX9_heedOf_51 fl_9_28 is9 rfl
theorem x133_54 : AW sv 133 54 [v0, v1, v2, v3, v4] r h 0 0 Q = AW sv 133 55 [v0, v1, v2, v3, v4] (.int (3) :: r) h 0 0 Q := e_iconstv am_h133 dX9_heedOf_54 c_iconst_3
theorem x133_55 : AW sv 133 55 [v0, .int x, v2, v3, v4] r h 0 0 Q = AW sv 133 56 [v0, .int x, v2, v3, v4] (.int x :: r) h 0 0 Q := e_pv am_h133 dX9_heedOf_55 rfl rfl rfl rfl
theorem x133_56 : AW sv 133 56 [v0, v1, v2, v3, v4] (.int y :: .int x :: r) h 0 0 Q = AW sv 133 57 [v0, v1, v2, v3, v4] (.int (x * y) :: r) h 0 0 Q := e_imul am_h133 dX9_heedOf_56
theorem x133_57 : AW sv 133 57 [v0, v1, v2, v3, v4] r h 0 0 Q = AW sv 133 58 [v0, v1, v2, v3, v4] (.int (1) :: r) h 0 0 Q := e_iconstv am_h133 dX9_heedOf_57 c_iconst_1
theorem x133_58 : AW sv 133 58 [v0, v1, v2, v3, v4] (.int y :: .int x :: r) h 0 0 Q = AW sv 133 59 [v0, v1, v2, v3, v4] (.int (x + y) :: r) h 0 0 Q := e_iadd am_h133 dX9_heedOf_58
theorem x133_59 (hi : am_in x (am_ln a) = true) : AW sv 133 59 [v0, v1, v2, v3, v4] (.int x :: .ref a :: r) (am_toH σ) 0 0 Q = AW sv 133 60 [v0, v1, v2, v3, v4] (.int (σ.1 a x.toNatClampNeg) :: r) (am_toH σ) 0 0 Q := e_iald am_h133 dX9_heedOf_59 hi
theorem x133_60 : AW sv 133 60 [v0, v1, v2, v3, v4] r h 0 0 Q = AW sv 133 61 [v0, v1, v2, v3, v4] (.int (2) :: r) h 0 0 Q := e_iconstv am_h133 dX9_heedOf_60 c_iconst_2
theorem x133_61 : AW sv 133 61 [v0, v1, v2, v3, v4] (.int y :: .int x :: r) h 0 0 Q = if x = y then AW sv 133 68 [v0, v1, v2, v3, v4] r h 0 0 Q else AW sv 133 64 [v0, v1, v2, v3, v4] r h 0 0 Q := e_c_eq am_h133 dX9_heedOf_61 rfl
theorem x133_64 : AW sv 133 64 [v0, v1, v2, v3, v4] r h 0 0 Q = AW sv 133 65 [v0, v1, v2, v3, v4] (.int (2) :: r) h 0 0 Q := e_iconstv am_h133 dX9_heedOf_64 c_iconst_2
theorem x133_65 : AW sv 133 65 [v0, v1, v2, v3, v4] r h 0 0 Q = AW sv 133 69 [v0, v1, v2, v3, v4] r h 0 0 Q := e_goto am_h133 dX9_heedOf_65 rfl
theorem x133_68 : AW sv 133 68 [v0, v1, v2, v3, v4] r h 0 0 Q = AW sv 133 69 [v0, v1, v2, v3, v4] (.int (0) :: r) h 0 0 Q := e_iconstv am_h133 dX9_heedOf_68 c_iconst_0
theorem x133_69 : AW sv 133 69 [v0, v1, v2, v3, v4] (.int y :: .int x :: r) h 0 0 Q = AW sv 133 70 [v0, v1, v2, v3, v4] (.int (x - y) :: r) h 0 0 Q := e_isub am_h133 dX9_heedOf_69
theorem x133_70 (hc : v2.category = 1) : AW sv 133 70 [v0, v1, v2, v3, v4] (.int x :: r) h 0 0 Q = AW sv 133 71 [v0, v1, v2, .int x, v4] r h 0 0 Q := e_pv am_h133 dX9_heedOf_70 rfl rfl rfl (am_sti_of (Nat.le_of_ble_eq_true rfl) (am_c1_of rfl hc))
theorem x133_71 : AW sv 133 71 [v0, v1, v2, .int x, v4] r h 0 0 Q = AW sv 133 72 [v0, v1, v2, .int x, v4] (.int x :: r) h 0 0 Q := e_pv am_h133 dX9_heedOf_71 rfl rfl rfl rfl
theorem x133_72 : AW sv 133 72 [v0, v1, v2, v3, v4] (.int x :: r) h 0 0 Q = if x < 0 then AW sv 133 85 [v0, v1, v2, v3, v4] r h 0 0 Q else AW sv 133 75 [v0, v1, v2, v3, v4] r h 0 0 Q := e_z_lt am_h133 dX9_heedOf_72 rfl
theorem x133_75 : AW sv 133 75 [.ref a, v1, v2, v3, v4] r h 0 0 Q = AW sv 133 76 [.ref a, v1, v2, v3, v4] (.ref a :: r) h 0 0 Q := e_pv am_h133 dX9_heedOf_75 rfl rfl rfl rfl
theorem x133_76 : AW sv 133 76 [v0, v1, v2, v3, v4] (.ref 71 :: r) (am_toH σ) 0 0 Q = AW sv 133 79 [v0, v1, v2, v3, v4] (.ref 76 :: r) (am_toH σ) 0 0 Q := e_getR am_h133 dX9_heedOf_76 fl_9_22 is9 rfl
theorem x133_79 : AW sv 133 79 [v0, v1, v2, v3, .int x] r h 0 0 Q = AW sv 133 81 [v0, v1, v2, v3, .int x] (.int x :: r) h 0 0 Q := e_pv am_h133 dX9_heedOf_79 rfl rfl rfl rfl
theorem x133_81 (hi : am_in x (am_ln a) = true) : AW sv 133 81 [v0, v1, v2, v3, v4] (.int x :: .ref a :: r) (am_toH σ) 0 0 Q = AW sv 133 82 [v0, v1, v2, v3, v4] (.int (σ.1 a x.toNatClampNeg) :: r) (am_toH σ) 0 0 Q := e_iald am_h133 dX9_heedOf_81 hi
theorem x133_82 : AW sv 133 82 [v0, v1, v2, v3, v4] (.int x :: r) h 0 0 Q = if x ≤ 0 then AW sv 133 89 [v0, v1, v2, v3, v4] r h 0 0 Q else AW sv 133 85 [v0, v1, v2, v3, v4] r h 0 0 Q := e_z_le am_h133 dX9_heedOf_82 rfl
theorem x133_85 : AW sv 133 85 [v0, v1, v2, v3, v4] r h 0 0 Q = AW sv 133 86 [v0, v1, v2, v3, v4] (.int (0) :: r) h 0 0 Q := e_iconstv am_h133 dX9_heedOf_85 c_iconst_0
theorem x133_86 : AW sv 133 86 [v0, v1, v2, v3, v4] r h 0 0 Q = AW sv 133 90 [v0, v1, v2, v3, v4] r h 0 0 Q := e_goto am_h133 dX9_heedOf_86 rfl
theorem x133_89 : AW sv 133 89 [v0, v1, v2, .int x, v4] r h 0 0 Q = AW sv 133 90 [v0, v1, v2, .int x, v4] (.int x :: r) h 0 0 Q := e_pv am_h133 dX9_heedOf_89 rfl rfl rfl rfl
theorem x133_90 (hc : v2.category = 1) : AW sv 133 90 [v0, v1, v2, v3, v4] (.int x :: r) h 0 0 Q = AW sv 133 91 [v0, v1, v2, .int x, v4] r h 0 0 Q := e_pv am_h133 dX9_heedOf_90 rfl rfl rfl (am_sti_of (Nat.le_of_ble_eq_true rfl) (am_c1_of rfl hc))
theorem x133_91 (hc : v3.category = 1) : AW sv 133 91 [v0, v1, v2, v3, .int x] r h 0 0 Q = AW sv 133 94 [v0, v1, v2, v3, .int (x + (1))] r h 0 0 Q := e_pv am_h133 dX9_heedOf_91 rfl rfl rfl (am_inc_of (ls := [v0, v1, v2, v3, .int x]) (k := 4) rfl c_iconst_1 (am_c1_of (ls := [v0, v1, v2, v3, .int x]) (k := 3) (v := v3) rfl hc))
theorem x133_94 : AW sv 133 94 [v0, v1, v2, v3, v4] r h 0 0 Q = AW sv 133 6 [v0, v1, v2, v3, v4] r h 0 0 Q := e_goto am_h133 dX9_heedOf_94 rfl
theorem x133_97 : AW sv 133 97 [v0, v1, v2, .int x, v4] r h 0 0 Q = AW sv 133 98 [v0, v1, v2, .int x, v4] (.int x :: r) h 0 0 Q := e_pv am_h133 dX9_heedOf_97 rfl rfl rfl rfl
theorem x133_98 : AW sv 133 98 [v0, v1, v2, v3, v4] [.int x] h 0 0 Q = Q (some (.int x)) h := e_iret am_h133 dX9_heedOf_98 rfl ⟨rfl, rfl⟩
theorem n133 : AM sv 133 [.ref a, .int x0, .int x1] h Q = AW sv 133 0 [.ref a, .int x0, .int x1, .null, .null] [] h 0 0 Q := rfl
theorem x134_0 : AW sv 134 0 [.ref a, v1, v2] r h 0 0 Q = AW sv 134 1 [.ref a, v1, v2] (.ref a :: r) h 0 0 Q := e_pv am_h134 dX9_heed_0 rfl rfl rfl rfl
theorem x134_1 : AW sv 134 1 [v0, .int x, v2] r h 0 0 Q = AW sv 134 2 [v0, .int x, v2] (.int x :: r) h 0 0 Q := e_pv am_h134 dX9_heed_1 rfl rfl rfl rfl
theorem x134_2 (h8 : am_cs r ≤ 8) : AW sv 134 2 [v0, v1, v2] (.int x0 :: .ref 71 :: r) (am_toH σ) 0 0 Q = AM sv 108 [.ref 71, .int x0] (am_toH σ) (fun v h1 => AW sv 134 5 [v0, v1, v2] (v.toList ++ r) h1 0 0 Q) := e_cV (as := [.int x0]) am_h134 dX9_heed_2 ml_9_105 (by decide) am_h108 rfl is9 rfl rfl ⟨by decide, Nat.le_of_ble_eq_true rfl, am_rc_of (by decide) h8⟩
theorem x134_5 : AW sv 134 5 [v0, v1, v2] (.int x :: r) h 0 0 Q = if x = 0 then AW sv 134 24 [v0, v1, v2] r h 0 0 Q else AW sv 134 8 [v0, v1, v2] r h 0 0 Q := e_z_eq am_h134 dX9_heed_5 rfl
theorem x134_8 : AW sv 134 8 [v0, v1, .int x] r h 0 0 Q = AW sv 134 9 [v0, v1, .int x] (.int x :: r) h 0 0 Q := e_pv am_h134 dX9_heed_8 rfl rfl rfl rfl
theorem x134_9 (h8 : am_cs r ≤ 8) : AW sv 134 9 [v0, v1, v2] (.int x0 :: r) h 0 0 Q = AM sv 106 [.int x0] h (fun v h1 => AW sv 134 12 [v0, v1, v2] (v.toList ++ r) h1 0 0 Q) := e_cS (as := [.int x0]) am_h134 dX9_heed_9 ml_9_79 (by decide) am_h106 rfl rfl rfl ⟨by decide, Nat.le_of_ble_eq_true rfl, am_rc_of (by decide) h8⟩
theorem x134_12 : AW sv 134 12 [v0, v1, v2] (.int x :: r) h 0 0 Q = if x = 0 then AW sv 134 24 [v0, v1, v2] r h 0 0 Q else AW sv 134 15 [v0, v1, v2] r h 0 0 Q := e_z_eq am_h134 dX9_heed_12 rfl
theorem x134_15 : AW sv 134 15 [.ref a, v1, v2] r h 0 0 Q = AW sv 134 16 [.ref a, v1, v2] (.ref a :: r) h 0 0 Q := e_pv am_h134 dX9_heed_15 rfl rfl rfl rfl
theorem x134_16 : AW sv 134 16 [v0, .int x, v2] r h 0 0 Q = AW sv 134 17 [v0, .int x, v2] (.int x :: r) h 0 0 Q := e_pv am_h134 dX9_heed_16 rfl rfl rfl rfl
theorem x134_17 : AW sv 134 17 [v0, v1, .int x] r h 0 0 Q = AW sv 134 18 [v0, v1, .int x] (.int x :: r) h 0 0 Q := e_pv am_h134 dX9_heed_17 rfl rfl rfl rfl
theorem x134_18 (h8 : am_cs r ≤ 8) : AW sv 134 18 [v0, v1, v2] (.int x1 :: .int x0 :: .ref 71 :: r) (am_toH σ) 0 0 Q = AM sv 133 [.ref 71, .int x0, .int x1] (am_toH σ) (fun v h1 => AW sv 134 21 [v0, v1, v2] (v.toList ++ r) h1 0 0 Q) := e_cV (as := [.int x0, .int x1]) am_h134 dX9_heed_18 ml_9_108 (by decide) am_h133 rfl is9 rfl rfl ⟨by decide, Nat.le_of_ble_eq_true rfl, am_rc_of (by decide) h8⟩
theorem x134_21 : AW sv 134 21 [v0, v1, v2] r h 0 0 Q = AW sv 134 25 [v0, v1, v2] r h 0 0 Q := e_goto am_h134 dX9_heed_21 rfl
theorem x134_24 : AW sv 134 24 [v0, v1, v2] r h 0 0 Q = AW sv 134 25 [v0, v1, v2] (.int (-1) :: r) h 0 0 Q := e_iconstv am_h134 dX9_heed_24 c_iconst_m1
theorem x134_25 : AW sv 134 25 [v0, v1, v2] [.int x] h 0 0 Q = Q (some (.int x)) h := e_iret am_h134 dX9_heed_25 rfl ⟨rfl, rfl⟩
theorem n134 : AM sv 134 [.ref a, .int x0, .int x1] h Q = AW sv 134 0 [.ref a, .int x0, .int x1] [] h 0 0 Q := rfl
theorem x135_0 : AW sv 135 0 [v0, .int x, v2, v3, v4] r h 0 0 Q = AW sv 135 1 [v0, .int x, v2, v3, v4] (.int x :: r) h 0 0 Q := e_pv am_h135 dX9_sight_0 rfl rfl rfl rfl
theorem x135_1 : AW sv 135 1 [v0, v1, v2, v3, v4] r h 0 0 Q = AW sv 135 2 [v0, v1, v2, v3, v4] (.int (4) :: r) h 0 0 Q := e_iconstv am_h135 dX9_sight_1 c_iconst_4
theorem x135_2 (hy : ¬ y = 0) : AW sv 135 2 [v0, v1, v2, v3, v4] (.int y :: .int x :: r) h 0 0 Q = AW sv 135 3 [v0, v1, v2, v3, v4] (.int (x - x / y * y) :: r) h 0 0 Q := e_irem am_h135 dX9_sight_2 hy
theorem x135_3 : AW sv 135 3 [v0, v1, v2, .int x, v4] r h 0 0 Q = AW sv 135 4 [v0, v1, v2, .int x, v4] (.int x :: r) h 0 0 Q := e_pv am_h135 dX9_sight_3 rfl rfl rfl rfl
theorem x135_4 : AW sv 135 4 [v0, v1, v2, v3, v4] (.int y :: .int x :: r) h 0 0 Q = AW sv 135 5 [v0, v1, v2, v3, v4] (.int (x - y) :: r) h 0 0 Q := e_isub am_h135 dX9_sight_4
theorem x135_5 (hc : v3.category = 1) : AW sv 135 5 [v0, v1, v2, v3, v4] (.int x :: r) h 0 0 Q = AW sv 135 7 [v0, v1, v2, v3, .int x] r h 0 0 Q := e_pv am_h135 dX9_sight_5 rfl rfl rfl (am_sti_of (Nat.le_of_ble_eq_true rfl) (am_c1_of rfl hc))
theorem x135_7 : AW sv 135 7 [v0, v1, .int x, v3, v4] r h 0 0 Q = AW sv 135 8 [v0, v1, .int x, v3, v4] (.int x :: r) h 0 0 Q := e_pv am_h135 dX9_sight_7 rfl rfl rfl rfl
theorem x135_8 : AW sv 135 8 [v0, v1, v2, v3, v4] r h 0 0 Q = AW sv 135 9 [v0, v1, v2, v3, v4] (.int (1) :: r) h 0 0 Q := e_iconstv am_h135 dX9_sight_8 c_iconst_1
theorem x135_9 : AW sv 135 9 [v0, v1, v2, v3, v4] (.int y :: .int x :: r) h 0 0 Q = if ¬ x = y then AW sv 135 18 [v0, v1, v2, v3, v4] r h 0 0 Q else AW sv 135 12 [v0, v1, v2, v3, v4] r h 0 0 Q := e_c_ne am_h135 dX9_sight_9 rfl
theorem x135_12 : AW sv 135 12 [v0, v1, v2, v3, .int x] r h 0 0 Q = AW sv 135 14 [v0, v1, v2, v3, .int x] (.int x :: r) h 0 0 Q := e_pv am_h135 dX9_sight_12 rfl rfl rfl rfl
theorem x135_14 : AW sv 135 14 [v0, v1, v2, v3, v4] r h 0 0 Q = AW sv 135 15 [v0, v1, v2, v3, v4] (.int (-1) :: r) h 0 0 Q := e_iconstv am_h135 dX9_sight_14 c_iconst_m1
theorem x135_15 : AW sv 135 15 [v0, v1, v2, v3, v4] (.int y :: .int x :: r) h 0 0 Q = if x < y then AW sv 135 32 [v0, v1, v2, v3, v4] r h 0 0 Q else AW sv 135 18 [v0, v1, v2, v3, v4] r h 0 0 Q := e_c_lt am_h135 dX9_sight_15 rfl
theorem x135_18 : AW sv 135 18 [v0, v1, .int x, v3, v4] r h 0 0 Q = AW sv 135 19 [v0, v1, .int x, v3, v4] (.int x :: r) h 0 0 Q := e_pv am_h135 dX9_sight_18 rfl rfl rfl rfl
theorem x135_19 : AW sv 135 19 [v0, v1, v2, v3, v4] (.int x :: r) h 0 0 Q = if ¬ x = 0 then AW sv 135 28 [v0, v1, v2, v3, v4] r h 0 0 Q else AW sv 135 22 [v0, v1, v2, v3, v4] r h 0 0 Q := e_z_ne am_h135 dX9_sight_19 rfl
theorem x135_22 : AW sv 135 22 [v0, v1, v2, v3, .int x] r h 0 0 Q = AW sv 135 24 [v0, v1, v2, v3, .int x] (.int x :: r) h 0 0 Q := e_pv am_h135 dX9_sight_22 rfl rfl rfl rfl
theorem x135_24 : AW sv 135 24 [v0, v1, v2, v3, v4] r h 0 0 Q = AW sv 135 25 [v0, v1, v2, v3, v4] (.int (1) :: r) h 0 0 Q := e_iconstv am_h135 dX9_sight_24 c_iconst_1
theorem x135_25 : AW sv 135 25 [v0, v1, v2, v3, v4] (.int y :: .int x :: r) h 0 0 Q = if y < x then AW sv 135 32 [v0, v1, v2, v3, v4] r h 0 0 Q else AW sv 135 28 [v0, v1, v2, v3, v4] r h 0 0 Q := e_c_gt am_h135 dX9_sight_25 rfl
theorem x135_28 : AW sv 135 28 [v0, v1, v2, v3, v4] r h 0 0 Q = AW sv 135 29 [v0, v1, v2, v3, v4] (.int (1) :: r) h 0 0 Q := e_iconstv am_h135 dX9_sight_28 c_iconst_1
theorem x135_29 : AW sv 135 29 [v0, v1, v2, v3, v4] r h 0 0 Q = AW sv 135 33 [v0, v1, v2, v3, v4] r h 0 0 Q := e_goto am_h135 dX9_sight_29 rfl
theorem x135_32 : AW sv 135 32 [v0, v1, v2, v3, v4] r h 0 0 Q = AW sv 135 33 [v0, v1, v2, v3, v4] (.int (0) :: r) h 0 0 Q := e_iconstv am_h135 dX9_sight_32 c_iconst_0
theorem x135_33 (hz : x = 0 ∨ x = 1) : AW sv 135 33 [v0, v1, v2, v3, v4] [.int x] h 0 0 Q = Q (some (.int x)) h := e_zret am_h135 dX9_sight_33 rfl ⟨rfl, rfl⟩ hz
theorem n135 : AM sv 135 [.ref a, .int x0, .int x1, .int x2] h Q = AW sv 135 0 [.ref a, .int x0, .int x1, .int x2, .null] [] h 0 0 Q := rfl
theorem x136_0 : AW sv 136 0 [v0, .int x, v2] r h 0 0 Q = AW sv 136 1 [v0, .int x, v2] (.int x :: r) h 0 0 Q := e_pv am_h136 dX9_can_0 rfl rfl rfl rfl
theorem x136_1 : AW sv 136 1 [v0, v1, v2] (.int x :: r) h 0 0 Q = AW sv 136 2 [v0, v1, v2] (.long x.toInt64 :: r) h 0 0 Q := e_i2l am_h136 dX9_can_1
theorem x136_2 : AW sv 136 2 [v0, v1, v2] r h 0 0 Q = AW sv 136 3 [v0, v1, v2] (.long (0) :: r) h 0 0 Q := e_lconstv am_h136 dX9_can_2 c_l_0
theorem x136_3 : AW sv 136 3 [v0, v1, v2] r h 0 0 Q = AW sv 136 6 [v0, v1, v2] (.long (11) :: r) h 0 0 Q := e_ldc2 am_h136 dX9_can_3 (by decide +kernel)
theorem x136_6 (h8 : am_cs r ≤ 8) : AW sv 136 6 [v0, v1, v2] (.long u2 :: .long u1 :: .long u0 :: r) h 0 0 Q = AM sv 104 [.long u0, .long u1, .long u2] h (fun v h1 => AW sv 136 9 [v0, v1, v2] (v.toList ++ r) h1 0 0 Q) := e_cS (as := [.long u0, .long u1, .long u2]) am_h136 dX9_can_6 ml_9_70 (by decide) am_h104 rfl rfl rfl ⟨by decide, Nat.le_of_ble_eq_true rfl, am_rc_of (by decide) h8⟩
theorem x136_9 : AW sv 136 9 [v0, v1, v2] (.int x :: r) h 0 0 Q = if x = 0 then AW sv 136 19 [v0, v1, v2] r h 0 0 Q else AW sv 136 12 [v0, v1, v2] r h 0 0 Q := e_z_eq am_h136 dX9_can_9 rfl
theorem x136_12 : AW sv 136 12 [v0, v1, .int x] r h 0 0 Q = AW sv 136 13 [v0, v1, .int x] (.int x :: r) h 0 0 Q := e_pv am_h136 dX9_can_12 rfl rfl rfl rfl
theorem x136_13 (h8 : am_cs r ≤ 8) : AW sv 136 13 [v0, v1, v2] (.int x0 :: r) h 0 0 Q = AM sv 107 [.int x0] h (fun v h1 => AW sv 136 16 [v0, v1, v2] (v.toList ++ r) h1 0 0 Q) := e_cS (as := [.int x0]) am_h136 dX9_can_13 ml_9_83 (by decide) am_h107 rfl rfl rfl ⟨by decide, Nat.le_of_ble_eq_true rfl, am_rc_of (by decide) h8⟩
theorem x136_16 : AW sv 136 16 [v0, v1, v2] (.int x :: r) h 0 0 Q = if ¬ x = 0 then AW sv 136 21 [v0, v1, v2] r h 0 0 Q else AW sv 136 19 [v0, v1, v2] r h 0 0 Q := e_z_ne am_h136 dX9_can_16 rfl
theorem x136_19 : AW sv 136 19 [v0, v1, v2] r h 0 0 Q = AW sv 136 20 [v0, v1, v2] (.int (-1) :: r) h 0 0 Q := e_iconstv am_h136 dX9_can_19 c_iconst_m1
theorem x136_20 : AW sv 136 20 [v0, v1, v2] [.int x] h 0 0 Q = Q (some (.int x)) h := e_iret am_h136 dX9_can_20 rfl ⟨rfl, rfl⟩
theorem x136_21 : AW sv 136 21 [.ref a, v1, v2] r h 0 0 Q = AW sv 136 22 [.ref a, v1, v2] (.ref a :: r) h 0 0 Q := e_pv am_h136 dX9_can_21 rfl rfl rfl rfl
theorem x136_22 : AW sv 136 22 [v0, .int x, v2] r h 0 0 Q = AW sv 136 23 [v0, .int x, v2] (.int x :: r) h 0 0 Q := e_pv am_h136 dX9_can_22 rfl rfl rfl rfl
theorem x136_23 : AW sv 136 23 [v0, v1, .int x] r h 0 0 Q = AW sv 136 24 [v0, v1, .int x] (.int x :: r) h 0 0 Q := e_pv am_h136 dX9_can_23 rfl rfl rfl rfl
theorem x136_24 : AW sv 136 24 [.ref a, v1, v2] r h 0 0 Q = AW sv 136 25 [.ref a, v1, v2] (.ref a :: r) h 0 0 Q := e_pv am_h136 dX9_can_24 rfl rfl rfl rfl
theorem x136_25 : AW sv 136 25 [v0, v1, v2] (.ref 71 :: r) (am_toH σ) 0 0 Q = AW sv 136 28 [v0, v1, v2] (.int (σ.1 71 5) :: r) (am_toH σ) 0 0 Q := e_getI am_h136 dX9_can_25 fl_9_64 is9 rfl
theorem x136_28 (h8 : am_cs r ≤ 8) : AW sv 136 28 [v0, v1, v2] (.int x2 :: .int x1 :: .int x0 :: .ref 71 :: r) (am_toH σ) 0 0 Q = AM sv 135 [.ref 71, .int x0, .int x1, .int x2] (am_toH σ) (fun v h1 => AW sv 136 31 [v0, v1, v2] (v.toList ++ r) h1 0 0 Q) := e_cV (as := [.int x0, .int x1, .int x2]) am_h136 dX9_can_28 ml_9_173 (by decide) am_h135 rfl is9 rfl rfl ⟨by decide, Nat.le_of_ble_eq_true rfl, am_rc_of (by decide) h8⟩
theorem x136_31 : AW sv 136 31 [v0, v1, v2] (.int x :: r) h 0 0 Q = if x = 0 then AW sv 136 38 [v0, v1, v2] r h 0 0 Q else AW sv 136 34 [v0, v1, v2] r h 0 0 Q := e_z_eq am_h136 dX9_can_31 rfl
theorem x136_34 : AW sv 136 34 [v0, v1, v2] r h 0 0 Q = AW sv 136 35 [v0, v1, v2] (.int (1) :: r) h 0 0 Q := e_iconstv am_h136 dX9_can_34 c_iconst_1
theorem x136_35 : AW sv 136 35 [v0, v1, v2] r h 0 0 Q = AW sv 136 39 [v0, v1, v2] r h 0 0 Q := e_goto am_h136 dX9_can_35 rfl
theorem x136_38 : AW sv 136 38 [v0, v1, v2] r h 0 0 Q = AW sv 136 39 [v0, v1, v2] (.int (0) :: r) h 0 0 Q := e_iconstv am_h136 dX9_can_38 c_iconst_0
theorem x136_39 : AW sv 136 39 [v0, v1, v2] [.int x] h 0 0 Q = Q (some (.int x)) h := e_iret am_h136 dX9_can_39 rfl ⟨rfl, rfl⟩
theorem n136 : AM sv 136 [.ref a, .int x0, .int x1] h Q = AW sv 136 0 [.ref a, .int x0, .int x1] [] h 0 0 Q := rfl
theorem x137_0 : AW sv 137 0 [.ref a, v1, v2, v3, v4, v5, v6, v7, v8, v9, v10, v11] r h 0 0 Q = AW sv 137 1 [.ref a, v1, v2, v3, v4, v5, v6, v7, v8, v9, v10, v11] (.ref a :: r) h 0 0 Q := e_pv am_h137 dX9_oddsOf_0 rfl rfl rfl rfl
theorem x137_1 : AW sv 137 1 [v0, v1, v2, v3, v4, v5, v6, v7, v8, v9, v10, v11] (.ref 71 :: r) (am_toH σ) 0 0 Q = AW sv 137 4 [v0, v1, v2, v3, v4, v5, v6, v7, v8, v9, v10, v11] (.ref 78 :: r) (am_toH σ) 0 0 Q := e_getR am_h137 dX9_oddsOf_1 fl_9_28 is9 rfl
theorem x137_4 : AW sv 137 4 [v0, v1, v2, v3, v4, v5, v6, v7, v8, v9, v10, v11] r h 0 0 Q = AW sv 137 5 [v0, v1, v2, v3, v4, v5, v6, v7, v8, v9, v10, v11] (.int (3) :: r) h 0 0 Q := e_iconstv am_h137 dX9_oddsOf_4 c_iconst_3
theorem x137_5 : AW sv 137 5 [v0, .int x, v2, v3, v4, v5, v6, v7, v8, v9, v10, v11] r h 0 0 Q = AW sv 137 6 [v0, .int x, v2, v3, v4, v5, v6, v7, v8, v9, v10, v11] (.int x :: r) h 0 0 Q := e_pv am_h137 dX9_oddsOf_5 rfl rfl rfl rfl
theorem x137_6 : AW sv 137 6 [v0, v1, v2, v3, v4, v5, v6, v7, v8, v9, v10, v11] (.int y :: .int x :: r) h 0 0 Q = AW sv 137 7 [v0, v1, v2, v3, v4, v5, v6, v7, v8, v9, v10, v11] (.int (x * y) :: r) h 0 0 Q := e_imul am_h137 dX9_oddsOf_6
theorem x137_7 (hi : am_in x (am_ln a) = true) : AW sv 137 7 [v0, v1, v2, v3, v4, v5, v6, v7, v8, v9, v10, v11] (.int x :: .ref a :: r) (am_toH σ) 0 0 Q = AW sv 137 8 [v0, v1, v2, v3, v4, v5, v6, v7, v8, v9, v10, v11] (.int (σ.1 a x.toNatClampNeg) :: r) (am_toH σ) 0 0 Q := e_iald am_h137 dX9_oddsOf_7 hi
theorem x137_8 (hc : v3.category = 1) : AW sv 137 8 [v0, v1, v2, v3, v4, v5, v6, v7, v8, v9, v10, v11] (.int x :: r) h 0 0 Q = AW sv 137 10 [v0, v1, v2, v3, .int x, v5, v6, v7, v8, v9, v10, v11] r h 0 0 Q := e_pv am_h137 dX9_oddsOf_8 rfl rfl rfl (am_sti_of (Nat.le_of_ble_eq_true rfl) (am_c1_of rfl hc))
theorem x137_10 : AW sv 137 10 [.ref a, v1, v2, v3, v4, v5, v6, v7, v8, v9, v10, v11] r h 0 0 Q = AW sv 137 11 [.ref a, v1, v2, v3, v4, v5, v6, v7, v8, v9, v10, v11] (.ref a :: r) h 0 0 Q := e_pv am_h137 dX9_oddsOf_10 rfl rfl rfl rfl
theorem x137_11 : AW sv 137 11 [v0, v1, v2, v3, v4, v5, v6, v7, v8, v9, v10, v11] (.ref 71 :: r) (am_toH σ) 0 0 Q = AW sv 137 14 [v0, v1, v2, v3, v4, v5, v6, v7, v8, v9, v10, v11] (.ref 73 :: r) (am_toH σ) 0 0 Q := e_getR am_h137 dX9_oddsOf_11 fl_9_13 is9 rfl
theorem x137_14 : AW sv 137 14 [v0, v1, .int x, v3, v4, v5, v6, v7, v8, v9, v10, v11] r h 0 0 Q = AW sv 137 15 [v0, v1, .int x, v3, v4, v5, v6, v7, v8, v9, v10, v11] (.int x :: r) h 0 0 Q := e_pv am_h137 dX9_oddsOf_14 rfl rfl rfl rfl
theorem x137_15 (hi : am_in x (am_ln a) = true) : AW sv 137 15 [v0, v1, v2, v3, v4, v5, v6, v7, v8, v9, v10, v11] (.int x :: .ref a :: r) (am_toH σ) 0 0 Q = AW sv 137 16 [v0, v1, v2, v3, v4, v5, v6, v7, v8, v9, v10, v11] (.int (σ.1 a x.toNatClampNeg) :: r) (am_toH σ) 0 0 Q := e_iald am_h137 dX9_oddsOf_15 hi
theorem x137_16 : AW sv 137 16 [v0, v1, v2, v3, v4, v5, v6, v7, v8, v9, v10, v11] r h 0 0 Q = AW sv 137 18 [v0, v1, v2, v3, v4, v5, v6, v7, v8, v9, v10, v11] (.int (10) :: r) h 0 0 Q := e_bipushv am_h137 dX9_oddsOf_16 c_bipush_10
theorem x137_18 (hy : ¬ y = 0) : AW sv 137 18 [v0, v1, v2, v3, v4, v5, v6, v7, v8, v9, v10, v11] (.int y :: .int x :: r) h 0 0 Q = AW sv 137 19 [v0, v1, v2, v3, v4, v5, v6, v7, v8, v9, v10, v11] (.int (x / y) :: r) h 0 0 Q := e_idiv am_h137 dX9_oddsOf_18 hy
theorem x137_19 (hc : v4.category = 1) : AW sv 137 19 [v0, v1, v2, v3, v4, v5, v6, v7, v8, v9, v10, v11] (.int x :: r) h 0 0 Q = AW sv 137 21 [v0, v1, v2, v3, v4, .int x, v6, v7, v8, v9, v10, v11] r h 0 0 Q := e_pv am_h137 dX9_oddsOf_19 rfl rfl rfl (am_sti_of (Nat.le_of_ble_eq_true rfl) (am_c1_of rfl hc))
theorem x137_21 : AW sv 137 21 [.ref a, v1, v2, v3, v4, v5, v6, v7, v8, v9, v10, v11] r h 0 0 Q = AW sv 137 22 [.ref a, v1, v2, v3, v4, v5, v6, v7, v8, v9, v10, v11] (.ref a :: r) h 0 0 Q := e_pv am_h137 dX9_oddsOf_21 rfl rfl rfl rfl
theorem x137_22 : AW sv 137 22 [v0, v1, v2, v3, v4, v5, v6, v7, v8, v9, v10, v11] (.ref 71 :: r) (am_toH σ) 0 0 Q = AW sv 137 25 [v0, v1, v2, v3, v4, v5, v6, v7, v8, v9, v10, v11] (.ref 73 :: r) (am_toH σ) 0 0 Q := e_getR am_h137 dX9_oddsOf_22 fl_9_13 is9 rfl
theorem x137_25 : AW sv 137 25 [v0, v1, .int x, v3, v4, v5, v6, v7, v8, v9, v10, v11] r h 0 0 Q = AW sv 137 26 [v0, v1, .int x, v3, v4, v5, v6, v7, v8, v9, v10, v11] (.int x :: r) h 0 0 Q := e_pv am_h137 dX9_oddsOf_25 rfl rfl rfl rfl
theorem x137_26 (hi : am_in x (am_ln a) = true) : AW sv 137 26 [v0, v1, v2, v3, v4, v5, v6, v7, v8, v9, v10, v11] (.int x :: .ref a :: r) (am_toH σ) 0 0 Q = AW sv 137 27 [v0, v1, v2, v3, v4, v5, v6, v7, v8, v9, v10, v11] (.int (σ.1 a x.toNatClampNeg) :: r) (am_toH σ) 0 0 Q := e_iald am_h137 dX9_oddsOf_26 hi
theorem x137_27 : AW sv 137 27 [v0, v1, v2, v3, v4, v5, v6, v7, v8, v9, v10, v11] r h 0 0 Q = AW sv 137 29 [v0, v1, v2, v3, v4, v5, v6, v7, v8, v9, v10, v11] (.int (10) :: r) h 0 0 Q := e_bipushv am_h137 dX9_oddsOf_27 c_bipush_10
theorem x137_29 (hy : ¬ y = 0) : AW sv 137 29 [v0, v1, v2, v3, v4, v5, v6, v7, v8, v9, v10, v11] (.int y :: .int x :: r) h 0 0 Q = AW sv 137 30 [v0, v1, v2, v3, v4, v5, v6, v7, v8, v9, v10, v11] (.int (x - x / y * y) :: r) h 0 0 Q := e_irem am_h137 dX9_oddsOf_29 hy
theorem x137_30 : AW sv 137 30 [v0, v1, v2, v3, .int x, v5, v6, v7, v8, v9, v10, v11] r h 0 0 Q = AW sv 137 32 [v0, v1, v2, v3, .int x, v5, v6, v7, v8, v9, v10, v11] (.int x :: r) h 0 0 Q := e_pv am_h137 dX9_oddsOf_30 rfl rfl rfl rfl
theorem x137_32 : AW sv 137 32 [v0, v1, v2, v3, v4, v5, v6, v7, v8, v9, v10, v11] r h 0 0 Q = AW sv 137 33 [v0, v1, v2, v3, v4, v5, v6, v7, v8, v9, v10, v11] (.int (4) :: r) h 0 0 Q := e_iconstv am_h137 dX9_oddsOf_32 c_iconst_4
theorem x137_33 (hy : ¬ y = 0) : AW sv 137 33 [v0, v1, v2, v3, v4, v5, v6, v7, v8, v9, v10, v11] (.int y :: .int x :: r) h 0 0 Q = AW sv 137 34 [v0, v1, v2, v3, v4, v5, v6, v7, v8, v9, v10, v11] (.int (x / y) :: r) h 0 0 Q := e_idiv am_h137 dX9_oddsOf_33 hy
theorem x137_34 : AW sv 137 34 [v0, v1, v2, v3, v4, v5, v6, v7, v8, v9, v10, v11] (.int y :: .int x :: r) h 0 0 Q = AW sv 137 35 [v0, v1, v2, v3, v4, v5, v6, v7, v8, v9, v10, v11] (.int (x - y) :: r) h 0 0 Q := e_isub am_h137 dX9_oddsOf_34
theorem x137_35 (hc : v5.category = 1) : AW sv 137 35 [v0, v1, v2, v3, v4, v5, v6, v7, v8, v9, v10, v11] (.int x :: r) h 0 0 Q = AW sv 137 37 [v0, v1, v2, v3, v4, v5, .int x, v7, v8, v9, v10, v11] r h 0 0 Q := e_pv am_h137 dX9_oddsOf_35 rfl rfl rfl (am_sti_of (Nat.le_of_ble_eq_true rfl) (am_c1_of rfl hc))
theorem x137_37 : AW sv 137 37 [v0, v1, v2, v3, v4, v5, .int x, v7, v8, v9, v10, v11] r h 0 0 Q = AW sv 137 39 [v0, v1, v2, v3, v4, v5, .int x, v7, v8, v9, v10, v11] (.int x :: r) h 0 0 Q := e_pv am_h137 dX9_oddsOf_37 rfl rfl rfl rfl
theorem x137_39 : AW sv 137 39 [v0, v1, v2, v3, v4, v5, v6, v7, v8, v9, v10, v11] r h 0 0 Q = AW sv 137 40 [v0, v1, v2, v3, v4, v5, v6, v7, v8, v9, v10, v11] (.int (1) :: r) h 0 0 Q := e_iconstv am_h137 dX9_oddsOf_39 c_iconst_1
theorem x137_40 : AW sv 137 40 [v0, v1, v2, v3, v4, v5, v6, v7, v8, v9, v10, v11] (.int y :: .int x :: r) h 0 0 Q = if y ≤ x then AW sv 137 47 [v0, v1, v2, v3, v4, v5, v6, v7, v8, v9, v10, v11] r h 0 0 Q else AW sv 137 43 [v0, v1, v2, v3, v4, v5, v6, v7, v8, v9, v10, v11] r h 0 0 Q := e_c_ge am_h137 dX9_oddsOf_40 rfl
theorem x137_43 : AW sv 137 43 [v0, v1, v2, v3, v4, v5, v6, v7, v8, v9, v10, v11] r h 0 0 Q = AW sv 137 44 [v0, v1, v2, v3, v4, v5, v6, v7, v8, v9, v10, v11] (.int (1) :: r) h 0 0 Q := e_iconstv am_h137 dX9_oddsOf_43 c_iconst_1
theorem x137_44 : AW sv 137 44 [v0, v1, v2, v3, v4, v5, v6, v7, v8, v9, v10, v11] r h 0 0 Q = AW sv 137 49 [v0, v1, v2, v3, v4, v5, v6, v7, v8, v9, v10, v11] r h 0 0 Q := e_goto am_h137 dX9_oddsOf_44 rfl
theorem x137_47 : AW sv 137 47 [v0, v1, v2, v3, v4, v5, .int x, v7, v8, v9, v10, v11] r h 0 0 Q = AW sv 137 49 [v0, v1, v2, v3, v4, v5, .int x, v7, v8, v9, v10, v11] (.int x :: r) h 0 0 Q := e_pv am_h137 dX9_oddsOf_47 rfl rfl rfl rfl
theorem x137_49 (hc : v5.category = 1) : AW sv 137 49 [v0, v1, v2, v3, v4, v5, v6, v7, v8, v9, v10, v11] (.int x :: r) h 0 0 Q = AW sv 137 51 [v0, v1, v2, v3, v4, v5, .int x, v7, v8, v9, v10, v11] r h 0 0 Q := e_pv am_h137 dX9_oddsOf_49 rfl rfl rfl (am_sti_of (Nat.le_of_ble_eq_true rfl) (am_c1_of rfl hc))
theorem x137_51 : AW sv 137 51 [.ref a, v1, v2, v3, v4, v5, v6, v7, v8, v9, v10, v11] r h 0 0 Q = AW sv 137 52 [.ref a, v1, v2, v3, v4, v5, v6, v7, v8, v9, v10, v11] (.ref a :: r) h 0 0 Q := e_pv am_h137 dX9_oddsOf_51 rfl rfl rfl rfl
theorem x137_52 : AW sv 137 52 [v0, .int x, v2, v3, v4, v5, v6, v7, v8, v9, v10, v11] r h 0 0 Q = AW sv 137 53 [v0, .int x, v2, v3, v4, v5, v6, v7, v8, v9, v10, v11] (.int x :: r) h 0 0 Q := e_pv am_h137 dX9_oddsOf_52 rfl rfl rfl rfl
theorem x137_53 : AW sv 137 53 [v0, v1, .int x, v3, v4, v5, v6, v7, v8, v9, v10, v11] r h 0 0 Q = AW sv 137 54 [v0, v1, .int x, v3, v4, v5, v6, v7, v8, v9, v10, v11] (.int x :: r) h 0 0 Q := e_pv am_h137 dX9_oddsOf_53 rfl rfl rfl rfl
theorem x137_54 (h8 : am_cs r ≤ 8) : AW sv 137 54 [v0, v1, v2, v3, v4, v5, v6, v7, v8, v9, v10, v11] (.int x1 :: .int x0 :: .ref 71 :: r) (am_toH σ) 0 0 Q = AM sv 133 [.ref 71, .int x0, .int x1] (am_toH σ) (fun v h1 => AW sv 137 57 [v0, v1, v2, v3, v4, v5, v6, v7, v8, v9, v10, v11] (v.toList ++ r) h1 0 0 Q) := e_cV (as := [.int x0, .int x1]) am_h137 dX9_oddsOf_54 ml_9_108 (by decide) am_h133 rfl is9 rfl rfl ⟨by decide, Nat.le_of_ble_eq_true rfl, am_rc_of (by decide) h8⟩
theorem x137_57 (hc : v6.category = 1) : AW sv 137 57 [v0, v1, v2, v3, v4, v5, v6, v7, v8, v9, v10, v11] (.int x :: r) h 0 0 Q = AW sv 137 59 [v0, v1, v2, v3, v4, v5, v6, .int x, v8, v9, v10, v11] r h 0 0 Q := e_pv am_h137 dX9_oddsOf_57 rfl rfl rfl (am_sti_of (Nat.le_of_ble_eq_true rfl) (am_c1_of rfl hc))
theorem x137_59 : AW sv 137 59 [v0, v1, v2, v3, v4, v5, v6, v7, v8, v9, v10, v11] r h 0 0 Q = AW sv 137 60 [v0, v1, v2, v3, v4, v5, v6, v7, v8, v9, v10, v11] (.long (0) :: r) h 0 0 Q := e_lconstv am_h137 dX9_oddsOf_59 c_l_0
theorem x137_60 (hc : v7.category = 1) : AW sv 137 60 [v0, v1, v2, v3, v4, v5, v6, v7, v8, v9, v10, v11] (.long u :: r) h 0 0 Q = AW sv 137 62 [v0, v1, v2, v3, v4, v5, v6, v7, .long u, .null, v10, v11] r h 0 0 Q := e_pv am_h137 dX9_oddsOf_60 rfl rfl rfl (am_stl_of (Nat.le_of_ble_eq_true rfl) (am_c1_of rfl hc))
theorem x137_62 : AW sv 137 62 [v0, v1, v2, v3, v4, v5, v6, v7, v8, v9, v10, v11] r h 0 0 Q = AW sv 137 63 [v0, v1, v2, v3, v4, v5, v6, v7, v8, v9, v10, v11] (.int (0) :: r) h 0 0 Q := e_iconstv am_h137 dX9_oddsOf_62 c_iconst_0
theorem x137_63 (hc : v9.category = 1) : AW sv 137 63 [v0, v1, v2, v3, v4, v5, v6, v7, v8, v9, v10, v11] (.int x :: r) h 0 0 Q = AW sv 137 65 [v0, v1, v2, v3, v4, v5, v6, v7, v8, v9, .int x, v11] r h 0 0 Q := e_pv am_h137 dX9_oddsOf_63 rfl rfl rfl (am_sti_of (Nat.le_of_ble_eq_true rfl) (am_c1_of rfl hc))
theorem x137_65 : AW sv 137 65 [v0, v1, v2, v3, v4, v5, v6, v7, v8, v9, .int x, v11] r h 0 0 Q = AW sv 137 67 [v0, v1, v2, v3, v4, v5, v6, v7, v8, v9, .int x, v11] (.int x :: r) h 0 0 Q := e_pv am_h137 dX9_oddsOf_65 rfl rfl rfl rfl
theorem x137_67 : AW sv 137 67 [v0, v1, v2, v3, v4, v5, v6, v7, v8, v9, v10, v11] r h 0 0 Q = AW sv 137 68 [v0, v1, v2, v3, v4, v5, v6, v7, v8, v9, v10, v11] (.int (4) :: r) h 0 0 Q := e_iconstv am_h137 dX9_oddsOf_67 c_iconst_4
theorem x137_68 : AW sv 137 68 [v0, v1, v2, v3, v4, v5, v6, v7, v8, v9, v10, v11] (.int y :: .int x :: r) h 0 0 Q = if y ≤ x then AW sv 137 111 [v0, v1, v2, v3, v4, v5, v6, v7, v8, v9, v10, v11] r h 0 0 Q else AW sv 137 71 [v0, v1, v2, v3, v4, v5, v6, v7, v8, v9, v10, v11] r h 0 0 Q := e_c_ge am_h137 dX9_oddsOf_68 rfl
theorem x137_71 : AW sv 137 71 [v0, v1, v2, v3, v4, v5, v6, v7, .long u, v9, v10, v11] r h 0 0 Q = AW sv 137 73 [v0, v1, v2, v3, v4, v5, v6, v7, .long u, v9, v10, v11] (.long u :: r) h 0 0 Q := e_pv am_h137 dX9_oddsOf_71 rfl rfl rfl rfl
theorem x137_73 : AW sv 137 73 [.ref a, v1, v2, v3, v4, v5, v6, v7, v8, v9, v10, v11] r h 0 0 Q = AW sv 137 74 [.ref a, v1, v2, v3, v4, v5, v6, v7, v8, v9, v10, v11] (.ref a :: r) h 0 0 Q := e_pv am_h137 dX9_oddsOf_73 rfl rfl rfl rfl
theorem x137_74 : AW sv 137 74 [.ref a, v1, v2, v3, v4, v5, v6, v7, v8, v9, v10, v11] r h 0 0 Q = AW sv 137 75 [.ref a, v1, v2, v3, v4, v5, v6, v7, v8, v9, v10, v11] (.ref a :: r) h 0 0 Q := e_pv am_h137 dX9_oddsOf_74 rfl rfl rfl rfl
theorem x137_75 : AW sv 137 75 [v0, v1, v2, v3, v4, v5, v6, v7, v8, v9, v10, v11] (.ref 71 :: r) (am_toH σ) 0 0 Q = AW sv 137 78 [v0, v1, v2, v3, v4, v5, v6, v7, v8, v9, v10, v11] (.ref 78 :: r) (am_toH σ) 0 0 Q := e_getR am_h137 dX9_oddsOf_75 fl_9_28 is9 rfl
theorem x137_78 : AW sv 137 78 [v0, v1, v2, v3, v4, v5, v6, v7, v8, v9, v10, v11] r h 0 0 Q = AW sv 137 79 [v0, v1, v2, v3, v4, v5, v6, v7, v8, v9, v10, v11] (.int (3) :: r) h 0 0 Q := e_iconstv am_h137 dX9_oddsOf_78 c_iconst_3
theorem x137_79 : AW sv 137 79 [v0, .int x, v2, v3, v4, v5, v6, v7, v8, v9, v10, v11] r h 0 0 Q = AW sv 137 80 [v0, .int x, v2, v3, v4, v5, v6, v7, v8, v9, v10, v11] (.int x :: r) h 0 0 Q := e_pv am_h137 dX9_oddsOf_79 rfl rfl rfl rfl
theorem x137_80 : AW sv 137 80 [v0, v1, v2, v3, v4, v5, v6, v7, v8, v9, v10, v11] (.int y :: .int x :: r) h 0 0 Q = AW sv 137 81 [v0, v1, v2, v3, v4, v5, v6, v7, v8, v9, v10, v11] (.int (x * y) :: r) h 0 0 Q := e_imul am_h137 dX9_oddsOf_80
theorem x137_81 : AW sv 137 81 [v0, v1, v2, v3, v4, v5, v6, v7, v8, v9, v10, v11] r h 0 0 Q = AW sv 137 82 [v0, v1, v2, v3, v4, v5, v6, v7, v8, v9, v10, v11] (.int (1) :: r) h 0 0 Q := e_iconstv am_h137 dX9_oddsOf_81 c_iconst_1
theorem x137_82 : AW sv 137 82 [v0, v1, v2, v3, v4, v5, v6, v7, v8, v9, v10, v11] (.int y :: .int x :: r) h 0 0 Q = AW sv 137 83 [v0, v1, v2, v3, v4, v5, v6, v7, v8, v9, v10, v11] (.int (x + y) :: r) h 0 0 Q := e_iadd am_h137 dX9_oddsOf_82
theorem x137_83 (hi : am_in x (am_ln a) = true) : AW sv 137 83 [v0, v1, v2, v3, v4, v5, v6, v7, v8, v9, v10, v11] (.int x :: .ref a :: r) (am_toH σ) 0 0 Q = AW sv 137 84 [v0, v1, v2, v3, v4, v5, v6, v7, v8, v9, v10, v11] (.int (σ.1 a x.toNatClampNeg) :: r) (am_toH σ) 0 0 Q := e_iald am_h137 dX9_oddsOf_83 hi
theorem x137_84 : AW sv 137 84 [.ref a, v1, v2, v3, v4, v5, v6, v7, v8, v9, v10, v11] r h 0 0 Q = AW sv 137 85 [.ref a, v1, v2, v3, v4, v5, v6, v7, v8, v9, v10, v11] (.ref a :: r) h 0 0 Q := e_pv am_h137 dX9_oddsOf_84 rfl rfl rfl rfl
theorem x137_85 : AW sv 137 85 [v0, v1, v2, v3, v4, v5, v6, v7, v8, v9, v10, v11] (.ref 71 :: r) (am_toH σ) 0 0 Q = AW sv 137 88 [v0, v1, v2, v3, v4, v5, v6, v7, v8, v9, v10, v11] (.ref 78 :: r) (am_toH σ) 0 0 Q := e_getR am_h137 dX9_oddsOf_85 fl_9_28 is9 rfl
theorem x137_88 : AW sv 137 88 [v0, v1, v2, v3, v4, v5, v6, v7, v8, v9, v10, v11] r h 0 0 Q = AW sv 137 89 [v0, v1, v2, v3, v4, v5, v6, v7, v8, v9, v10, v11] (.int (3) :: r) h 0 0 Q := e_iconstv am_h137 dX9_oddsOf_88 c_iconst_3
theorem x137_89 : AW sv 137 89 [v0, .int x, v2, v3, v4, v5, v6, v7, v8, v9, v10, v11] r h 0 0 Q = AW sv 137 90 [v0, .int x, v2, v3, v4, v5, v6, v7, v8, v9, v10, v11] (.int x :: r) h 0 0 Q := e_pv am_h137 dX9_oddsOf_89 rfl rfl rfl rfl
theorem x137_90 : AW sv 137 90 [v0, v1, v2, v3, v4, v5, v6, v7, v8, v9, v10, v11] (.int y :: .int x :: r) h 0 0 Q = AW sv 137 91 [v0, v1, v2, v3, v4, v5, v6, v7, v8, v9, v10, v11] (.int (x * y) :: r) h 0 0 Q := e_imul am_h137 dX9_oddsOf_90
theorem x137_91 : AW sv 137 91 [v0, v1, v2, v3, v4, v5, v6, v7, v8, v9, v10, v11] r h 0 0 Q = AW sv 137 92 [v0, v1, v2, v3, v4, v5, v6, v7, v8, v9, v10, v11] (.int (2) :: r) h 0 0 Q := e_iconstv am_h137 dX9_oddsOf_91 c_iconst_2
theorem x137_92 : AW sv 137 92 [v0, v1, v2, v3, v4, v5, v6, v7, v8, v9, v10, v11] (.int y :: .int x :: r) h 0 0 Q = AW sv 137 93 [v0, v1, v2, v3, v4, v5, v6, v7, v8, v9, v10, v11] (.int (x + y) :: r) h 0 0 Q := e_iadd am_h137 dX9_oddsOf_92
theorem x137_93 (hi : am_in x (am_ln a) = true) : AW sv 137 93 [v0, v1, v2, v3, v4, v5, v6, v7, v8, v9, v10, v11] (.int x :: .ref a :: r) (am_toH σ) 0 0 Q = AW sv 137 94 [v0, v1, v2, v3, v4, v5, v6, v7, v8, v9, v10, v11] (.int (σ.1 a x.toNatClampNeg) :: r) (am_toH σ) 0 0 Q := e_iald am_h137 dX9_oddsOf_93 hi
theorem x137_94 : AW sv 137 94 [v0, v1, .int x, v3, v4, v5, v6, v7, v8, v9, v10, v11] r h 0 0 Q = AW sv 137 95 [v0, v1, .int x, v3, v4, v5, v6, v7, v8, v9, v10, v11] (.int x :: r) h 0 0 Q := e_pv am_h137 dX9_oddsOf_94 rfl rfl rfl rfl
theorem x137_95 : AW sv 137 95 [v0, v1, v2, v3, v4, v5, v6, v7, v8, v9, .int x, v11] r h 0 0 Q = AW sv 137 97 [v0, v1, v2, v3, v4, v5, v6, v7, v8, v9, .int x, v11] (.int x :: r) h 0 0 Q := e_pv am_h137 dX9_oddsOf_95 rfl rfl rfl rfl
theorem x137_97 : AW sv 137 97 [v0, v1, v2, .int x, v4, v5, v6, v7, v8, v9, v10, v11] r h 0 0 Q = AW sv 137 98 [v0, v1, v2, .int x, v4, v5, v6, v7, v8, v9, v10, v11] (.int x :: r) h 0 0 Q := e_pv am_h137 dX9_oddsOf_97 rfl rfl rfl rfl
theorem x137_98 (h8 : am_cs r ≤ 8) : AW sv 137 98 [v0, v1, v2, v3, v4, v5, v6, v7, v8, v9, v10, v11] (.int x4 :: .int x3 :: .int x2 :: .int x1 :: .int x0 :: .ref 71 :: r) (am_toH σ) 0 0 Q = AM sv 131 [.ref 71, .int x0, .int x1, .int x2, .int x3, .int x4] (am_toH σ) (fun v h1 => AW sv 137 101 [v0, v1, v2, v3, v4, v5, v6, v7, v8, v9, v10, v11] (v.toList ++ r) h1 0 0 Q) := e_cV (as := [.int x0, .int x1, .int x2, .int x3, .int x4]) am_h137 dX9_oddsOf_98 ml_9_169 (by decide) am_h131 rfl is9 rfl rfl ⟨by decide, Nat.le_of_ble_eq_true rfl, am_rc_of (by decide) h8⟩
theorem x137_101 : AW sv 137 101 [v0, v1, v2, v3, v4, v5, v6, v7, v8, v9, v10, v11] (.int x :: r) h 0 0 Q = AW sv 137 102 [v0, v1, v2, v3, v4, v5, v6, v7, v8, v9, v10, v11] (.long x.toInt64 :: r) h 0 0 Q := e_i2l am_h137 dX9_oddsOf_101
theorem x137_102 : AW sv 137 102 [v0, v1, v2, v3, v4, v5, v6, v7, v8, v9, v10, v11] (.long w :: .long u :: r) h 0 0 Q = AW sv 137 103 [v0, v1, v2, v3, v4, v5, v6, v7, v8, v9, v10, v11] (.long (u + w) :: r) h 0 0 Q := e_ladd am_h137 dX9_oddsOf_102
theorem x137_103 (hc : v7.category = 1) : AW sv 137 103 [v0, v1, v2, v3, v4, v5, v6, v7, v8, v9, v10, v11] (.long u :: r) h 0 0 Q = AW sv 137 105 [v0, v1, v2, v3, v4, v5, v6, v7, .long u, .null, v10, v11] r h 0 0 Q := e_pv am_h137 dX9_oddsOf_103 rfl rfl rfl (am_stl_of (Nat.le_of_ble_eq_true rfl) (am_c1_of rfl hc))
theorem x137_105 (hc : v9.category = 1) : AW sv 137 105 [v0, v1, v2, v3, v4, v5, v6, v7, v8, v9, .int x, v11] r h 0 0 Q = AW sv 137 108 [v0, v1, v2, v3, v4, v5, v6, v7, v8, v9, .int (x + (1)), v11] r h 0 0 Q := e_pv am_h137 dX9_oddsOf_105 rfl rfl rfl (am_inc_of (ls := [v0, v1, v2, v3, v4, v5, v6, v7, v8, v9, .int x, v11]) (k := 10) rfl c_iconst_1 (am_c1_of (ls := [v0, v1, v2, v3, v4, v5, v6, v7, v8, v9, .int x, v11]) (k := 9) (v := v9) rfl hc))
theorem x137_108 : AW sv 137 108 [v0, v1, v2, v3, v4, v5, v6, v7, v8, v9, v10, v11] r h 0 0 Q = AW sv 137 65 [v0, v1, v2, v3, v4, v5, v6, v7, v8, v9, v10, v11] r h 0 0 Q := e_goto am_h137 dX9_oddsOf_108 rfl
theorem x137_111 : AW sv 137 111 [.ref a, v1, v2, v3, v4, v5, v6, v7, v8, v9, v10, v11] r h 0 0 Q = AW sv 137 112 [.ref a, v1, v2, v3, v4, v5, v6, v7, v8, v9, v10, v11] (.ref a :: r) h 0 0 Q := e_pv am_h137 dX9_oddsOf_111 rfl rfl rfl rfl
theorem x137_112 : AW sv 137 112 [.ref a, v1, v2, v3, v4, v5, v6, v7, v8, v9, v10, v11] r h 0 0 Q = AW sv 137 113 [.ref a, v1, v2, v3, v4, v5, v6, v7, v8, v9, v10, v11] (.ref a :: r) h 0 0 Q := e_pv am_h137 dX9_oddsOf_112 rfl rfl rfl rfl
theorem x137_113 : AW sv 137 113 [v0, v1, v2, v3, v4, v5, v6, v7, v8, v9, v10, v11] (.ref 71 :: r) (am_toH σ) 0 0 Q = AW sv 137 116 [v0, v1, v2, v3, v4, v5, v6, v7, v8, v9, v10, v11] (.ref 78 :: r) (am_toH σ) 0 0 Q := e_getR am_h137 dX9_oddsOf_113 fl_9_28 is9 rfl
theorem x137_116 : AW sv 137 116 [v0, v1, v2, v3, v4, v5, v6, v7, v8, v9, v10, v11] r h 0 0 Q = AW sv 137 117 [v0, v1, v2, v3, v4, v5, v6, v7, v8, v9, v10, v11] (.int (3) :: r) h 0 0 Q := e_iconstv am_h137 dX9_oddsOf_116 c_iconst_3
theorem x137_117 : AW sv 137 117 [v0, .int x, v2, v3, v4, v5, v6, v7, v8, v9, v10, v11] r h 0 0 Q = AW sv 137 118 [v0, .int x, v2, v3, v4, v5, v6, v7, v8, v9, v10, v11] (.int x :: r) h 0 0 Q := e_pv am_h137 dX9_oddsOf_117 rfl rfl rfl rfl
theorem x137_118 : AW sv 137 118 [v0, v1, v2, v3, v4, v5, v6, v7, v8, v9, v10, v11] (.int y :: .int x :: r) h 0 0 Q = AW sv 137 119 [v0, v1, v2, v3, v4, v5, v6, v7, v8, v9, v10, v11] (.int (x * y) :: r) h 0 0 Q := e_imul am_h137 dX9_oddsOf_118
theorem x137_119 : AW sv 137 119 [v0, v1, v2, v3, v4, v5, v6, v7, v8, v9, v10, v11] r h 0 0 Q = AW sv 137 120 [v0, v1, v2, v3, v4, v5, v6, v7, v8, v9, v10, v11] (.int (1) :: r) h 0 0 Q := e_iconstv am_h137 dX9_oddsOf_119 c_iconst_1
theorem x137_120 : AW sv 137 120 [v0, v1, v2, v3, v4, v5, v6, v7, v8, v9, v10, v11] (.int y :: .int x :: r) h 0 0 Q = AW sv 137 121 [v0, v1, v2, v3, v4, v5, v6, v7, v8, v9, v10, v11] (.int (x + y) :: r) h 0 0 Q := e_iadd am_h137 dX9_oddsOf_120
theorem x137_121 (hi : am_in x (am_ln a) = true) : AW sv 137 121 [v0, v1, v2, v3, v4, v5, v6, v7, v8, v9, v10, v11] (.int x :: .ref a :: r) (am_toH σ) 0 0 Q = AW sv 137 122 [v0, v1, v2, v3, v4, v5, v6, v7, v8, v9, v10, v11] (.int (σ.1 a x.toNatClampNeg) :: r) (am_toH σ) 0 0 Q := e_iald am_h137 dX9_oddsOf_121 hi
theorem x137_122 : AW sv 137 122 [.ref a, v1, v2, v3, v4, v5, v6, v7, v8, v9, v10, v11] r h 0 0 Q = AW sv 137 123 [.ref a, v1, v2, v3, v4, v5, v6, v7, v8, v9, v10, v11] (.ref a :: r) h 0 0 Q := e_pv am_h137 dX9_oddsOf_122 rfl rfl rfl rfl
theorem x137_123 : AW sv 137 123 [v0, v1, v2, v3, v4, v5, v6, v7, v8, v9, v10, v11] (.ref 71 :: r) (am_toH σ) 0 0 Q = AW sv 137 126 [v0, v1, v2, v3, v4, v5, v6, v7, v8, v9, v10, v11] (.ref 78 :: r) (am_toH σ) 0 0 Q := e_getR am_h137 dX9_oddsOf_123 fl_9_28 is9 rfl
theorem x137_126 : AW sv 137 126 [v0, v1, v2, v3, v4, v5, v6, v7, v8, v9, v10, v11] r h 0 0 Q = AW sv 137 127 [v0, v1, v2, v3, v4, v5, v6, v7, v8, v9, v10, v11] (.int (3) :: r) h 0 0 Q := e_iconstv am_h137 dX9_oddsOf_126 c_iconst_3
theorem x137_127 : AW sv 137 127 [v0, .int x, v2, v3, v4, v5, v6, v7, v8, v9, v10, v11] r h 0 0 Q = AW sv 137 128 [v0, .int x, v2, v3, v4, v5, v6, v7, v8, v9, v10, v11] (.int x :: r) h 0 0 Q := e_pv am_h137 dX9_oddsOf_127 rfl rfl rfl rfl
theorem x137_128 : AW sv 137 128 [v0, v1, v2, v3, v4, v5, v6, v7, v8, v9, v10, v11] (.int y :: .int x :: r) h 0 0 Q = AW sv 137 129 [v0, v1, v2, v3, v4, v5, v6, v7, v8, v9, v10, v11] (.int (x * y) :: r) h 0 0 Q := e_imul am_h137 dX9_oddsOf_128
theorem x137_129 : AW sv 137 129 [v0, v1, v2, v3, v4, v5, v6, v7, v8, v9, v10, v11] r h 0 0 Q = AW sv 137 130 [v0, v1, v2, v3, v4, v5, v6, v7, v8, v9, v10, v11] (.int (2) :: r) h 0 0 Q := e_iconstv am_h137 dX9_oddsOf_129 c_iconst_2
theorem x137_130 : AW sv 137 130 [v0, v1, v2, v3, v4, v5, v6, v7, v8, v9, v10, v11] (.int y :: .int x :: r) h 0 0 Q = AW sv 137 131 [v0, v1, v2, v3, v4, v5, v6, v7, v8, v9, v10, v11] (.int (x + y) :: r) h 0 0 Q := e_iadd am_h137 dX9_oddsOf_130
theorem x137_131 (hi : am_in x (am_ln a) = true) : AW sv 137 131 [v0, v1, v2, v3, v4, v5, v6, v7, v8, v9, v10, v11] (.int x :: .ref a :: r) (am_toH σ) 0 0 Q = AW sv 137 132 [v0, v1, v2, v3, v4, v5, v6, v7, v8, v9, v10, v11] (.int (σ.1 a x.toNatClampNeg) :: r) (am_toH σ) 0 0 Q := e_iald am_h137 dX9_oddsOf_131 hi
theorem x137_132 : AW sv 137 132 [v0, v1, .int x, v3, v4, v5, v6, v7, v8, v9, v10, v11] r h 0 0 Q = AW sv 137 133 [v0, v1, .int x, v3, v4, v5, v6, v7, v8, v9, v10, v11] (.int x :: r) h 0 0 Q := e_pv am_h137 dX9_oddsOf_132 rfl rfl rfl rfl
theorem x137_133 : AW sv 137 133 [v0, v1, v2, v3, v4, .int x, v6, v7, v8, v9, v10, v11] r h 0 0 Q = AW sv 137 135 [v0, v1, v2, v3, v4, .int x, v6, v7, v8, v9, v10, v11] (.int x :: r) h 0 0 Q := e_pv am_h137 dX9_oddsOf_133 rfl rfl rfl rfl
theorem x137_135 : AW sv 137 135 [v0, v1, v2, .int x, v4, v5, v6, v7, v8, v9, v10, v11] r h 0 0 Q = AW sv 137 136 [v0, v1, v2, .int x, v4, v5, v6, v7, v8, v9, v10, v11] (.int x :: r) h 0 0 Q := e_pv am_h137 dX9_oddsOf_135 rfl rfl rfl rfl
theorem x137_136 (h8 : am_cs r ≤ 8) : AW sv 137 136 [v0, v1, v2, v3, v4, v5, v6, v7, v8, v9, v10, v11] (.int x4 :: .int x3 :: .int x2 :: .int x1 :: .int x0 :: .ref 71 :: r) (am_toH σ) 0 0 Q = AM sv 131 [.ref 71, .int x0, .int x1, .int x2, .int x3, .int x4] (am_toH σ) (fun v h1 => AW sv 137 139 [v0, v1, v2, v3, v4, v5, v6, v7, v8, v9, v10, v11] (v.toList ++ r) h1 0 0 Q) := e_cV (as := [.int x0, .int x1, .int x2, .int x3, .int x4]) am_h137 dX9_oddsOf_136 ml_9_169 (by decide) am_h131 rfl is9 rfl rfl ⟨by decide, Nat.le_of_ble_eq_true rfl, am_rc_of (by decide) h8⟩
theorem x137_139 : AW sv 137 139 [v0, v1, v2, v3, v4, v5, v6, v7, v8, v9, v10, v11] (.int x :: r) h 0 0 Q = AW sv 137 140 [v0, v1, v2, v3, v4, v5, v6, v7, v8, v9, v10, v11] (.long x.toInt64 :: r) h 0 0 Q := e_i2l am_h137 dX9_oddsOf_139
theorem x137_140 (hc : v9.category = 1) : AW sv 137 140 [v0, v1, v2, v3, v4, v5, v6, v7, v8, v9, v10, v11] (.long u :: r) h 0 0 Q = AW sv 137 142 [v0, v1, v2, v3, v4, v5, v6, v7, v8, v9, .long u, .null] r h 0 0 Q := e_pv am_h137 dX9_oddsOf_140 rfl rfl rfl (am_stl_of (Nat.le_of_ble_eq_true rfl) (am_c1_of rfl hc))
theorem x137_142 : AW sv 137 142 [.ref a, v1, v2, v3, v4, v5, v6, v7, v8, v9, v10, v11] r h 0 0 Q = AW sv 137 143 [.ref a, v1, v2, v3, v4, v5, v6, v7, v8, v9, v10, v11] (.ref a :: r) h 0 0 Q := e_pv am_h137 dX9_oddsOf_142 rfl rfl rfl rfl
theorem x137_143 : AW sv 137 143 [v0, v1, v2, v3, v4, v5, v6, v7, v8, v9, .long u, v11] r h 0 0 Q = AW sv 137 145 [v0, v1, v2, v3, v4, v5, v6, v7, v8, v9, .long u, v11] (.long u :: r) h 0 0 Q := e_pv am_h137 dX9_oddsOf_143 rfl rfl rfl rfl
theorem x137_145 : AW sv 137 145 [v0, v1, v2, v3, v4, v5, v6, .int x, v8, v9, v10, v11] r h 0 0 Q = AW sv 137 147 [v0, v1, v2, v3, v4, v5, v6, .int x, v8, v9, v10, v11] (.int x :: r) h 0 0 Q := e_pv am_h137 dX9_oddsOf_145 rfl rfl rfl rfl
theorem x137_147 : AW sv 137 147 [v0, v1, v2, v3, v4, v5, v6, v7, v8, v9, v10, v11] (.int x :: r) h 0 0 Q = AW sv 137 148 [v0, v1, v2, v3, v4, v5, v6, v7, v8, v9, v10, v11] (.long x.toInt64 :: r) h 0 0 Q := e_i2l am_h137 dX9_oddsOf_147
theorem x137_148 : AW sv 137 148 [v0, v1, v2, v3, v4, v5, v6, v7, v8, v9, v10, v11] (.long w :: .long u :: r) h 0 0 Q = AW sv 137 149 [v0, v1, v2, v3, v4, v5, v6, v7, v8, v9, v10, v11] (.long (u * w) :: r) h 0 0 Q := e_lmul am_h137 dX9_oddsOf_148
theorem x137_149 : AW sv 137 149 [v0, v1, v2, v3, v4, v5, .int x, v7, v8, v9, v10, v11] r h 0 0 Q = AW sv 137 151 [v0, v1, v2, v3, v4, v5, .int x, v7, v8, v9, v10, v11] (.int x :: r) h 0 0 Q := e_pv am_h137 dX9_oddsOf_149 rfl rfl rfl rfl
theorem x137_151 : AW sv 137 151 [v0, v1, v2, v3, v4, v5, v6, v7, v8, v9, v10, v11] (.int x :: r) h 0 0 Q = AW sv 137 152 [v0, v1, v2, v3, v4, v5, v6, v7, v8, v9, v10, v11] (.long x.toInt64 :: r) h 0 0 Q := e_i2l am_h137 dX9_oddsOf_151
theorem x137_152 : AW sv 137 152 [v0, v1, v2, v3, v4, v5, v6, v7, v8, v9, v10, v11] (.long w :: .long u :: r) h 0 0 Q = AW sv 137 153 [v0, v1, v2, v3, v4, v5, v6, v7, v8, v9, v10, v11] (.long (u * w) :: r) h 0 0 Q := e_lmul am_h137 dX9_oddsOf_152
theorem x137_153 : AW sv 137 153 [v0, v1, v2, v3, v4, v5, .int x, v7, v8, v9, v10, v11] r h 0 0 Q = AW sv 137 155 [v0, v1, v2, v3, v4, v5, .int x, v7, v8, v9, v10, v11] (.int x :: r) h 0 0 Q := e_pv am_h137 dX9_oddsOf_153 rfl rfl rfl rfl
theorem x137_155 : AW sv 137 155 [v0, v1, v2, v3, v4, v5, v6, v7, v8, v9, v10, v11] r h 0 0 Q = AW sv 137 157 [v0, v1, v2, v3, v4, v5, v6, v7, v8, v9, v10, v11] (.int (6) :: r) h 0 0 Q := e_bipushv am_h137 dX9_oddsOf_155 c_bipush_6
theorem x137_157 : AW sv 137 157 [v0, v1, v2, v3, v4, v5, v6, v7, v8, v9, v10, v11] (.int y :: .int x :: r) h 0 0 Q = if x ≤ y then AW sv 137 179 [v0, v1, v2, v3, v4, v5, v6, v7, v8, v9, v10, v11] r h 0 0 Q else AW sv 137 160 [v0, v1, v2, v3, v4, v5, v6, v7, v8, v9, v10, v11] r h 0 0 Q := e_c_le am_h137 dX9_oddsOf_157 rfl
theorem x137_160 : AW sv 137 160 [v0, v1, v2, v3, v4, v5, v6, v7, .long u, v9, v10, v11] r h 0 0 Q = AW sv 137 162 [v0, v1, v2, v3, v4, v5, v6, v7, .long u, v9, v10, v11] (.long u :: r) h 0 0 Q := e_pv am_h137 dX9_oddsOf_160 rfl rfl rfl rfl
theorem x137_162 : AW sv 137 162 [v0, v1, v2, v3, v4, v5, v6, v7, v8, v9, .long u, v11] r h 0 0 Q = AW sv 137 164 [v0, v1, v2, v3, v4, v5, v6, v7, v8, v9, .long u, v11] (.long u :: r) h 0 0 Q := e_pv am_h137 dX9_oddsOf_162 rfl rfl rfl rfl
theorem x137_164 : AW sv 137 164 [v0, v1, v2, v3, v4, v5, v6, v7, v8, v9, v10, v11] (.long w :: .long u :: r) h 0 0 Q = AW sv 137 165 [v0, v1, v2, v3, v4, v5, v6, v7, v8, v9, v10, v11] (.long (u - w) :: r) h 0 0 Q := e_lsub am_h137 dX9_oddsOf_164
theorem x137_165 : AW sv 137 165 [v0, v1, v2, v3, v4, v5, v6, .int x, v8, v9, v10, v11] r h 0 0 Q = AW sv 137 167 [v0, v1, v2, v3, v4, v5, v6, .int x, v8, v9, v10, v11] (.int x :: r) h 0 0 Q := e_pv am_h137 dX9_oddsOf_165 rfl rfl rfl rfl
theorem x137_167 : AW sv 137 167 [v0, v1, v2, v3, v4, v5, v6, v7, v8, v9, v10, v11] (.int x :: r) h 0 0 Q = AW sv 137 168 [v0, v1, v2, v3, v4, v5, v6, v7, v8, v9, v10, v11] (.long x.toInt64 :: r) h 0 0 Q := e_i2l am_h137 dX9_oddsOf_167
theorem x137_168 : AW sv 137 168 [v0, v1, v2, v3, v4, v5, v6, v7, v8, v9, v10, v11] (.long w :: .long u :: r) h 0 0 Q = AW sv 137 169 [v0, v1, v2, v3, v4, v5, v6, v7, v8, v9, v10, v11] (.long (u * w) :: r) h 0 0 Q := e_lmul am_h137 dX9_oddsOf_168
theorem x137_169 : AW sv 137 169 [v0, v1, v2, v3, v4, v5, .int x, v7, v8, v9, v10, v11] r h 0 0 Q = AW sv 137 171 [v0, v1, v2, v3, v4, v5, .int x, v7, v8, v9, v10, v11] (.int x :: r) h 0 0 Q := e_pv am_h137 dX9_oddsOf_169 rfl rfl rfl rfl
theorem x137_171 : AW sv 137 171 [v0, v1, v2, v3, v4, v5, v6, v7, v8, v9, v10, v11] r h 0 0 Q = AW sv 137 173 [v0, v1, v2, v3, v4, v5, v6, v7, v8, v9, v10, v11] (.int (6) :: r) h 0 0 Q := e_bipushv am_h137 dX9_oddsOf_171 c_bipush_6
theorem x137_173 : AW sv 137 173 [v0, v1, v2, v3, v4, v5, v6, v7, v8, v9, v10, v11] (.int y :: .int x :: r) h 0 0 Q = AW sv 137 174 [v0, v1, v2, v3, v4, v5, v6, v7, v8, v9, v10, v11] (.int (x - y) :: r) h 0 0 Q := e_isub am_h137 dX9_oddsOf_173
theorem x137_174 : AW sv 137 174 [v0, v1, v2, v3, v4, v5, v6, v7, v8, v9, v10, v11] (.int x :: r) h 0 0 Q = AW sv 137 175 [v0, v1, v2, v3, v4, v5, v6, v7, v8, v9, v10, v11] (.long x.toInt64 :: r) h 0 0 Q := e_i2l am_h137 dX9_oddsOf_174
theorem x137_175 : AW sv 137 175 [v0, v1, v2, v3, v4, v5, v6, v7, v8, v9, v10, v11] (.long w :: .long u :: r) h 0 0 Q = AW sv 137 176 [v0, v1, v2, v3, v4, v5, v6, v7, v8, v9, v10, v11] (.long (u * w) :: r) h 0 0 Q := e_lmul am_h137 dX9_oddsOf_175
theorem x137_176 : AW sv 137 176 [v0, v1, v2, v3, v4, v5, v6, v7, v8, v9, v10, v11] r h 0 0 Q = AW sv 137 180 [v0, v1, v2, v3, v4, v5, v6, v7, v8, v9, v10, v11] r h 0 0 Q := e_goto am_h137 dX9_oddsOf_176 rfl
theorem x137_179 : AW sv 137 179 [v0, v1, v2, v3, v4, v5, v6, v7, v8, v9, v10, v11] r h 0 0 Q = AW sv 137 180 [v0, v1, v2, v3, v4, v5, v6, v7, v8, v9, v10, v11] (.long (0) :: r) h 0 0 Q := e_lconstv am_h137 dX9_oddsOf_179 c_l_0
theorem x137_180 : AW sv 137 180 [v0, v1, v2, v3, v4, v5, v6, v7, v8, v9, v10, v11] (.long w :: .long u :: r) h 0 0 Q = AW sv 137 181 [v0, v1, v2, v3, v4, v5, v6, v7, v8, v9, v10, v11] (.long (u + w) :: r) h 0 0 Q := e_ladd am_h137 dX9_oddsOf_180
theorem x137_181 : AW sv 137 181 [v0, v1, v2, v3, v4, v5, v6, v7, v8, v9, v10, v11] (.long u :: .ref 71 :: r) (am_toH σ) 0 0 Q = AW sv 137 184 [v0, v1, v2, v3, v4, v5, v6, v7, v8, v9, v10, v11] r (am_toH (am_wl σ 14 u)) 0 0 Q := e_putL am_h137 dX9_oddsOf_181 fl_9_177 rfl rfl rfl
theorem x137_184 : AW sv 137 184 [.ref a, v1, v2, v3, v4, v5, v6, v7, v8, v9, v10, v11] r h 0 0 Q = AW sv 137 185 [.ref a, v1, v2, v3, v4, v5, v6, v7, v8, v9, v10, v11] (.ref a :: r) h 0 0 Q := e_pv am_h137 dX9_oddsOf_184 rfl rfl rfl rfl
theorem x137_185 : AW sv 137 185 [.ref a, v1, v2, v3, v4, v5, v6, v7, v8, v9, v10, v11] r h 0 0 Q = AW sv 137 186 [.ref a, v1, v2, v3, v4, v5, v6, v7, v8, v9, v10, v11] (.ref a :: r) h 0 0 Q := e_pv am_h137 dX9_oddsOf_185 rfl rfl rfl rfl
theorem x137_186 : AW sv 137 186 [v0, v1, v2, v3, .int x, v5, v6, v7, v8, v9, v10, v11] r h 0 0 Q = AW sv 137 188 [v0, v1, v2, v3, .int x, v5, v6, v7, v8, v9, v10, v11] (.int x :: r) h 0 0 Q := e_pv am_h137 dX9_oddsOf_186 rfl rfl rfl rfl
theorem x137_188 : AW sv 137 188 [v0, v1, v2, v3, v4, .int x, v6, v7, v8, v9, v10, v11] r h 0 0 Q = AW sv 137 190 [v0, v1, v2, v3, v4, .int x, v6, v7, v8, v9, v10, v11] (.int x :: r) h 0 0 Q := e_pv am_h137 dX9_oddsOf_188 rfl rfl rfl rfl
theorem x137_190 : AW sv 137 190 [.ref a, v1, v2, v3, v4, v5, v6, v7, v8, v9, v10, v11] r h 0 0 Q = AW sv 137 191 [.ref a, v1, v2, v3, v4, v5, v6, v7, v8, v9, v10, v11] (.ref a :: r) h 0 0 Q := e_pv am_h137 dX9_oddsOf_190 rfl rfl rfl rfl
theorem x137_191 : AW sv 137 191 [v0, v1, v2, v3, v4, v5, v6, v7, v8, v9, v10, v11] (.ref 71 :: r) (am_toH σ) 0 0 Q = AW sv 137 194 [v0, v1, v2, v3, v4, v5, v6, v7, v8, v9, v10, v11] (.int (σ.1 71 5) :: r) (am_toH σ) 0 0 Q := e_getI am_h137 dX9_oddsOf_191 fl_9_64 is9 rfl
theorem x137_194 (h8 : am_cs r ≤ 8) : AW sv 137 194 [v0, v1, v2, v3, v4, v5, v6, v7, v8, v9, v10, v11] (.int x2 :: .int x1 :: .int x0 :: .ref 71 :: r) (am_toH σ) 0 0 Q = AM sv 135 [.ref 71, .int x0, .int x1, .int x2] (am_toH σ) (fun v h1 => AW sv 137 197 [v0, v1, v2, v3, v4, v5, v6, v7, v8, v9, v10, v11] (v.toList ++ r) h1 0 0 Q) := e_cV (as := [.int x0, .int x1, .int x2]) am_h137 dX9_oddsOf_194 ml_9_173 (by decide) am_h135 rfl is9 rfl rfl ⟨by decide, Nat.le_of_ble_eq_true rfl, am_rc_of (by decide) h8⟩
theorem x137_197 : AW sv 137 197 [v0, v1, v2, v3, v4, v5, v6, v7, v8, v9, v10, v11] (.int x :: r) h 0 0 Q = if x = 0 then AW sv 137 207 [v0, v1, v2, v3, v4, v5, v6, v7, v8, v9, v10, v11] r h 0 0 Q else AW sv 137 200 [v0, v1, v2, v3, v4, v5, v6, v7, v8, v9, v10, v11] r h 0 0 Q := e_z_eq am_h137 dX9_oddsOf_197 rfl
theorem x137_200 : AW sv 137 200 [.ref a, v1, v2, v3, v4, v5, v6, v7, v8, v9, v10, v11] r h 0 0 Q = AW sv 137 201 [.ref a, v1, v2, v3, v4, v5, v6, v7, v8, v9, v10, v11] (.ref a :: r) h 0 0 Q := e_pv am_h137 dX9_oddsOf_200 rfl rfl rfl rfl
theorem x137_201 : AW sv 137 201 [v0, v1, v2, v3, v4, v5, v6, v7, v8, v9, v10, v11] (.ref 71 :: r) (am_toH σ) 0 0 Q = AW sv 137 204 [v0, v1, v2, v3, v4, v5, v6, v7, v8, v9, v10, v11] (.long (σ.2 14) :: r) (am_toH σ) 0 0 Q := e_getL am_h137 dX9_oddsOf_201 fl_9_177 is9 rfl
theorem x137_204 : AW sv 137 204 [v0, v1, v2, v3, v4, v5, v6, v7, v8, v9, v10, v11] r h 0 0 Q = AW sv 137 208 [v0, v1, v2, v3, v4, v5, v6, v7, v8, v9, v10, v11] r h 0 0 Q := e_goto am_h137 dX9_oddsOf_204 rfl
theorem x137_207 : AW sv 137 207 [v0, v1, v2, v3, v4, v5, v6, v7, v8, v9, v10, v11] r h 0 0 Q = AW sv 137 208 [v0, v1, v2, v3, v4, v5, v6, v7, v8, v9, v10, v11] (.long (0) :: r) h 0 0 Q := e_lconstv am_h137 dX9_oddsOf_207 c_l_0
theorem x137_208 : AW sv 137 208 [v0, v1, v2, v3, v4, v5, v6, v7, v8, v9, v10, v11] (.long u :: .ref 71 :: r) (am_toH σ) 0 0 Q = AW sv 137 211 [v0, v1, v2, v3, v4, v5, v6, v7, v8, v9, v10, v11] r (am_toH (am_wl σ 14 u)) 0 0 Q := e_putL am_h137 dX9_oddsOf_208 fl_9_177 rfl rfl rfl
theorem x137_211 : AW sv 137 211 [.ref a, v1, v2, v3, v4, v5, v6, v7, v8, v9, v10, v11] r h 0 0 Q = AW sv 137 212 [.ref a, v1, v2, v3, v4, v5, v6, v7, v8, v9, v10, v11] (.ref a :: r) h 0 0 Q := e_pv am_h137 dX9_oddsOf_211 rfl rfl rfl rfl
theorem x137_212 : AW sv 137 212 [v0, v1, v2, v3, v4, v5, v6, v7, v8, v9, v10, v11] r h 0 0 Q = AW sv 137 215 [v0, v1, v2, v3, v4, v5, v6, v7, v8, v9, v10, v11] (.long (81) :: r) h 0 0 Q := e_ldc2 am_h137 dX9_oddsOf_212 (by decide +kernel)
theorem x137_215 : AW sv 137 215 [v0, v1, v2, v3, v4, v5, v6, v7, .long u, v9, v10, v11] r h 0 0 Q = AW sv 137 217 [v0, v1, v2, v3, v4, v5, v6, v7, .long u, v9, v10, v11] (.long u :: r) h 0 0 Q := e_pv am_h137 dX9_oddsOf_215 rfl rfl rfl rfl
theorem x137_217 : AW sv 137 217 [v0, v1, v2, v3, v4, v5, v6, v7, v8, v9, v10, v11] (.long w :: .long u :: r) h 0 0 Q = AW sv 137 218 [v0, v1, v2, v3, v4, v5, v6, v7, v8, v9, v10, v11] (.long (u * w) :: r) h 0 0 Q := e_lmul am_h137 dX9_oddsOf_217
theorem x137_218 : AW sv 137 218 [v0, v1, v2, v3, v4, v5, v6, v7, v8, v9, v10, v11] (.long u :: .ref 71 :: r) (am_toH σ) 0 0 Q = AW sv 137 221 [v0, v1, v2, v3, v4, v5, v6, v7, v8, v9, v10, v11] r (am_toH (am_wl σ 15 u)) 0 0 Q := e_putL am_h137 dX9_oddsOf_218 fl_9_183 rfl rfl rfl
theorem x137_221 : AW sv 137 221 [v0, v1, v2, v3, v4, v5, v6, v7, v8, v9, v10, v11] [] h 0 0 Q = Q none h := e_vret am_h137 dX9_oddsOf_221 rfl ⟨rfl, rfl⟩
theorem n137 : AM sv 137 [.ref a, .int x0, .int x1, .int x2] h Q = AW sv 137 0 [.ref a, .int x0, .int x1, .int x2, .null, .null, .null, .null, .null, .null, .null, .null] [] h 0 0 Q := rfl
theorem x138_0 : AW sv 138 0 [.ref a, v1, v2, v3, v4, v5, v6, v7, v8, v9, v10] r h 0 0 Q = AW sv 138 1 [.ref a, v1, v2, v3, v4, v5, v6, v7, v8, v9, v10] (.ref a :: r) h 0 0 Q := e_pv am_h138 dX9_odds_0 rfl rfl rfl rfl
theorem x138_1 : AW sv 138 1 [v0, .int x, v2, v3, v4, v5, v6, v7, v8, v9, v10] r h 0 0 Q = AW sv 138 2 [v0, .int x, v2, v3, v4, v5, v6, v7, v8, v9, v10] (.int x :: r) h 0 0 Q := e_pv am_h138 dX9_odds_1 rfl rfl rfl rfl
theorem x138_2 (h8 : am_cs r ≤ 8) : AW sv 138 2 [v0, v1, v2, v3, v4, v5, v6, v7, v8, v9, v10] (.int x0 :: .ref 71 :: r) (am_toH σ) 0 0 Q = AM sv 108 [.ref 71, .int x0] (am_toH σ) (fun v h1 => AW sv 138 5 [v0, v1, v2, v3, v4, v5, v6, v7, v8, v9, v10] (v.toList ++ r) h1 0 0 Q) := e_cV (as := [.int x0]) am_h138 dX9_odds_2 ml_9_105 (by decide) am_h108 rfl is9 rfl rfl ⟨by decide, Nat.le_of_ble_eq_true rfl, am_rc_of (by decide) h8⟩
theorem x138_5 : AW sv 138 5 [v0, v1, v2, v3, v4, v5, v6, v7, v8, v9, v10] (.int x :: r) h 0 0 Q = if x = 0 then AW sv 138 38 [v0, v1, v2, v3, v4, v5, v6, v7, v8, v9, v10] r h 0 0 Q else AW sv 138 8 [v0, v1, v2, v3, v4, v5, v6, v7, v8, v9, v10] r h 0 0 Q := e_z_eq am_h138 dX9_odds_5 rfl
theorem x138_8 : AW sv 138 8 [v0, v1, .int x, v3, v4, v5, v6, v7, v8, v9, v10] r h 0 0 Q = AW sv 138 9 [v0, v1, .int x, v3, v4, v5, v6, v7, v8, v9, v10] (.int x :: r) h 0 0 Q := e_pv am_h138 dX9_odds_8 rfl rfl rfl rfl
theorem x138_9 (h8 : am_cs r ≤ 8) : AW sv 138 9 [v0, v1, v2, v3, v4, v5, v6, v7, v8, v9, v10] (.int x0 :: r) h 0 0 Q = AM sv 106 [.int x0] h (fun v h1 => AW sv 138 12 [v0, v1, v2, v3, v4, v5, v6, v7, v8, v9, v10] (v.toList ++ r) h1 0 0 Q) := e_cS (as := [.int x0]) am_h138 dX9_odds_9 ml_9_79 (by decide) am_h106 rfl rfl rfl ⟨by decide, Nat.le_of_ble_eq_true rfl, am_rc_of (by decide) h8⟩
theorem x138_12 : AW sv 138 12 [v0, v1, v2, v3, v4, v5, v6, v7, v8, v9, v10] (.int x :: r) h 0 0 Q = if x = 0 then AW sv 138 38 [v0, v1, v2, v3, v4, v5, v6, v7, v8, v9, v10] r h 0 0 Q else AW sv 138 15 [v0, v1, v2, v3, v4, v5, v6, v7, v8, v9, v10] r h 0 0 Q := e_z_eq am_h138 dX9_odds_12 rfl
theorem x138_15 : AW sv 138 15 [v0, v1, v2, .int x, v4, v5, v6, v7, v8, v9, v10] r h 0 0 Q = AW sv 138 16 [v0, v1, v2, .int x, v4, v5, v6, v7, v8, v9, v10] (.int x :: r) h 0 0 Q := e_pv am_h138 dX9_odds_15 rfl rfl rfl rfl
theorem x138_16 : AW sv 138 16 [v0, v1, v2, v3, v4, v5, v6, v7, v8, v9, v10] (.int x :: r) h 0 0 Q = AW sv 138 17 [v0, v1, v2, v3, v4, v5, v6, v7, v8, v9, v10] (.long x.toInt64 :: r) h 0 0 Q := e_i2l am_h138 dX9_odds_16
theorem x138_17 : AW sv 138 17 [v0, v1, v2, v3, v4, v5, v6, v7, v8, v9, v10] r h 0 0 Q = AW sv 138 18 [v0, v1, v2, v3, v4, v5, v6, v7, v8, v9, v10] (.long (1) :: r) h 0 0 Q := e_lconstv am_h138 dX9_odds_17 c_l_1
theorem x138_18 : AW sv 138 18 [v0, v1, v2, v3, v4, v5, v6, v7, v8, v9, v10] r h 0 0 Q = AW sv 138 21 [v0, v1, v2, v3, v4, v5, v6, v7, v8, v9, v10] (.long (9) :: r) h 0 0 Q := e_ldc2 am_h138 dX9_odds_18 (by decide +kernel)
theorem x138_21 (h8 : am_cs r ≤ 8) : AW sv 138 21 [v0, v1, v2, v3, v4, v5, v6, v7, v8, v9, v10] (.long u2 :: .long u1 :: .long u0 :: r) h 0 0 Q = AM sv 104 [.long u0, .long u1, .long u2] h (fun v h1 => AW sv 138 24 [v0, v1, v2, v3, v4, v5, v6, v7, v8, v9, v10] (v.toList ++ r) h1 0 0 Q) := e_cS (as := [.long u0, .long u1, .long u2]) am_h138 dX9_odds_21 ml_9_70 (by decide) am_h104 rfl rfl rfl ⟨by decide, Nat.le_of_ble_eq_true rfl, am_rc_of (by decide) h8⟩
theorem x138_24 : AW sv 138 24 [v0, v1, v2, v3, v4, v5, v6, v7, v8, v9, v10] (.int x :: r) h 0 0 Q = if x = 0 then AW sv 138 38 [v0, v1, v2, v3, v4, v5, v6, v7, v8, v9, v10] r h 0 0 Q else AW sv 138 27 [v0, v1, v2, v3, v4, v5, v6, v7, v8, v9, v10] r h 0 0 Q := e_z_eq am_h138 dX9_odds_24 rfl
theorem x138_27 : AW sv 138 27 [v0, v1, v2, v3, .int x, v5, v6, v7, v8, v9, v10] r h 0 0 Q = AW sv 138 29 [v0, v1, v2, v3, .int x, v5, v6, v7, v8, v9, v10] (.int x :: r) h 0 0 Q := e_pv am_h138 dX9_odds_27 rfl rfl rfl rfl
theorem x138_29 : AW sv 138 29 [v0, v1, v2, v3, v4, v5, v6, v7, v8, v9, v10] (.int x :: r) h 0 0 Q = AW sv 138 30 [v0, v1, v2, v3, v4, v5, v6, v7, v8, v9, v10] (.long x.toInt64 :: r) h 0 0 Q := e_i2l am_h138 dX9_odds_29
theorem x138_30 : AW sv 138 30 [v0, v1, v2, v3, v4, v5, v6, v7, v8, v9, v10] r h 0 0 Q = AW sv 138 31 [v0, v1, v2, v3, v4, v5, v6, v7, v8, v9, v10] (.long (0) :: r) h 0 0 Q := e_lconstv am_h138 dX9_odds_30 c_l_0
theorem x138_31 : AW sv 138 31 [v0, v1, v2, v3, v4, v5, v6, v7, v8, v9, v10] r h 0 0 Q = AW sv 138 32 [v0, v1, v2, v3, v4, v5, v6, v7, v8, v9, v10] (.long (1) :: r) h 0 0 Q := e_lconstv am_h138 dX9_odds_31 c_l_1
theorem x138_32 (h8 : am_cs r ≤ 8) : AW sv 138 32 [v0, v1, v2, v3, v4, v5, v6, v7, v8, v9, v10] (.long u2 :: .long u1 :: .long u0 :: r) h 0 0 Q = AM sv 104 [.long u0, .long u1, .long u2] h (fun v h1 => AW sv 138 35 [v0, v1, v2, v3, v4, v5, v6, v7, v8, v9, v10] (v.toList ++ r) h1 0 0 Q) := e_cS (as := [.long u0, .long u1, .long u2]) am_h138 dX9_odds_32 ml_9_70 (by decide) am_h104 rfl rfl rfl ⟨by decide, Nat.le_of_ble_eq_true rfl, am_rc_of (by decide) h8⟩
theorem x138_35 : AW sv 138 35 [v0, v1, v2, v3, v4, v5, v6, v7, v8, v9, v10] (.int x :: r) h 0 0 Q = if ¬ x = 0 then AW sv 138 40 [v0, v1, v2, v3, v4, v5, v6, v7, v8, v9, v10] r h 0 0 Q else AW sv 138 38 [v0, v1, v2, v3, v4, v5, v6, v7, v8, v9, v10] r h 0 0 Q := e_z_ne am_h138 dX9_odds_35 rfl
theorem x138_38 : AW sv 138 38 [v0, v1, v2, v3, v4, v5, v6, v7, v8, v9, v10] r h 0 0 Q = AW sv 138 39 [v0, v1, v2, v3, v4, v5, v6, v7, v8, v9, v10] (.int (-1) :: r) h 0 0 Q := e_iconstv am_h138 dX9_odds_38 c_iconst_m1
theorem x138_39 : AW sv 138 39 [v0, v1, v2, v3, v4, v5, v6, v7, v8, v9, v10] [.int x] h 0 0 Q = Q (some (.int x)) h := e_iret am_h138 dX9_odds_39 rfl ⟨rfl, rfl⟩
theorem x138_40 : AW sv 138 40 [.ref a, v1, v2, v3, v4, v5, v6, v7, v8, v9, v10] r h 0 0 Q = AW sv 138 41 [.ref a, v1, v2, v3, v4, v5, v6, v7, v8, v9, v10] (.ref a :: r) h 0 0 Q := e_pv am_h138 dX9_odds_40 rfl rfl rfl rfl
theorem x138_41 : AW sv 138 41 [v0, v1, v2, v3, v4, v5, v6, v7, v8, v9, v10] (.ref 71 :: r) (am_toH σ) 0 0 Q = AW sv 138 44 [v0, v1, v2, v3, v4, v5, v6, v7, v8, v9, v10] (.ref 73 :: r) (am_toH σ) 0 0 Q := e_getR am_h138 dX9_odds_41 fl_9_13 is9 rfl
theorem x138_44 : AW sv 138 44 [v0, v1, .int x, v3, v4, v5, v6, v7, v8, v9, v10] r h 0 0 Q = AW sv 138 45 [v0, v1, .int x, v3, v4, v5, v6, v7, v8, v9, v10] (.int x :: r) h 0 0 Q := e_pv am_h138 dX9_odds_44 rfl rfl rfl rfl
theorem x138_45 (hi : am_in x (am_ln a) = true) : AW sv 138 45 [v0, v1, v2, v3, v4, v5, v6, v7, v8, v9, v10] (.int x :: .ref a :: r) (am_toH σ) 0 0 Q = AW sv 138 46 [v0, v1, v2, v3, v4, v5, v6, v7, v8, v9, v10] (.int (σ.1 a x.toNatClampNeg) :: r) (am_toH σ) 0 0 Q := e_iald am_h138 dX9_odds_45 hi
theorem x138_46 : AW sv 138 46 [v0, v1, v2, v3, v4, v5, v6, v7, v8, v9, v10] (.int x :: r) h 0 0 Q = if ¬ x = 0 then AW sv 138 52 [v0, v1, v2, v3, v4, v5, v6, v7, v8, v9, v10] r h 0 0 Q else AW sv 138 49 [v0, v1, v2, v3, v4, v5, v6, v7, v8, v9, v10] r h 0 0 Q := e_z_ne am_h138 dX9_odds_46 rfl
theorem x138_49 : AW sv 138 49 [v0, v1, v2, v3, v4, v5, v6, v7, v8, v9, v10] r h 0 0 Q = AW sv 138 51 [v0, v1, v2, v3, v4, v5, v6, v7, v8, v9, v10] (.int (-2) :: r) h 0 0 Q := e_bipushv am_h138 dX9_odds_49 c_bipush_m2
theorem x138_51 : AW sv 138 51 [v0, v1, v2, v3, v4, v5, v6, v7, v8, v9, v10] [.int x] h 0 0 Q = Q (some (.int x)) h := e_iret am_h138 dX9_odds_51 rfl ⟨rfl, rfl⟩
theorem x138_52 : AW sv 138 52 [.ref a, v1, v2, v3, v4, v5, v6, v7, v8, v9, v10] r h 0 0 Q = AW sv 138 53 [.ref a, v1, v2, v3, v4, v5, v6, v7, v8, v9, v10] (.ref a :: r) h 0 0 Q := e_pv am_h138 dX9_odds_52 rfl rfl rfl rfl
theorem x138_53 : AW sv 138 53 [v0, .int x, v2, v3, v4, v5, v6, v7, v8, v9, v10] r h 0 0 Q = AW sv 138 54 [v0, .int x, v2, v3, v4, v5, v6, v7, v8, v9, v10] (.int x :: r) h 0 0 Q := e_pv am_h138 dX9_odds_53 rfl rfl rfl rfl
theorem x138_54 : AW sv 138 54 [v0, v1, .int x, v3, v4, v5, v6, v7, v8, v9, v10] r h 0 0 Q = AW sv 138 55 [v0, v1, .int x, v3, v4, v5, v6, v7, v8, v9, v10] (.int x :: r) h 0 0 Q := e_pv am_h138 dX9_odds_54 rfl rfl rfl rfl
theorem x138_55 : AW sv 138 55 [v0, v1, v2, .int x, v4, v5, v6, v7, v8, v9, v10] r h 0 0 Q = AW sv 138 56 [v0, v1, v2, .int x, v4, v5, v6, v7, v8, v9, v10] (.int x :: r) h 0 0 Q := e_pv am_h138 dX9_odds_55 rfl rfl rfl rfl
theorem x138_56 (h8 : am_cs r ≤ 8) : AW sv 138 56 [v0, v1, v2, v3, v4, v5, v6, v7, v8, v9, v10] (.int x2 :: .int x1 :: .int x0 :: .ref 71 :: r) (am_toH σ) 0 0 Q = AM sv 137 [.ref 71, .int x0, .int x1, .int x2] (am_toH σ) (fun v h1 => AW sv 138 59 [v0, v1, v2, v3, v4, v5, v6, v7, v8, v9, v10] (v.toList ++ r) h1 0 0 Q) := e_cV (as := [.int x0, .int x1, .int x2]) am_h138 dX9_odds_56 ml_9_186 (by decide) am_h137 rfl is9 rfl rfl ⟨by decide, Nat.le_of_ble_eq_true rfl, am_rc_of (by decide) h8⟩
theorem x138_59 : AW sv 138 59 [.ref a, v1, v2, v3, v4, v5, v6, v7, v8, v9, v10] r h 0 0 Q = AW sv 138 60 [.ref a, v1, v2, v3, v4, v5, v6, v7, v8, v9, v10] (.ref a :: r) h 0 0 Q := e_pv am_h138 dX9_odds_59 rfl rfl rfl rfl
theorem x138_60 : AW sv 138 60 [v0, v1, v2, v3, v4, v5, v6, v7, v8, v9, v10] (.ref 71 :: r) (am_toH σ) 0 0 Q = AW sv 138 63 [v0, v1, v2, v3, v4, v5, v6, v7, v8, v9, v10] (.long (σ.2 14) :: r) (am_toH σ) 0 0 Q := e_getL am_h138 dX9_odds_60 fl_9_177 is9 rfl
theorem x138_63 (hc : v4.category = 1) : AW sv 138 63 [v0, v1, v2, v3, v4, v5, v6, v7, v8, v9, v10] (.long u :: r) h 0 0 Q = AW sv 138 65 [v0, v1, v2, v3, v4, .long u, .null, v7, v8, v9, v10] r h 0 0 Q := e_pv am_h138 dX9_odds_63 rfl rfl rfl (am_stl_of (Nat.le_of_ble_eq_true rfl) (am_c1_of rfl hc))
theorem x138_65 : AW sv 138 65 [.ref a, v1, v2, v3, v4, v5, v6, v7, v8, v9, v10] r h 0 0 Q = AW sv 138 66 [.ref a, v1, v2, v3, v4, v5, v6, v7, v8, v9, v10] (.ref a :: r) h 0 0 Q := e_pv am_h138 dX9_odds_65 rfl rfl rfl rfl
theorem x138_66 : AW sv 138 66 [v0, v1, v2, v3, v4, v5, v6, v7, v8, v9, v10] (.ref 71 :: r) (am_toH σ) 0 0 Q = AW sv 138 69 [v0, v1, v2, v3, v4, v5, v6, v7, v8, v9, v10] (.long (σ.2 15) :: r) (am_toH σ) 0 0 Q := e_getL am_h138 dX9_odds_66 fl_9_183 is9 rfl
theorem x138_69 (hc : v6.category = 1) : AW sv 138 69 [v0, v1, v2, v3, v4, v5, v6, v7, v8, v9, v10] (.long u :: r) h 0 0 Q = AW sv 138 71 [v0, v1, v2, v3, v4, v5, v6, .long u, .null, v9, v10] r h 0 0 Q := e_pv am_h138 dX9_odds_69 rfl rfl rfl (am_stl_of (Nat.le_of_ble_eq_true rfl) (am_c1_of rfl hc))
theorem x138_71 : AW sv 138 71 [v0, v1, v2, v3, v4, v5, v6, .long u, v8, v9, v10] r h 0 0 Q = AW sv 138 73 [v0, v1, v2, v3, v4, v5, v6, .long u, v8, v9, v10] (.long u :: r) h 0 0 Q := e_pv am_h138 dX9_odds_71 rfl rfl rfl rfl
theorem x138_73 : AW sv 138 73 [v0, v1, v2, v3, v4, v5, v6, v7, v8, v9, v10] r h 0 0 Q = AW sv 138 74 [v0, v1, v2, v3, v4, v5, v6, v7, v8, v9, v10] (.long (0) :: r) h 0 0 Q := e_lconstv am_h138 dX9_odds_73 c_l_0
theorem x138_74 : AW sv 138 74 [v0, v1, v2, v3, v4, v5, v6, v7, v8, v9, v10] (.long w :: .long u :: r) h 0 0 Q = AW sv 138 75 [v0, v1, v2, v3, v4, v5, v6, v7, v8, v9, v10] (.int (lg_cmp u w) :: r) h 0 0 Q := e_lcmp am_h138 dX9_odds_74
theorem x138_75 : AW sv 138 75 [v0, v1, v2, v3, v4, v5, v6, v7, v8, v9, v10] (.int x :: r) h 0 0 Q = if x = 0 then AW sv 138 96 [v0, v1, v2, v3, v4, v5, v6, v7, v8, v9, v10] r h 0 0 Q else AW sv 138 78 [v0, v1, v2, v3, v4, v5, v6, v7, v8, v9, v10] r h 0 0 Q := e_z_eq am_h138 dX9_odds_75 rfl
theorem x138_78 : AW sv 138 78 [v0, v1, v2, v3, v4, .long u, v6, v7, v8, v9, v10] r h 0 0 Q = AW sv 138 80 [v0, v1, v2, v3, v4, .long u, v6, v7, v8, v9, v10] (.long u :: r) h 0 0 Q := e_pv am_h138 dX9_odds_78 rfl rfl rfl rfl
theorem x138_80 : AW sv 138 80 [v0, v1, v2, v3, v4, v5, v6, .long u, v8, v9, v10] r h 0 0 Q = AW sv 138 82 [v0, v1, v2, v3, v4, v5, v6, .long u, v8, v9, v10] (.long u :: r) h 0 0 Q := e_pv am_h138 dX9_odds_80 rfl rfl rfl rfl
theorem x138_82 (hy : ¬ w = 0) : AW sv 138 82 [v0, v1, v2, v3, v4, v5, v6, v7, v8, v9, v10] (.long w :: .long u :: r) h 0 0 Q = AW sv 138 83 [v0, v1, v2, v3, v4, v5, v6, v7, v8, v9, v10] (.long (u - u / w * w) :: r) h 0 0 Q := e_lrem am_h138 dX9_odds_82 hy
theorem x138_83 (hc : v8.category = 1) : AW sv 138 83 [v0, v1, v2, v3, v4, v5, v6, v7, v8, v9, v10] (.long u :: r) h 0 0 Q = AW sv 138 85 [v0, v1, v2, v3, v4, v5, v6, v7, v8, .long u, .null] r h 0 0 Q := e_pv am_h138 dX9_odds_83 rfl rfl rfl (am_stl_of (Nat.le_of_ble_eq_true rfl) (am_c1_of rfl hc))
theorem x138_85 : AW sv 138 85 [v0, v1, v2, v3, v4, v5, v6, .long u, v8, v9, v10] r h 0 0 Q = AW sv 138 87 [v0, v1, v2, v3, v4, v5, v6, .long u, v8, v9, v10] (.long u :: r) h 0 0 Q := e_pv am_h138 dX9_odds_85 rfl rfl rfl rfl
theorem x138_87 (hc : v4.category = 1) : AW sv 138 87 [v0, v1, v2, v3, v4, v5, v6, v7, v8, v9, v10] (.long u :: r) h 0 0 Q = AW sv 138 89 [v0, v1, v2, v3, v4, .long u, .null, v7, v8, v9, v10] r h 0 0 Q := e_pv am_h138 dX9_odds_87 rfl rfl rfl (am_stl_of (Nat.le_of_ble_eq_true rfl) (am_c1_of rfl hc))
theorem x138_89 : AW sv 138 89 [v0, v1, v2, v3, v4, v5, v6, v7, v8, .long u, v10] r h 0 0 Q = AW sv 138 91 [v0, v1, v2, v3, v4, v5, v6, v7, v8, .long u, v10] (.long u :: r) h 0 0 Q := e_pv am_h138 dX9_odds_89 rfl rfl rfl rfl
theorem x138_91 (hc : v6.category = 1) : AW sv 138 91 [v0, v1, v2, v3, v4, v5, v6, v7, v8, v9, v10] (.long u :: r) h 0 0 Q = AW sv 138 93 [v0, v1, v2, v3, v4, v5, v6, .long u, .null, v9, v10] r h 0 0 Q := e_pv am_h138 dX9_odds_91 rfl rfl rfl (am_stl_of (Nat.le_of_ble_eq_true rfl) (am_c1_of rfl hc))
theorem x138_93 : AW sv 138 93 [v0, v1, v2, v3, v4, v5, v6, v7, v8, v9, v10] r h 0 0 Q = AW sv 138 71 [v0, v1, v2, v3, v4, v5, v6, v7, v8, v9, v10] r h 0 0 Q := e_goto am_h138 dX9_odds_93 rfl
theorem x138_96 : AW sv 138 96 [v0, v1, v2, v3, .int x, v5, v6, v7, v8, v9, v10] r h 0 0 Q = AW sv 138 98 [v0, v1, v2, v3, .int x, v5, v6, v7, v8, v9, v10] (.int x :: r) h 0 0 Q := e_pv am_h138 dX9_odds_96 rfl rfl rfl rfl
theorem x138_98 : AW sv 138 98 [v0, v1, v2, v3, v4, v5, v6, v7, v8, v9, v10] (.int x :: r) h 0 0 Q = if ¬ x = 0 then AW sv 138 108 [v0, v1, v2, v3, v4, v5, v6, v7, v8, v9, v10] r h 0 0 Q else AW sv 138 101 [v0, v1, v2, v3, v4, v5, v6, v7, v8, v9, v10] r h 0 0 Q := e_z_ne am_h138 dX9_odds_98 rfl
theorem x138_101 : AW sv 138 101 [.ref a, v1, v2, v3, v4, v5, v6, v7, v8, v9, v10] r h 0 0 Q = AW sv 138 102 [.ref a, v1, v2, v3, v4, v5, v6, v7, v8, v9, v10] (.ref a :: r) h 0 0 Q := e_pv am_h138 dX9_odds_101 rfl rfl rfl rfl
theorem x138_102 : AW sv 138 102 [v0, v1, v2, v3, v4, v5, v6, v7, v8, v9, v10] (.ref 71 :: r) (am_toH σ) 0 0 Q = AW sv 138 105 [v0, v1, v2, v3, v4, v5, v6, v7, v8, v9, v10] (.long (σ.2 14) :: r) (am_toH σ) 0 0 Q := e_getL am_h138 dX9_odds_102 fl_9_177 is9 rfl
theorem x138_105 : AW sv 138 105 [v0, v1, v2, v3, v4, v5, v6, v7, v8, v9, v10] r h 0 0 Q = AW sv 138 112 [v0, v1, v2, v3, v4, v5, v6, v7, v8, v9, v10] r h 0 0 Q := e_goto am_h138 dX9_odds_105 rfl
theorem x138_108 : AW sv 138 108 [.ref a, v1, v2, v3, v4, v5, v6, v7, v8, v9, v10] r h 0 0 Q = AW sv 138 109 [.ref a, v1, v2, v3, v4, v5, v6, v7, v8, v9, v10] (.ref a :: r) h 0 0 Q := e_pv am_h138 dX9_odds_108 rfl rfl rfl rfl
theorem x138_109 : AW sv 138 109 [v0, v1, v2, v3, v4, v5, v6, v7, v8, v9, v10] (.ref 71 :: r) (am_toH σ) 0 0 Q = AW sv 138 112 [v0, v1, v2, v3, v4, v5, v6, v7, v8, v9, v10] (.long (σ.2 15) :: r) (am_toH σ) 0 0 Q := e_getL am_h138 dX9_odds_109 fl_9_183 is9 rfl
theorem x138_112 : AW sv 138 112 [v0, v1, v2, v3, v4, .long u, v6, v7, v8, v9, v10] r h 0 0 Q = AW sv 138 114 [v0, v1, v2, v3, v4, .long u, v6, v7, v8, v9, v10] (.long u :: r) h 0 0 Q := e_pv am_h138 dX9_odds_112 rfl rfl rfl rfl
theorem x138_114 (hy : ¬ w = 0) : AW sv 138 114 [v0, v1, v2, v3, v4, v5, v6, v7, v8, v9, v10] (.long w :: .long u :: r) h 0 0 Q = AW sv 138 115 [v0, v1, v2, v3, v4, v5, v6, v7, v8, v9, v10] (.long (u / w) :: r) h 0 0 Q := e_ldiv am_h138 dX9_odds_114 hy
theorem x138_115 : AW sv 138 115 [v0, v1, v2, v3, v4, v5, v6, v7, v8, v9, v10] (.long u :: r) h 0 0 Q = AW sv 138 116 [v0, v1, v2, v3, v4, v5, v6, v7, v8, v9, v10] (.int u.toInt32 :: r) h 0 0 Q := e_l2i am_h138 dX9_odds_115
theorem x138_116 : AW sv 138 116 [v0, v1, v2, v3, v4, v5, v6, v7, v8, v9, v10] [.int x] h 0 0 Q = Q (some (.int x)) h := e_iret am_h138 dX9_odds_116 rfl ⟨rfl, rfl⟩
theorem n138 : AM sv 138 [.ref a, .int x0, .int x1, .int x2, .int x3] h Q = AW sv 138 0 [.ref a, .int x0, .int x1, .int x2, .int x3, .null, .null, .null, .null, .null, .null] [] h 0 0 Q := rfl
theorem x139_0 : AW sv 139 0 [v0, v1, v2, v3, v4] r h 0 0 Q = AW sv 139 1 [v0, v1, v2, v3, v4] (.int (0) :: r) h 0 0 Q := e_iconstv am_h139 dX9_seesAt_0 c_iconst_0
theorem x139_1 (hc : v2.category = 1) : AW sv 139 1 [v0, v1, v2, v3, v4] (.int x :: r) h 0 0 Q = AW sv 139 2 [v0, v1, v2, .int x, v4] r h 0 0 Q := e_pv am_h139 dX9_seesAt_1 rfl rfl rfl (am_sti_of (Nat.le_of_ble_eq_true rfl) (am_c1_of rfl hc))
theorem x139_2 : AW sv 139 2 [v0, v1, v2, v3, v4] r h 0 0 Q = AW sv 139 3 [v0, v1, v2, v3, v4] (.int (0) :: r) h 0 0 Q := e_iconstv am_h139 dX9_seesAt_2 c_iconst_0
theorem x139_3 (hc : v3.category = 1) : AW sv 139 3 [v0, v1, v2, v3, v4] (.int x :: r) h 0 0 Q = AW sv 139 5 [v0, v1, v2, v3, .int x] r h 0 0 Q := e_pv am_h139 dX9_seesAt_3 rfl rfl rfl (am_sti_of (Nat.le_of_ble_eq_true rfl) (am_c1_of rfl hc))
theorem x139_5 : AW sv 139 5 [v0, v1, v2, v3, .int x] r h 0 0 Q = AW sv 139 7 [v0, v1, v2, v3, .int x] (.int x :: r) h 0 0 Q := e_pv am_h139 dX9_seesAt_5 rfl rfl rfl rfl
theorem x139_7 : AW sv 139 7 [.ref a, v1, v2, v3, v4] r h 0 0 Q = AW sv 139 8 [.ref a, v1, v2, v3, v4] (.ref a :: r) h 0 0 Q := e_pv am_h139 dX9_seesAt_7 rfl rfl rfl rfl
theorem x139_8 : AW sv 139 8 [v0, v1, v2, v3, v4] (.ref 71 :: r) (am_toH σ) 0 0 Q = AW sv 139 11 [v0, v1, v2, v3, v4] (.int (σ.1 71 7) :: r) (am_toH σ) 0 0 Q := e_getI am_h139 dX9_seesAt_8 fl_9_76 is9 rfl
theorem x139_11 : AW sv 139 11 [v0, v1, v2, v3, v4] (.int y :: .int x :: r) h 0 0 Q = if y ≤ x then AW sv 139 54 [v0, v1, v2, v3, v4] r h 0 0 Q else AW sv 139 14 [v0, v1, v2, v3, v4] r h 0 0 Q := e_c_ge am_h139 dX9_seesAt_11 rfl
theorem x139_14 : AW sv 139 14 [.ref a, v1, v2, v3, v4] r h 0 0 Q = AW sv 139 15 [.ref a, v1, v2, v3, v4] (.ref a :: r) h 0 0 Q := e_pv am_h139 dX9_seesAt_14 rfl rfl rfl rfl
theorem x139_15 : AW sv 139 15 [v0, v1, v2, v3, v4] (.ref 71 :: r) (am_toH σ) 0 0 Q = AW sv 139 18 [v0, v1, v2, v3, v4] (.ref 73 :: r) (am_toH σ) 0 0 Q := e_getR am_h139 dX9_seesAt_15 fl_9_13 is9 rfl
theorem x139_18 : AW sv 139 18 [v0, .int x, v2, v3, v4] r h 0 0 Q = AW sv 139 19 [v0, .int x, v2, v3, v4] (.int x :: r) h 0 0 Q := e_pv am_h139 dX9_seesAt_18 rfl rfl rfl rfl
theorem x139_19 (hi : am_in x (am_ln a) = true) : AW sv 139 19 [v0, v1, v2, v3, v4] (.int x :: .ref a :: r) (am_toH σ) 0 0 Q = AW sv 139 20 [v0, v1, v2, v3, v4] (.int (σ.1 a x.toNatClampNeg) :: r) (am_toH σ) 0 0 Q := e_iald am_h139 dX9_seesAt_19 hi
theorem x139_20 : AW sv 139 20 [v0, v1, v2, v3, v4] (.int x :: r) h 0 0 Q = if x ≤ 0 then AW sv 139 54 [v0, v1, v2, v3, v4] r h 0 0 Q else AW sv 139 23 [v0, v1, v2, v3, v4] r h 0 0 Q := e_z_le am_h139 dX9_seesAt_20 rfl
theorem x139_23 : AW sv 139 23 [.ref a, v1, v2, v3, v4] r h 0 0 Q = AW sv 139 24 [.ref a, v1, v2, v3, v4] (.ref a :: r) h 0 0 Q := e_pv am_h139 dX9_seesAt_23 rfl rfl rfl rfl
theorem x139_24 : AW sv 139 24 [v0, v1, v2, v3, .int x] r h 0 0 Q = AW sv 139 26 [v0, v1, v2, v3, .int x] (.int x :: r) h 0 0 Q := e_pv am_h139 dX9_seesAt_24 rfl rfl rfl rfl
theorem x139_26 : AW sv 139 26 [v0, .int x, v2, v3, v4] r h 0 0 Q = AW sv 139 27 [v0, .int x, v2, v3, v4] (.int x :: r) h 0 0 Q := e_pv am_h139 dX9_seesAt_26 rfl rfl rfl rfl
theorem x139_27 : AW sv 139 27 [v0, v1, .int x, v3, v4] r h 0 0 Q = AW sv 139 28 [v0, v1, .int x, v3, v4] (.int x :: r) h 0 0 Q := e_pv am_h139 dX9_seesAt_27 rfl rfl rfl rfl
theorem x139_28 (h8 : am_cs r ≤ 8) : AW sv 139 28 [v0, v1, v2, v3, v4] (.int x2 :: .int x1 :: .int x0 :: .ref 71 :: r) (am_toH σ) 0 0 Q = AM sv 137 [.ref 71, .int x0, .int x1, .int x2] (am_toH σ) (fun v h1 => AW sv 139 31 [v0, v1, v2, v3, v4] (v.toList ++ r) h1 0 0 Q) := e_cV (as := [.int x0, .int x1, .int x2]) am_h139 dX9_seesAt_28 ml_9_186 (by decide) am_h137 rfl is9 rfl rfl ⟨by decide, Nat.le_of_ble_eq_true rfl, am_rc_of (by decide) h8⟩
theorem x139_31 : AW sv 139 31 [v0, v1, v2, .int x, v4] r h 0 0 Q = AW sv 139 32 [v0, v1, v2, .int x, v4] (.int x :: r) h 0 0 Q := e_pv am_h139 dX9_seesAt_31 rfl rfl rfl rfl
theorem x139_32 : AW sv 139 32 [.ref a, v1, v2, v3, v4] r h 0 0 Q = AW sv 139 33 [.ref a, v1, v2, v3, v4] (.ref a :: r) h 0 0 Q := e_pv am_h139 dX9_seesAt_32 rfl rfl rfl rfl
theorem x139_33 : AW sv 139 33 [v0, v1, v2, v3, v4] (.ref 71 :: r) (am_toH σ) 0 0 Q = AW sv 139 36 [v0, v1, v2, v3, v4] (.long (σ.2 14) :: r) (am_toH σ) 0 0 Q := e_getL am_h139 dX9_seesAt_33 fl_9_177 is9 rfl
theorem x139_36 : AW sv 139 36 [v0, v1, v2, v3, v4] r h 0 0 Q = AW sv 139 39 [v0, v1, v2, v3, v4] (.long (1000) :: r) h 0 0 Q := e_ldc2 am_h139 dX9_seesAt_36 (by decide +kernel)
theorem x139_39 : AW sv 139 39 [v0, v1, v2, v3, v4] (.long w :: .long u :: r) h 0 0 Q = AW sv 139 40 [v0, v1, v2, v3, v4] (.long (u * w) :: r) h 0 0 Q := e_lmul am_h139 dX9_seesAt_39
theorem x139_40 : AW sv 139 40 [.ref a, v1, v2, v3, v4] r h 0 0 Q = AW sv 139 41 [.ref a, v1, v2, v3, v4] (.ref a :: r) h 0 0 Q := e_pv am_h139 dX9_seesAt_40 rfl rfl rfl rfl
theorem x139_41 : AW sv 139 41 [v0, v1, v2, v3, v4] (.ref 71 :: r) (am_toH σ) 0 0 Q = AW sv 139 44 [v0, v1, v2, v3, v4] (.long (σ.2 15) :: r) (am_toH σ) 0 0 Q := e_getL am_h139 dX9_seesAt_41 fl_9_183 is9 rfl
theorem x139_44 (hy : ¬ w = 0) : AW sv 139 44 [v0, v1, v2, v3, v4] (.long w :: .long u :: r) h 0 0 Q = AW sv 139 45 [v0, v1, v2, v3, v4] (.long (u / w) :: r) h 0 0 Q := e_ldiv am_h139 dX9_seesAt_44 hy
theorem x139_45 : AW sv 139 45 [v0, v1, v2, v3, v4] (.long u :: r) h 0 0 Q = AW sv 139 46 [v0, v1, v2, v3, v4] (.int u.toInt32 :: r) h 0 0 Q := e_l2i am_h139 dX9_seesAt_45
theorem x139_46 : AW sv 139 46 [v0, v1, v2, v3, v4] (.int y :: .int x :: r) h 0 0 Q = AW sv 139 47 [v0, v1, v2, v3, v4] (.int (x + y) :: r) h 0 0 Q := e_iadd am_h139 dX9_seesAt_46
theorem x139_47 (hc : v2.category = 1) : AW sv 139 47 [v0, v1, v2, v3, v4] (.int x :: r) h 0 0 Q = AW sv 139 48 [v0, v1, v2, .int x, v4] r h 0 0 Q := e_pv am_h139 dX9_seesAt_47 rfl rfl rfl (am_sti_of (Nat.le_of_ble_eq_true rfl) (am_c1_of rfl hc))
theorem x139_48 (hc : v3.category = 1) : AW sv 139 48 [v0, v1, v2, v3, .int x] r h 0 0 Q = AW sv 139 51 [v0, v1, v2, v3, .int (x + (1))] r h 0 0 Q := e_pv am_h139 dX9_seesAt_48 rfl rfl rfl (am_inc_of (ls := [v0, v1, v2, v3, .int x]) (k := 4) rfl c_iconst_1 (am_c1_of (ls := [v0, v1, v2, v3, .int x]) (k := 3) (v := v3) rfl hc))
theorem x139_51 : AW sv 139 51 [v0, v1, v2, v3, v4] r h 0 0 Q = AW sv 139 5 [v0, v1, v2, v3, v4] r h 0 0 Q := e_goto am_h139 dX9_seesAt_51 rfl
theorem x139_54 : AW sv 139 54 [v0, v1, v2, .int x, v4] r h 0 0 Q = AW sv 139 55 [v0, v1, v2, .int x, v4] (.int x :: r) h 0 0 Q := e_pv am_h139 dX9_seesAt_54 rfl rfl rfl rfl
theorem x139_55 : AW sv 139 55 [v0, v1, v2, v3, v4] [.int x] h 0 0 Q = Q (some (.int x)) h := e_iret am_h139 dX9_seesAt_55 rfl ⟨rfl, rfl⟩
theorem n139 : AM sv 139 [.ref a, .int x0, .int x1] h Q = AW sv 139 0 [.ref a, .int x0, .int x1, .null, .null] [] h 0 0 Q := rfl
theorem x140_0 : AW sv 140 0 [v0, v1, v2, v3] r h 0 0 Q = AW sv 140 1 [v0, v1, v2, v3] (.int (0) :: r) h 0 0 Q := e_iconstv am_h140 dX9_seesAll_0 c_iconst_0
theorem x140_1 (hc : v1.category = 1) : AW sv 140 1 [v0, v1, v2, v3] (.int x :: r) h 0 0 Q = AW sv 140 2 [v0, v1, .int x, v3] r h 0 0 Q := e_pv am_h140 dX9_seesAll_1 rfl rfl rfl (am_sti_of (Nat.le_of_ble_eq_true rfl) (am_c1_of rfl hc))
theorem x140_2 : AW sv 140 2 [v0, v1, v2, v3] r h 0 0 Q = AW sv 140 3 [v0, v1, v2, v3] (.int (0) :: r) h 0 0 Q := e_iconstv am_h140 dX9_seesAll_2 c_iconst_0
theorem x140_3 (hc : v2.category = 1) : AW sv 140 3 [v0, v1, v2, v3] (.int x :: r) h 0 0 Q = AW sv 140 4 [v0, v1, v2, .int x] r h 0 0 Q := e_pv am_h140 dX9_seesAll_3 rfl rfl rfl (am_sti_of (Nat.le_of_ble_eq_true rfl) (am_c1_of rfl hc))
theorem x140_4 : AW sv 140 4 [v0, v1, v2, .int x] r h 0 0 Q = AW sv 140 5 [v0, v1, v2, .int x] (.int x :: r) h 0 0 Q := e_pv am_h140 dX9_seesAll_4 rfl rfl rfl rfl
theorem x140_5 : AW sv 140 5 [v0, v1, v2, v3] r h 0 0 Q = AW sv 140 7 [v0, v1, v2, v3] (.int (16) :: r) h 0 0 Q := e_bipushv am_h140 dX9_seesAll_5 c_bipush_16
theorem x140_7 : AW sv 140 7 [v0, v1, v2, v3] (.int y :: .int x :: r) h 0 0 Q = if y ≤ x then AW sv 140 25 [v0, v1, v2, v3] r h 0 0 Q else AW sv 140 10 [v0, v1, v2, v3] r h 0 0 Q := e_c_ge am_h140 dX9_seesAll_7 rfl
theorem x140_10 : AW sv 140 10 [v0, v1, .int x, v3] r h 0 0 Q = AW sv 140 11 [v0, v1, .int x, v3] (.int x :: r) h 0 0 Q := e_pv am_h140 dX9_seesAll_10 rfl rfl rfl rfl
theorem x140_11 : AW sv 140 11 [.ref a, v1, v2, v3] r h 0 0 Q = AW sv 140 12 [.ref a, v1, v2, v3] (.ref a :: r) h 0 0 Q := e_pv am_h140 dX9_seesAll_11 rfl rfl rfl rfl
theorem x140_12 : AW sv 140 12 [v0, v1, v2, .int x] r h 0 0 Q = AW sv 140 13 [v0, v1, v2, .int x] (.int x :: r) h 0 0 Q := e_pv am_h140 dX9_seesAll_12 rfl rfl rfl rfl
theorem x140_13 : AW sv 140 13 [v0, .int x, v2, v3] r h 0 0 Q = AW sv 140 14 [v0, .int x, v2, v3] (.int x :: r) h 0 0 Q := e_pv am_h140 dX9_seesAll_13 rfl rfl rfl rfl
theorem x140_14 (h8 : am_cs r ≤ 8) : AW sv 140 14 [v0, v1, v2, v3] (.int x1 :: .int x0 :: .ref 71 :: r) (am_toH σ) 0 0 Q = AM sv 139 [.ref 71, .int x0, .int x1] (am_toH σ) (fun v h1 => AW sv 140 17 [v0, v1, v2, v3] (v.toList ++ r) h1 0 0 Q) := e_cV (as := [.int x0, .int x1]) am_h140 dX9_seesAll_14 ml_9_192 (by decide) am_h139 rfl is9 rfl rfl ⟨by decide, Nat.le_of_ble_eq_true rfl, am_rc_of (by decide) h8⟩
theorem x140_17 : AW sv 140 17 [v0, v1, v2, v3] (.int y :: .int x :: r) h 0 0 Q = AW sv 140 18 [v0, v1, v2, v3] (.int (x + y) :: r) h 0 0 Q := e_iadd am_h140 dX9_seesAll_17
theorem x140_18 (hc : v1.category = 1) : AW sv 140 18 [v0, v1, v2, v3] (.int x :: r) h 0 0 Q = AW sv 140 19 [v0, v1, .int x, v3] r h 0 0 Q := e_pv am_h140 dX9_seesAll_18 rfl rfl rfl (am_sti_of (Nat.le_of_ble_eq_true rfl) (am_c1_of rfl hc))
theorem x140_19 (hc : v2.category = 1) : AW sv 140 19 [v0, v1, v2, .int x] r h 0 0 Q = AW sv 140 22 [v0, v1, v2, .int (x + (1))] r h 0 0 Q := e_pv am_h140 dX9_seesAll_19 rfl rfl rfl (am_inc_of (ls := [v0, v1, v2, .int x]) (k := 3) rfl c_iconst_1 (am_c1_of (ls := [v0, v1, v2, .int x]) (k := 2) (v := v2) rfl hc))
theorem x140_22 : AW sv 140 22 [v0, v1, v2, v3] r h 0 0 Q = AW sv 140 4 [v0, v1, v2, v3] r h 0 0 Q := e_goto am_h140 dX9_seesAll_22 rfl
theorem x140_25 : AW sv 140 25 [v0, v1, .int x, v3] r h 0 0 Q = AW sv 140 26 [v0, v1, .int x, v3] (.int x :: r) h 0 0 Q := e_pv am_h140 dX9_seesAll_25 rfl rfl rfl rfl
end XR
