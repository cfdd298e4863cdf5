section XR
variable {sv : am_V} {h : am_H} {σ : am_S} {Q : Option Value → am_H → Prop} {r : List Value} {x y n x0 x1 x2 x3 x4 x5 : Int32} {u w u0 u1 u2 : Int64} {a b b0 b1 b2 b3 b4 : Nat} {v z v0 v1 v2 v3 v4 v5 v6 v7 v8 v9 v10 v11 v12 v13 v14 v15 : Value}
theorem x1_0 : AW sv 1 0 [v0, .ref a] r h 0 0 Q = AW sv 1 1 [v0, .ref a] (.ref a :: r) h 0 0 Q := e_pv am_h1 dX0_become_0 rfl rfl rfl rfl
theorem x1_1 (hr : am_St a) : AW sv 1 1 [v0, v1] (.ref (a + 11) :: r) (am_toH σ) 0 0 Q = AW sv 1 4 [v0, v1] (.ref (a + 12) :: r) (am_toH σ) 0 0 Q := e_getR am_h1 dX0_become_1 fl_0_9 (is0 hr) rfl
theorem x1_4 : AW sv 1 4 [v0, v1] r h 0 0 Q = AW sv 1 5 [v0, v1] (.int (0) :: r) h 0 0 Q := e_iconstv am_h1 dX0_become_4 c_iconst_0
theorem x1_5 : AW sv 1 5 [.ref a, v1] r h 0 0 Q = AW sv 1 6 [.ref a, v1] (.ref a :: r) h 0 0 Q := e_pv am_h1 dX0_become_5 rfl rfl rfl rfl
theorem x1_6 (hr : am_St a) : AW sv 1 6 [v0, v1] (.ref (a + 11) :: r) (am_toH σ) 0 0 Q = AW sv 1 9 [v0, v1] (.ref (a + 12) :: r) (am_toH σ) 0 0 Q := e_getR am_h1 dX0_become_6 fl_0_9 (is0 hr) rfl
theorem x1_9 : AW sv 1 9 [v0, v1] r h 0 0 Q = AW sv 1 10 [v0, v1] (.int (0) :: r) h 0 0 Q := e_iconstv am_h1 dX0_become_9 c_iconst_0
theorem x1_10 : AW sv 1 10 [v0, v1] r h 0 0 Q = AW sv 1 12 [v0, v1] (.int (8) :: r) h 0 0 Q := e_bipushv am_h1 dX0_become_10 c_bipush_8
theorem x1_12 (h8 : am_cs r ≤ 8) (ha : 0 < am_ln a) (hb : 0 < am_ln b) (hc : (0 ≤ x.toInt ∧ 0 ≤ y.toInt ∧ 0 ≤ n.toInt) ∧ x.toNatClampNeg + n.toNatClampNeg ≤ am_ln a ∧ y.toNatClampNeg + n.toNatClampNeg ≤ am_ln b) : AW sv 1 12 [v0, v1] (.int n :: .int y :: .ref b :: .int x :: .ref a :: r) (am_toH σ) 0 0 Q = AW sv 1 15 [v0, v1] r (am_toH (am_wr σ b (va_cpy (σ.1 a) (σ.1 b) x.toNatClampNeg y.toNatClampNeg n.toNatClampNeg))) 0 0 Q := e_cpy am_h1 dX0_become_12 ml_0_24 (am_rj18 (by decide) h8) ha hb hc
theorem x1_15 : AW sv 1 15 [v0, .ref a] r h 0 0 Q = AW sv 1 16 [v0, .ref a] (.ref a :: r) h 0 0 Q := e_pv am_h1 dX0_become_15 rfl rfl rfl rfl
theorem x1_16 (hr : am_St a) : AW sv 1 16 [v0, v1] (.ref (a + 11) :: r) (am_toH σ) 0 0 Q = AW sv 1 19 [v0, v1] (.ref (a + 13) :: r) (am_toH σ) 0 0 Q := e_getR am_h1 dX0_become_16 fl_0_15 (is0 hr) rfl
theorem x1_19 : AW sv 1 19 [v0, v1] r h 0 0 Q = AW sv 1 20 [v0, v1] (.int (0) :: r) h 0 0 Q := e_iconstv am_h1 dX0_become_19 c_iconst_0
theorem x1_20 : AW sv 1 20 [.ref a, v1] r h 0 0 Q = AW sv 1 21 [.ref a, v1] (.ref a :: r) h 0 0 Q := e_pv am_h1 dX0_become_20 rfl rfl rfl rfl
theorem x1_21 (hr : am_St a) : AW sv 1 21 [v0, v1] (.ref (a + 11) :: r) (am_toH σ) 0 0 Q = AW sv 1 24 [v0, v1] (.ref (a + 13) :: r) (am_toH σ) 0 0 Q := e_getR am_h1 dX0_become_21 fl_0_15 (is0 hr) rfl
theorem x1_24 : AW sv 1 24 [v0, v1] r h 0 0 Q = AW sv 1 25 [v0, v1] (.int (0) :: r) h 0 0 Q := e_iconstv am_h1 dX0_become_24 c_iconst_0
theorem x1_25 : AW sv 1 25 [v0, v1] r h 0 0 Q = AW sv 1 27 [v0, v1] (.int (8) :: r) h 0 0 Q := e_bipushv am_h1 dX0_become_25 c_bipush_8
theorem x1_27 (h8 : am_cs r ≤ 8) (ha : 0 < am_ln a) (hb : 0 < am_ln b) (hc : (0 ≤ x.toInt ∧ 0 ≤ y.toInt ∧ 0 ≤ n.toInt) ∧ x.toNatClampNeg + n.toNatClampNeg ≤ am_ln a ∧ y.toNatClampNeg + n.toNatClampNeg ≤ am_ln b) : AW sv 1 27 [v0, v1] (.int n :: .int y :: .ref b :: .int x :: .ref a :: r) (am_toH σ) 0 0 Q = AW sv 1 30 [v0, v1] r (am_toH (am_wr σ b (va_cpy (σ.1 a) (σ.1 b) x.toNatClampNeg y.toNatClampNeg n.toNatClampNeg))) 0 0 Q := e_cpy am_h1 dX0_become_27 ml_0_24 (am_rj18 (by decide) h8) ha hb hc
theorem x1_30 : AW sv 1 30 [v0, .ref a] r h 0 0 Q = AW sv 1 31 [v0, .ref a] (.ref a :: r) h 0 0 Q := e_pv am_h1 dX0_become_30 rfl rfl rfl rfl
theorem x1_31 (hr : am_St a) : AW sv 1 31 [v0, v1] (.ref (a + 11) :: r) (am_toH σ) 0 0 Q = AW sv 1 34 [v0, v1] (.ref (a + 14) :: r) (am_toH σ) 0 0 Q := e_getR am_h1 dX0_become_31 fl_0_18 (is0 hr) rfl
theorem x1_34 : AW sv 1 34 [v0, v1] r h 0 0 Q = AW sv 1 35 [v0, v1] (.int (0) :: r) h 0 0 Q := e_iconstv am_h1 dX0_become_34 c_iconst_0
theorem x1_35 : AW sv 1 35 [.ref a, v1] r h 0 0 Q = AW sv 1 36 [.ref a, v1] (.ref a :: r) h 0 0 Q := e_pv am_h1 dX0_become_35 rfl rfl rfl rfl
theorem x1_36 (hr : am_St a) : AW sv 1 36 [v0, v1] (.ref (a + 11) :: r) (am_toH σ) 0 0 Q = AW sv 1 39 [v0, v1] (.ref (a + 14) :: r) (am_toH σ) 0 0 Q := e_getR am_h1 dX0_become_36 fl_0_18 (is0 hr) rfl
theorem x1_39 : AW sv 1 39 [v0, v1] r h 0 0 Q = AW sv 1 40 [v0, v1] (.int (0) :: r) h 0 0 Q := e_iconstv am_h1 dX0_become_39 c_iconst_0
theorem x1_40 : AW sv 1 40 [v0, v1] r h 0 0 Q = AW sv 1 42 [v0, v1] (.int (8) :: r) h 0 0 Q := e_bipushv am_h1 dX0_become_40 c_bipush_8
theorem x1_42 (h8 : am_cs r ≤ 8) (ha : 0 < am_ln a) (hb : 0 < am_ln b) (hc : (0 ≤ x.toInt ∧ 0 ≤ y.toInt ∧ 0 ≤ n.toInt) ∧ x.toNatClampNeg + n.toNatClampNeg ≤ am_ln a ∧ y.toNatClampNeg + n.toNatClampNeg ≤ am_ln b) : AW sv 1 42 [v0, v1] (.int n :: .int y :: .ref b :: .int x :: .ref a :: r) (am_toH σ) 0 0 Q = AW sv 1 45 [v0, v1] r (am_toH (am_wr σ b (va_cpy (σ.1 a) (σ.1 b) x.toNatClampNeg y.toNatClampNeg n.toNatClampNeg))) 0 0 Q := e_cpy am_h1 dX0_become_42 ml_0_24 (am_rj18 (by decide) h8) ha hb hc
theorem x1_45 : AW sv 1 45 [v0, .ref a] r h 0 0 Q = AW sv 1 46 [v0, .ref a] (.ref a :: r) h 0 0 Q := e_pv am_h1 dX0_become_45 rfl rfl rfl rfl
theorem x1_46 (hr : am_St a) : AW sv 1 46 [v0, v1] (.ref (a + 11) :: r) (am_toH σ) 0 0 Q = AW sv 1 49 [v0, v1] (.ref (a + 15) :: r) (am_toH σ) 0 0 Q := e_getR am_h1 dX0_become_46 fl_0_21 (is0 hr) rfl
theorem x1_49 : AW sv 1 49 [v0, v1] r h 0 0 Q = AW sv 1 50 [v0, v1] (.int (0) :: r) h 0 0 Q := e_iconstv am_h1 dX0_become_49 c_iconst_0
theorem x1_50 : AW sv 1 50 [.ref a, v1] r h 0 0 Q = AW sv 1 51 [.ref a, v1] (.ref a :: r) h 0 0 Q := e_pv am_h1 dX0_become_50 rfl rfl rfl rfl
theorem x1_51 (hr : am_St a) : AW sv 1 51 [v0, v1] (.ref (a + 11) :: r) (am_toH σ) 0 0 Q = AW sv 1 54 [v0, v1] (.ref (a + 15) :: r) (am_toH σ) 0 0 Q := e_getR am_h1 dX0_become_51 fl_0_21 (is0 hr) rfl
theorem x1_54 : AW sv 1 54 [v0, v1] r h 0 0 Q = AW sv 1 55 [v0, v1] (.int (0) :: r) h 0 0 Q := e_iconstv am_h1 dX0_become_54 c_iconst_0
theorem x1_55 : AW sv 1 55 [v0, v1] r h 0 0 Q = AW sv 1 57 [v0, v1] (.int (8) :: r) h 0 0 Q := e_bipushv am_h1 dX0_become_55 c_bipush_8
theorem x1_57 (h8 : am_cs r ≤ 8) (ha : 0 < am_ln a) (hb : 0 < am_ln b) (hc : (0 ≤ x.toInt ∧ 0 ≤ y.toInt ∧ 0 ≤ n.toInt) ∧ x.toNatClampNeg + n.toNatClampNeg ≤ am_ln a ∧ y.toNatClampNeg + n.toNatClampNeg ≤ am_ln b) : AW sv 1 57 [v0, v1] (.int n :: .int y :: .ref b :: .int x :: .ref a :: r) (am_toH σ) 0 0 Q = AW sv 1 60 [v0, v1] r (am_toH (am_wr σ b (va_cpy (σ.1 a) (σ.1 b) x.toNatClampNeg y.toNatClampNeg n.toNatClampNeg))) 0 0 Q := e_cpy am_h1 dX0_become_57 ml_0_24 (am_rj18 (by decide) h8) ha hb hc
theorem x1_60 : AW sv 1 60 [.ref a, v1] r h 0 0 Q = AW sv 1 61 [.ref a, v1] (.ref a :: r) h 0 0 Q := e_pv am_h1 dX0_become_60 rfl rfl rfl rfl
theorem x1_61 : AW sv 1 61 [v0, .ref a] r h 0 0 Q = AW sv 1 62 [v0, .ref a] (.ref a :: r) h 0 0 Q := e_pv am_h1 dX0_become_61 rfl rfl rfl rfl
theorem x1_62 (hr : am_St a) : AW sv 1 62 [v0, v1] (.ref (a + 11) :: r) (am_toH σ) 0 0 Q = AW sv 1 65 [v0, v1] (.int (σ.1 (a + 11) 4) :: r) (am_toH σ) 0 0 Q := e_getI am_h1 dX0_become_62 fl_0_30 (is0 hr) rfl
theorem x1_65 (hr : am_St a) : AW sv 1 65 [v0, v1] (.int x :: .ref (a + 11) :: r) (am_toH σ) 0 0 Q = AW sv 1 68 [v0, v1] r (am_toH (am_wr σ (a + 11) (upd (σ.1 (a + 11)) 4 x))) 0 0 Q := e_putI am_h1 dX0_become_65 fl_0_30 (is0 hr) rfl rfl rfl
theorem x1_68 : AW sv 1 68 [v0, v1] [] h 0 0 Q = Q none h := e_vret am_h1 dX0_become_68 rfl ⟨rfl, rfl⟩
theorem n1 : AM sv 1 [.ref a, .ref b0] h Q = AW sv 1 0 [.ref a, .ref b0] [] h 0 0 Q := rfl
theorem x2_0 : AW sv 2 0 [.ref a, v1, v2, v3, v4] r h 0 0 Q = AW sv 2 1 [.ref a, v1, v2, v3, v4] (.ref a :: r) h 0 0 Q := e_pv am_h2 dX0_add_0 rfl rfl rfl rfl
theorem x2_1 (hr : am_St a) : AW sv 2 1 [v0, v1, v2, v3, v4] (.ref (a + 11) :: r) (am_toH σ) 0 0 Q = AW sv 2 4 [v0, v1, v2, v3, v4] (.int (σ.1 (a + 11) 4) :: r) (am_toH σ) 0 0 Q := e_getI am_h2 dX0_add_1 fl_0_30 (is0 hr) rfl
theorem x2_4 : AW sv 2 4 [v0, v1, v2, v3, v4] r h 0 0 Q = AW sv 2 6 [v0, v1, v2, v3, v4] (.int (8) :: r) h 0 0 Q := e_bipushv am_h2 dX0_add_4 c_bipush_8
theorem x2_6 : AW sv 2 6 [v0, v1, v2, v3, v4] (.int y :: .int x :: r) h 0 0 Q = if y ≤ x then AW sv 2 60 [v0, v1, v2, v3, v4] r h 0 0 Q else AW sv 2 9 [v0, v1, v2, v3, v4] r h 0 0 Q := e_c_ge am_h2 dX0_add_6 rfl
theorem x2_9 : AW sv 2 9 [.ref a, v1, v2, v3, v4] r h 0 0 Q = AW sv 2 10 [.ref a, v1, v2, v3, v4] (.ref a :: r) h 0 0 Q := e_pv am_h2 dX0_add_9 rfl rfl rfl rfl
theorem x2_10 (hr : am_St a) : AW sv 2 10 [v0, v1, v2, v3, v4] (.ref (a + 11) :: r) (am_toH σ) 0 0 Q = AW sv 2 13 [v0, v1, v2, v3, v4] (.ref (a + 12) :: r) (am_toH σ) 0 0 Q := e_getR am_h2 dX0_add_10 fl_0_9 (is0 hr) rfl
theorem x2_13 : AW sv 2 13 [.ref a, v1, v2, v3, v4] r h 0 0 Q = AW sv 2 14 [.ref a, v1, v2, v3, v4] (.ref a :: r) h 0 0 Q := e_pv am_h2 dX0_add_13 rfl rfl rfl rfl
theorem x2_14 (hr : am_St a) : AW sv 2 14 [v0, v1, v2, v3, v4] (.ref (a + 11) :: r) (am_toH σ) 0 0 Q = AW sv 2 17 [v0, v1, v2, v3, v4] (.int (σ.1 (a + 11) 4) :: r) (am_toH σ) 0 0 Q := e_getI am_h2 dX0_add_14 fl_0_30 (is0 hr) rfl
theorem x2_17 : AW sv 2 17 [v0, .int x, v2, v3, v4] r h 0 0 Q = AW sv 2 18 [v0, .int x, v2, v3, v4] (.int x :: r) h 0 0 Q := e_pv am_h2 dX0_add_17 rfl rfl rfl rfl
theorem x2_18 (hi : am_in y (am_ln a) = true) : AW sv 2 18 [v0, v1, v2, v3, v4] (.int x :: .int y :: .ref a :: r) (am_toH σ) 0 0 Q = AW sv 2 19 [v0, v1, v2, v3, v4] r (am_toH (am_wr σ a (upd (σ.1 a) y.toNatClampNeg x))) 0 0 Q := e_iast am_h2 dX0_add_18 hi
theorem x2_19 : AW sv 2 19 [.ref a, v1, v2, v3, v4] r h 0 0 Q = AW sv 2 20 [.ref a, v1, v2, v3, v4] (.ref a :: r) h 0 0 Q := e_pv am_h2 dX0_add_19 rfl rfl rfl rfl
theorem x2_20 (hr : am_St a) : AW sv 2 20 [v0, v1, v2, v3, v4] (.ref (a + 11) :: r) (am_toH σ) 0 0 Q = AW sv 2 23 [v0, v1, v2, v3, v4] (.ref (a + 13) :: r) (am_toH σ) 0 0 Q := e_getR am_h2 dX0_add_20 fl_0_15 (is0 hr) rfl
theorem x2_23 : AW sv 2 23 [.ref a, v1, v2, v3, v4] r h 0 0 Q = AW sv 2 24 [.ref a, v1, v2, v3, v4] (.ref a :: r) h 0 0 Q := e_pv am_h2 dX0_add_23 rfl rfl rfl rfl
theorem x2_24 (hr : am_St a) : AW sv 2 24 [v0, v1, v2, v3, v4] (.ref (a + 11) :: r) (am_toH σ) 0 0 Q = AW sv 2 27 [v0, v1, v2, v3, v4] (.int (σ.1 (a + 11) 4) :: r) (am_toH σ) 0 0 Q := e_getI am_h2 dX0_add_24 fl_0_30 (is0 hr) rfl
theorem x2_27 : AW sv 2 27 [v0, v1, .int x, v3, v4] r h 0 0 Q = AW sv 2 28 [v0, v1, .int x, v3, v4] (.int x :: r) h 0 0 Q := e_pv am_h2 dX0_add_27 rfl rfl rfl rfl
theorem x2_28 (hi : am_in y (am_ln a) = true) : AW sv 2 28 [v0, v1, v2, v3, v4] (.int x :: .int y :: .ref a :: r) (am_toH σ) 0 0 Q = AW sv 2 29 [v0, v1, v2, v3, v4] r (am_toH (am_wr σ a (upd (σ.1 a) y.toNatClampNeg x))) 0 0 Q := e_iast am_h2 dX0_add_28 hi
theorem x2_29 : AW sv 2 29 [.ref a, v1, v2, v3, v4] r h 0 0 Q = AW sv 2 30 [.ref a, v1, v2, v3, v4] (.ref a :: r) h 0 0 Q := e_pv am_h2 dX0_add_29 rfl rfl rfl rfl
theorem x2_30 (hr : am_St a) : AW sv 2 30 [v0, v1, v2, v3, v4] (.ref (a + 11) :: r) (am_toH σ) 0 0 Q = AW sv 2 33 [v0, v1, v2, v3, v4] (.ref (a + 14) :: r) (am_toH σ) 0 0 Q := e_getR am_h2 dX0_add_30 fl_0_18 (is0 hr) rfl
theorem x2_33 : AW sv 2 33 [.ref a, v1, v2, v3, v4] r h 0 0 Q = AW sv 2 34 [.ref a, v1, v2, v3, v4] (.ref a :: r) h 0 0 Q := e_pv am_h2 dX0_add_33 rfl rfl rfl rfl
theorem x2_34 (hr : am_St a) : AW sv 2 34 [v0, v1, v2, v3, v4] (.ref (a + 11) :: r) (am_toH σ) 0 0 Q = AW sv 2 37 [v0, v1, v2, v3, v4] (.int (σ.1 (a + 11) 4) :: r) (am_toH σ) 0 0 Q := e_getI am_h2 dX0_add_34 fl_0_30 (is0 hr) rfl
theorem x2_37 : AW sv 2 37 [v0, v1, v2, .int x, v4] r h 0 0 Q = AW sv 2 38 [v0, v1, v2, .int x, v4] (.int x :: r) h 0 0 Q := e_pv am_h2 dX0_add_37 rfl rfl rfl rfl
theorem x2_38 (hi : am_in y (am_ln a) = true) : AW sv 2 38 [v0, v1, v2, v3, v4] (.int x :: .int y :: .ref a :: r) (am_toH σ) 0 0 Q = AW sv 2 39 [v0, v1, v2, v3, v4] r (am_toH (am_wr σ a (upd (σ.1 a) y.toNatClampNeg x))) 0 0 Q := e_iast am_h2 dX0_add_38 hi
theorem x2_39 : AW sv 2 39 [.ref a, v1, v2, v3, v4] r h 0 0 Q = AW sv 2 40 [.ref a, v1, v2, v3, v4] (.ref a :: r) h 0 0 Q := e_pv am_h2 dX0_add_39 rfl rfl rfl rfl
theorem x2_40 (hr : am_St a) : AW sv 2 40 [v0, v1, v2, v3, v4] (.ref (a + 11) :: r) (am_toH σ) 0 0 Q = AW sv 2 43 [v0, v1, v2, v3, v4] (.ref (a + 15) :: r) (am_toH σ) 0 0 Q := e_getR am_h2 dX0_add_40 fl_0_21 (is0 hr) rfl
theorem x2_43 : AW sv 2 43 [.ref a, v1, v2, v3, v4] r h 0 0 Q = AW sv 2 44 [.ref a, v1, v2, v3, v4] (.ref a :: r) h 0 0 Q := e_pv am_h2 dX0_add_43 rfl rfl rfl rfl
theorem x2_44 (hr : am_St a) : AW sv 2 44 [v0, v1, v2, v3, v4] (.ref (a + 11) :: r) (am_toH σ) 0 0 Q = AW sv 2 47 [v0, v1, v2, v3, v4] (.int (σ.1 (a + 11) 4) :: r) (am_toH σ) 0 0 Q := e_getI am_h2 dX0_add_44 fl_0_30 (is0 hr) rfl
theorem x2_47 : AW sv 2 47 [v0, v1, v2, v3, .int x] r h 0 0 Q = AW sv 2 49 [v0, v1, v2, v3, .int x] (.int x :: r) h 0 0 Q := e_pv am_h2 dX0_add_47 rfl rfl rfl rfl
theorem x2_49 (hi : am_in y (am_ln a) = true) : AW sv 2 49 [v0, v1, v2, v3, v4] (.int x :: .int y :: .ref a :: r) (am_toH σ) 0 0 Q = AW sv 2 50 [v0, v1, v2, v3, v4] r (am_toH (am_wr σ a (upd (σ.1 a) y.toNatClampNeg x))) 0 0 Q := e_iast am_h2 dX0_add_49 hi
theorem x2_50 : AW sv 2 50 [.ref a, v1, v2, v3, v4] r h 0 0 Q = AW sv 2 51 [.ref a, v1, v2, v3, v4] (.ref a :: r) h 0 0 Q := e_pv am_h2 dX0_add_50 rfl rfl rfl rfl
theorem x2_51 (hc : v.category = 1) : AW sv 2 51 [v0, v1, v2, v3, v4] (v :: r) h 0 0 Q = AW sv 2 52 [v0, v1, v2, v3, v4] (v :: v :: r) h 0 0 Q := e_dup am_h2 dX0_add_51 hc
theorem x2_52 (hr : am_St a) : AW sv 2 52 [v0, v1, v2, v3, v4] (.ref (a + 11) :: r) (am_toH σ) 0 0 Q = AW sv 2 55 [v0, v1, v2, v3, v4] (.int (σ.1 (a + 11) 4) :: r) (am_toH σ) 0 0 Q := e_getI am_h2 dX0_add_52 fl_0_30 (is0 hr) rfl
theorem x2_55 : AW sv 2 55 [v0, v1, v2, v3, v4] r h 0 0 Q = AW sv 2 56 [v0, v1, v2, v3, v4] (.int (1) :: r) h 0 0 Q := e_iconstv am_h2 dX0_add_55 c_iconst_1
theorem x2_56 : AW sv 2 56 [v0, v1, v2, v3, v4] (.int y :: .int x :: r) h 0 0 Q = AW sv 2 57 [v0, v1, v2, v3, v4] (.int (x + y) :: r) h 0 0 Q := e_iadd am_h2 dX0_add_56
theorem x2_57 (hr : am_St a) : AW sv 2 57 [v0, v1, v2, v3, v4] (.int x :: .ref (a + 11) :: r) (am_toH σ) 0 0 Q = AW sv 2 60 [v0, v1, v2, v3, v4] r (am_toH (am_wr σ (a + 11) (upd (σ.1 (a + 11)) 4 x))) 0 0 Q := e_putI am_h2 dX0_add_57 fl_0_30 (is0 hr) rfl rfl rfl
theorem x2_60 : AW sv 2 60 [v0, v1, v2, v3, v4] [] h 0 0 Q = Q none h := e_vret am_h2 dX0_add_60 rfl ⟨rfl, rfl⟩
theorem n2 : AM sv 2 [.ref a, .int x0, .int x1, .int x2, .int x3] h Q = AW sv 2 0 [.ref a, .int x0, .int x1, .int x2, .int x3] [] h 0 0 Q := rfl
theorem x3_0 : AW sv 3 0 [v0, v1, v2, v3] r h 0 0 Q = AW sv 3 1 [v0, v1, v2, v3] (.int (0) :: r) h 0 0 Q := e_iconstv am_h3 dX0_costOf_0 c_iconst_0
theorem x3_1 (hc : v1.category = 1) : AW sv 3 1 [v0, v1, v2, v3] (.int x :: r) h 0 0 Q = AW sv 3 2 [v0, v1, .int x, v3] r h 0 0 Q := e_pv am_h3 dX0_costOf_1 rfl rfl rfl (am_sti_of (Nat.le_of_ble_eq_true rfl) (am_c1_of rfl hc))
theorem x3_2 : AW sv 3 2 [v0, v1, v2, v3] r h 0 0 Q = AW sv 3 3 [v0, v1, v2, v3] (.int (0) :: r) h 0 0 Q := e_iconstv am_h3 dX0_costOf_2 c_iconst_0
theorem x3_3 (hc : v2.category = 1) : AW sv 3 3 [v0, v1, v2, v3] (.int x :: r) h 0 0 Q = AW sv 3 4 [v0, v1, v2, .int x] r h 0 0 Q := e_pv am_h3 dX0_costOf_3 rfl rfl rfl (am_sti_of (Nat.le_of_ble_eq_true rfl) (am_c1_of rfl hc))
theorem x3_4 : AW sv 3 4 [v0, v1, v2, .int x] r h 0 0 Q = AW sv 3 5 [v0, v1, v2, .int x] (.int x :: r) h 0 0 Q := e_pv am_h3 dX0_costOf_4 rfl rfl rfl rfl
theorem x3_5 : AW sv 3 5 [.ref a, v1, v2, v3] r h 0 0 Q = AW sv 3 6 [.ref a, v1, v2, v3] (.ref a :: r) h 0 0 Q := e_pv am_h3 dX0_costOf_5 rfl rfl rfl rfl
theorem x3_6 (hr : am_St a) : AW sv 3 6 [v0, v1, v2, v3] (.ref (a + 11) :: r) (am_toH σ) 0 0 Q = AW sv 3 9 [v0, v1, v2, v3] (.int (σ.1 (a + 11) 4) :: r) (am_toH σ) 0 0 Q := e_getI am_h3 dX0_costOf_6 fl_0_30 (is0 hr) rfl
theorem x3_9 : AW sv 3 9 [v0, v1, v2, v3] (.int y :: .int x :: r) h 0 0 Q = if y ≤ x then AW sv 3 35 [v0, v1, v2, v3] r h 0 0 Q else AW sv 3 12 [v0, v1, v2, v3] r h 0 0 Q := e_c_ge am_h3 dX0_costOf_9 rfl
theorem x3_12 : AW sv 3 12 [v0, .int x, v2, v3] r h 0 0 Q = AW sv 3 13 [v0, .int x, v2, v3] (.int x :: r) h 0 0 Q := e_pv am_h3 dX0_costOf_12 rfl rfl rfl rfl
theorem x3_13 : AW sv 3 13 [v0, v1, v2, .int x] r h 0 0 Q = AW sv 3 14 [v0, v1, v2, .int x] (.int x :: r) h 0 0 Q := e_pv am_h3 dX0_costOf_13 rfl rfl rfl rfl
theorem x3_14 : AW sv 3 14 [v0, v1, v2, v3] (.int y :: .int x :: r) h 0 0 Q = AW sv 3 15 [v0, v1, v2, v3] (.int (x >>> (y &&& 31)) :: r) h 0 0 Q := e_ishr am_h3 dX0_costOf_14
theorem x3_15 : AW sv 3 15 [v0, v1, v2, v3] r h 0 0 Q = AW sv 3 16 [v0, v1, v2, v3] (.int (1) :: r) h 0 0 Q := e_iconstv am_h3 dX0_costOf_15 c_iconst_1
theorem x3_16 : AW sv 3 16 [v0, v1, v2, v3] (.int y :: .int x :: r) h 0 0 Q = AW sv 3 17 [v0, v1, v2, v3] (.int (x &&& y) :: r) h 0 0 Q := e_iand am_h3 dX0_costOf_16
theorem x3_17 : AW sv 3 17 [v0, v1, v2, v3] (.int x :: r) h 0 0 Q = if x = 0 then AW sv 3 29 [v0, v1, v2, v3] r h 0 0 Q else AW sv 3 20 [v0, v1, v2, v3] r h 0 0 Q := e_z_eq am_h3 dX0_costOf_17 rfl
theorem x3_20 : AW sv 3 20 [v0, v1, .int x, v3] r h 0 0 Q = AW sv 3 21 [v0, v1, .int x, v3] (.int x :: r) h 0 0 Q := e_pv am_h3 dX0_costOf_20 rfl rfl rfl rfl
theorem x3_21 : AW sv 3 21 [.ref a, v1, v2, v3] r h 0 0 Q = AW sv 3 22 [.ref a, v1, v2, v3] (.ref a :: r) h 0 0 Q := e_pv am_h3 dX0_costOf_21 rfl rfl rfl rfl
theorem x3_22 (hr : am_St a) : AW sv 3 22 [v0, v1, v2, v3] (.ref (a + 11) :: r) (am_toH σ) 0 0 Q = AW sv 3 25 [v0, v1, v2, v3] (.ref (a + 15) :: r) (am_toH σ) 0 0 Q := e_getR am_h3 dX0_costOf_22 fl_0_21 (is0 hr) rfl
theorem x3_25 : AW sv 3 25 [v0, v1, v2, .int x] r h 0 0 Q = AW sv 3 26 [v0, v1, v2, .int x] (.int x :: r) h 0 0 Q := e_pv am_h3 dX0_costOf_25 rfl rfl rfl rfl
theorem x3_26 (hi : am_in x (am_ln a) = true) : AW sv 3 26 [v0, v1, v2, v3] (.int x :: .ref a :: r) (am_toH σ) 0 0 Q = AW sv 3 27 [v0, v1, v2, v3] (.int (σ.1 a x.toNatClampNeg) :: r) (am_toH σ) 0 0 Q := e_iald am_h3 dX0_costOf_26 hi
theorem x3_27 : AW sv 3 27 [v0, v1, v2, v3] (.int y :: .int x :: r) h 0 0 Q = AW sv 3 28 [v0, v1, v2, v3] (.int (x + y) :: r) h 0 0 Q := e_iadd am_h3 dX0_costOf_27
theorem x3_28 (hc : v1.category = 1) : AW sv 3 28 [v0, v1, v2, v3] (.int x :: r) h 0 0 Q = AW sv 3 29 [v0, v1, .int x, v3] r h 0 0 Q := e_pv am_h3 dX0_costOf_28 rfl rfl rfl (am_sti_of (Nat.le_of_ble_eq_true rfl) (am_c1_of rfl hc))
theorem x3_29 (hc : v2.category = 1) : AW sv 3 29 [v0, v1, v2, .int x] r h 0 0 Q = AW sv 3 32 [v0, v1, v2, .int (x + (1))] r h 0 0 Q := e_pv am_h3 dX0_costOf_29 rfl rfl rfl (am_inc_of (ls := [v0, v1, v2, .int x]) (k := 3) rfl c_iconst_1 (am_c1_of (ls := [v0, v1, v2, .int x]) (k := 2) (v := v2) rfl hc))
theorem x3_32 : AW sv 3 32 [v0, v1, v2, v3] r h 0 0 Q = AW sv 3 4 [v0, v1, v2, v3] r h 0 0 Q := e_goto am_h3 dX0_costOf_32 rfl
theorem x3_35 : AW sv 3 35 [v0, v1, .int x, v3] r h 0 0 Q = AW sv 3 36 [v0, v1, .int x, v3] (.int x :: r) h 0 0 Q := e_pv am_h3 dX0_costOf_35 rfl rfl rfl rfl
theorem x3_36 : AW sv 3 36 [v0, v1, v2, v3] [.int x] h 0 0 Q = Q (some (.int x)) h := e_iret am_h3 dX0_costOf_36 rfl ⟨rfl, rfl⟩
theorem n3 : AM sv 3 [.ref a, .int x0] h Q = AW sv 3 0 [.ref a, .int x0, .null, .null] [] h 0 0 Q := rfl
theorem x4_0 : AW sv 4 0 [v0, v1, v2, v3] r h 0 0 Q = AW sv 4 1 [v0, v1, v2, v3] (.int (0) :: r) h 0 0 Q := e_iconstv am_h4 dX0_layOn_0 c_iconst_0
theorem x4_1 (hc : v2.category = 1) : AW sv 4 1 [v0, v1, v2, v3] (.int x :: r) h 0 0 Q = AW sv 4 2 [v0, v1, v2, .int x] r h 0 0 Q := e_pv am_h4 dX0_layOn_1 rfl rfl rfl (am_sti_of (Nat.le_of_ble_eq_true rfl) (am_c1_of rfl hc))
theorem x4_2 : AW sv 4 2 [v0, v1, v2, .int x] r h 0 0 Q = AW sv 4 3 [v0, v1, v2, .int x] (.int x :: r) h 0 0 Q := e_pv am_h4 dX0_layOn_2 rfl rfl rfl rfl
theorem x4_3 : AW sv 4 3 [.ref a, v1, v2, v3] r h 0 0 Q = AW sv 4 4 [.ref a, v1, v2, v3] (.ref a :: r) h 0 0 Q := e_pv am_h4 dX0_layOn_3 rfl rfl rfl rfl
theorem x4_4 (hr : am_St a) : AW sv 4 4 [v0, v1, v2, v3] (.ref (a + 11) :: r) (am_toH σ) 0 0 Q = AW sv 4 7 [v0, v1, v2, v3] (.int (σ.1 (a + 11) 4) :: r) (am_toH σ) 0 0 Q := e_getI am_h4 dX0_layOn_4 fl_0_30 (is0 hr) rfl
theorem x4_7 : AW sv 4 7 [v0, v1, v2, v3] (.int y :: .int x :: r) h 0 0 Q = if y ≤ x then AW sv 4 140 [v0, v1, v2, v3] r h 0 0 Q else AW sv 4 10 [v0, v1, v2, v3] r h 0 0 Q := e_c_ge am_h4 dX0_layOn_7 rfl
theorem x4_10 : AW sv 4 10 [v0, v1, .int x, v3] r h 0 0 Q = AW sv 4 11 [v0, v1, .int x, v3] (.int x :: r) h 0 0 Q := e_pv am_h4 dX0_layOn_10 rfl rfl rfl rfl
theorem x4_11 : AW sv 4 11 [v0, v1, v2, .int x] r h 0 0 Q = AW sv 4 12 [v0, v1, v2, .int x] (.int x :: r) h 0 0 Q := e_pv am_h4 dX0_layOn_11 rfl rfl rfl rfl
theorem x4_12 : AW sv 4 12 [v0, v1, v2, v3] (.int y :: .int x :: r) h 0 0 Q = AW sv 4 13 [v0, v1, v2, v3] (.int (x >>> (y &&& 31)) :: r) h 0 0 Q := e_ishr am_h4 dX0_layOn_12
theorem x4_13 : AW sv 4 13 [v0, v1, v2, v3] r h 0 0 Q = AW sv 4 14 [v0, v1, v2, v3] (.int (1) :: r) h 0 0 Q := e_iconstv am_h4 dX0_layOn_13 c_iconst_1
theorem x4_14 : AW sv 4 14 [v0, v1, v2, v3] (.int y :: .int x :: r) h 0 0 Q = AW sv 4 15 [v0, v1, v2, v3] (.int (x &&& y) :: r) h 0 0 Q := e_iand am_h4 dX0_layOn_14
theorem x4_15 : AW sv 4 15 [v0, v1, v2, v3] (.int x :: r) h 0 0 Q = if ¬ x = 0 then AW sv 4 21 [v0, v1, v2, v3] r h 0 0 Q else AW sv 4 18 [v0, v1, v2, v3] r h 0 0 Q := e_z_ne am_h4 dX0_layOn_15 rfl
theorem x4_18 : AW sv 4 18 [v0, v1, v2, v3] r h 0 0 Q = AW sv 4 134 [v0, v1, v2, v3] r h 0 0 Q := e_goto am_h4 dX0_layOn_18 rfl
theorem x4_21 : AW sv 4 21 [.ref a, v1, v2, v3] r h 0 0 Q = AW sv 4 22 [.ref a, v1, v2, v3] (.ref a :: r) h 0 0 Q := e_pv am_h4 dX0_layOn_21 rfl rfl rfl rfl
theorem x4_22 (hr : am_St a) : AW sv 4 22 [v0, v1, v2, v3] (.ref (a + 11) :: r) (am_toH σ) 0 0 Q = AW sv 4 25 [v0, v1, v2, v3] (.ref (a + 13) :: r) (am_toH σ) 0 0 Q := e_getR am_h4 dX0_layOn_22 fl_0_15 (is0 hr) rfl
theorem x4_25 : AW sv 4 25 [v0, v1, v2, .int x] r h 0 0 Q = AW sv 4 26 [v0, v1, v2, .int x] (.int x :: r) h 0 0 Q := e_pv am_h4 dX0_layOn_25 rfl rfl rfl rfl
theorem x4_26 (hi : am_in x (am_ln a) = true) : AW sv 4 26 [v0, v1, v2, v3] (.int x :: .ref a :: r) (am_toH σ) 0 0 Q = AW sv 4 27 [v0, v1, v2, v3] (.int (σ.1 a x.toNatClampNeg) :: r) (am_toH σ) 0 0 Q := e_iald am_h4 dX0_layOn_26 hi
-- switch at 27 of 4
theorem x4_52 : AW sv 4 52 [v0, .ref a, v2, v3] r h 0 0 Q = AW sv 4 53 [v0, .ref a, v2, v3] (.ref a :: r) h 0 0 Q := e_pv am_h4 dX0_layOn_52 rfl rfl rfl rfl
theorem x4_53 (hr : am_St a) : AW sv 4 53 [v0, v1, v2, v3] (.ref (a + 1) :: r) (am_toH σ) 0 0 Q = AW sv 4 56 [v0, v1, v2, v3] (.ref (a + 2) :: r) (am_toH σ) 0 0 Q := e_getR am_h4 dX0_layOn_53 fl_0_34 (is3 hr) rfl
theorem x4_56 : AW sv 4 56 [.ref a, v1, v2, v3] r h 0 0 Q = AW sv 4 57 [.ref a, v1, v2, v3] (.ref a :: r) h 0 0 Q := e_pv am_h4 dX0_layOn_56 rfl rfl rfl rfl
theorem x4_57 (hr : am_St a) : AW sv 4 57 [v0, v1, v2, v3] (.ref (a + 11) :: r) (am_toH σ) 0 0 Q = AW sv 4 60 [v0, v1, v2, v3] (.ref (a + 12) :: r) (am_toH σ) 0 0 Q := e_getR am_h4 dX0_layOn_57 fl_0_9 (is0 hr) rfl
theorem x4_60 : AW sv 4 60 [v0, v1, v2, .int x] r h 0 0 Q = AW sv 4 61 [v0, v1, v2, .int x] (.int x :: r) h 0 0 Q := e_pv am_h4 dX0_layOn_60 rfl rfl rfl rfl
theorem x4_61 (hi : am_in x (am_ln a) = true) : AW sv 4 61 [v0, v1, v2, v3] (.int x :: .ref a :: r) (am_toH σ) 0 0 Q = AW sv 4 62 [v0, v1, v2, v3] (.int (σ.1 a x.toNatClampNeg) :: r) (am_toH σ) 0 0 Q := e_iald am_h4 dX0_layOn_61 hi
theorem x4_62 : AW sv 4 62 [v0, v1, v2, v3] r h 0 0 Q = AW sv 4 64 [v0, v1, v2, v3] (.int (10) :: r) h 0 0 Q := e_bipushv am_h4 dX0_layOn_62 c_bipush_10
theorem x4_64 : AW sv 4 64 [.ref a, v1, v2, v3] r h 0 0 Q = AW sv 4 65 [.ref a, v1, v2, v3] (.ref a :: r) h 0 0 Q := e_pv am_h4 dX0_layOn_64 rfl rfl rfl rfl
theorem x4_65 (hr : am_St a) : AW sv 4 65 [v0, v1, v2, v3] (.ref (a + 11) :: r) (am_toH σ) 0 0 Q = AW sv 4 68 [v0, v1, v2, v3] (.ref (a + 14) :: r) (am_toH σ) 0 0 Q := e_getR am_h4 dX0_layOn_65 fl_0_18 (is0 hr) rfl
theorem x4_68 : AW sv 4 68 [v0, v1, v2, .int x] r h 0 0 Q = AW sv 4 69 [v0, v1, v2, .int x] (.int x :: r) h 0 0 Q := e_pv am_h4 dX0_layOn_68 rfl rfl rfl rfl
theorem x4_69 (hi : am_in x (am_ln a) = true) : AW sv 4 69 [v0, v1, v2, v3] (.int x :: .ref a :: r) (am_toH σ) 0 0 Q = AW sv 4 70 [v0, v1, v2, v3] (.int (σ.1 a x.toNatClampNeg) :: r) (am_toH σ) 0 0 Q := e_iald am_h4 dX0_layOn_69 hi
theorem x4_70 : AW sv 4 70 [v0, v1, v2, v3] (.int y :: .int x :: r) h 0 0 Q = AW sv 4 71 [v0, v1, v2, v3] (.int (x * y) :: r) h 0 0 Q := e_imul am_h4 dX0_layOn_70
theorem x4_71 : AW sv 4 71 [v0, v1, v2, v3] r h 0 0 Q = AW sv 4 73 [v0, v1, v2, v3] (.int (6) :: r) h 0 0 Q := e_bipushv am_h4 dX0_layOn_71 c_bipush_6
theorem x4_73 : AW sv 4 73 [v0, v1, v2, v3] (.int y :: .int x :: r) h 0 0 Q = AW sv 4 74 [v0, v1, v2, v3] (.int (x + y) :: r) h 0 0 Q := e_iadd am_h4 dX0_layOn_73
theorem x4_74 (hi : am_in y (am_ln a) = true) : AW sv 4 74 [v0, v1, v2, v3] (.int x :: .int y :: .ref a :: r) (am_toH σ) 0 0 Q = AW sv 4 75 [v0, v1, v2, v3] r (am_toH (am_wr σ a (upd (σ.1 a) y.toNatClampNeg x))) 0 0 Q := e_iast am_h4 dX0_layOn_74 hi
theorem x4_75 : AW sv 4 75 [v0, v1, v2, v3] r h 0 0 Q = AW sv 4 134 [v0, v1, v2, v3] r h 0 0 Q := e_goto am_h4 dX0_layOn_75 rfl
theorem x4_78 : AW sv 4 78 [v0, .ref a, v2, v3] r h 0 0 Q = AW sv 4 79 [v0, .ref a, v2, v3] (.ref a :: r) h 0 0 Q := e_pv am_h4 dX0_layOn_78 rfl rfl rfl rfl
theorem x4_79 (hr : am_St a) : AW sv 4 79 [v0, v1, v2, v3] (.ref (a + 1) :: r) (am_toH σ) 0 0 Q = AW sv 4 82 [v0, v1, v2, v3] (.ref (a + 4) :: r) (am_toH σ) 0 0 Q := e_getR am_h4 dX0_layOn_79 fl_0_39 (is3 hr) rfl
theorem x4_82 : AW sv 4 82 [.ref a, v1, v2, v3] r h 0 0 Q = AW sv 4 83 [.ref a, v1, v2, v3] (.ref a :: r) h 0 0 Q := e_pv am_h4 dX0_layOn_82 rfl rfl rfl rfl
theorem x4_83 (hr : am_St a) : AW sv 4 83 [v0, v1, v2, v3] (.ref (a + 11) :: r) (am_toH σ) 0 0 Q = AW sv 4 86 [v0, v1, v2, v3] (.ref (a + 12) :: r) (am_toH σ) 0 0 Q := e_getR am_h4 dX0_layOn_83 fl_0_9 (is0 hr) rfl
theorem x4_86 : AW sv 4 86 [v0, v1, v2, .int x] r h 0 0 Q = AW sv 4 87 [v0, v1, v2, .int x] (.int x :: r) h 0 0 Q := e_pv am_h4 dX0_layOn_86 rfl rfl rfl rfl
theorem x4_87 (hi : am_in x (am_ln a) = true) : AW sv 4 87 [v0, v1, v2, v3] (.int x :: .ref a :: r) (am_toH σ) 0 0 Q = AW sv 4 88 [v0, v1, v2, v3] (.int (σ.1 a x.toNatClampNeg) :: r) (am_toH σ) 0 0 Q := e_iald am_h4 dX0_layOn_87 hi
theorem x4_88 : AW sv 4 88 [v0, v1, v2, v3] r h 0 0 Q = AW sv 4 89 [v0, v1, v2, v3] (.int (1) :: r) h 0 0 Q := e_iconstv am_h4 dX0_layOn_88 c_iconst_1
theorem x4_89 : AW sv 4 89 [.ref a, v1, v2, v3] r h 0 0 Q = AW sv 4 90 [.ref a, v1, v2, v3] (.ref a :: r) h 0 0 Q := e_pv am_h4 dX0_layOn_89 rfl rfl rfl rfl
theorem x4_90 (hr : am_St a) : AW sv 4 90 [v0, v1, v2, v3] (.ref (a + 11) :: r) (am_toH σ) 0 0 Q = AW sv 4 93 [v0, v1, v2, v3] (.ref (a + 14) :: r) (am_toH σ) 0 0 Q := e_getR am_h4 dX0_layOn_90 fl_0_18 (is0 hr) rfl
theorem x4_93 : AW sv 4 93 [v0, v1, v2, .int x] r h 0 0 Q = AW sv 4 94 [v0, v1, v2, .int x] (.int x :: r) h 0 0 Q := e_pv am_h4 dX0_layOn_93 rfl rfl rfl rfl
theorem x4_94 (hi : am_in x (am_ln a) = true) : AW sv 4 94 [v0, v1, v2, v3] (.int x :: .ref a :: r) (am_toH σ) 0 0 Q = AW sv 4 95 [v0, v1, v2, v3] (.int (σ.1 a x.toNatClampNeg) :: r) (am_toH σ) 0 0 Q := e_iald am_h4 dX0_layOn_94 hi
theorem x4_95 : AW sv 4 95 [v0, v1, v2, v3] (.int y :: .int x :: r) h 0 0 Q = AW sv 4 96 [v0, v1, v2, v3] (.int (x + y) :: r) h 0 0 Q := e_iadd am_h4 dX0_layOn_95
theorem x4_96 (hi : am_in y (am_ln a) = true) : AW sv 4 96 [v0, v1, v2, v3] (.int x :: .int y :: .ref a :: r) (am_toH σ) 0 0 Q = AW sv 4 97 [v0, v1, v2, v3] r (am_toH (am_wr σ a (upd (σ.1 a) y.toNatClampNeg x))) 0 0 Q := e_iast am_h4 dX0_layOn_96 hi
theorem x4_97 : AW sv 4 97 [v0, v1, v2, v3] r h 0 0 Q = AW sv 4 134 [v0, v1, v2, v3] r h 0 0 Q := e_goto am_h4 dX0_layOn_97 rfl
theorem x4_100 : AW sv 4 100 [v0, .ref a, v2, v3] r h 0 0 Q = AW sv 4 101 [v0, .ref a, v2, v3] (.ref a :: r) h 0 0 Q := e_pv am_h4 dX0_layOn_100 rfl rfl rfl rfl
theorem x4_101 (hr : am_St a) : AW sv 4 101 [v0, v1, v2, v3] (.ref (a + 1) :: r) (am_toH σ) 0 0 Q = AW sv 4 104 [v0, v1, v2, v3] (.ref (a + 5) :: r) (am_toH σ) 0 0 Q := e_getR am_h4 dX0_layOn_101 fl_0_42 (is3 hr) rfl
theorem x4_104 : AW sv 4 104 [.ref a, v1, v2, v3] r h 0 0 Q = AW sv 4 105 [.ref a, v1, v2, v3] (.ref a :: r) h 0 0 Q := e_pv am_h4 dX0_layOn_104 rfl rfl rfl rfl
theorem x4_105 (hr : am_St a) : AW sv 4 105 [v0, v1, v2, v3] (.ref (a + 11) :: r) (am_toH σ) 0 0 Q = AW sv 4 108 [v0, v1, v2, v3] (.ref (a + 12) :: r) (am_toH σ) 0 0 Q := e_getR am_h4 dX0_layOn_105 fl_0_9 (is0 hr) rfl
theorem x4_108 : AW sv 4 108 [v0, v1, v2, .int x] r h 0 0 Q = AW sv 4 109 [v0, v1, v2, .int x] (.int x :: r) h 0 0 Q := e_pv am_h4 dX0_layOn_108 rfl rfl rfl rfl
theorem x4_109 (hi : am_in x (am_ln a) = true) : AW sv 4 109 [v0, v1, v2, v3] (.int x :: .ref a :: r) (am_toH σ) 0 0 Q = AW sv 4 110 [v0, v1, v2, v3] (.int (σ.1 a x.toNatClampNeg) :: r) (am_toH σ) 0 0 Q := e_iald am_h4 dX0_layOn_109 hi
theorem x4_110 : AW sv 4 110 [v0, v1, v2, v3] r h 0 0 Q = AW sv 4 111 [v0, v1, v2, v3] (.int (1) :: r) h 0 0 Q := e_iconstv am_h4 dX0_layOn_110 c_iconst_1
theorem x4_111 : AW sv 4 111 [.ref a, v1, v2, v3] r h 0 0 Q = AW sv 4 112 [.ref a, v1, v2, v3] (.ref a :: r) h 0 0 Q := e_pv am_h4 dX0_layOn_111 rfl rfl rfl rfl
theorem x4_112 (hr : am_St a) : AW sv 4 112 [v0, v1, v2, v3] (.ref (a + 11) :: r) (am_toH σ) 0 0 Q = AW sv 4 115 [v0, v1, v2, v3] (.ref (a + 14) :: r) (am_toH σ) 0 0 Q := e_getR am_h4 dX0_layOn_112 fl_0_18 (is0 hr) rfl
theorem x4_115 : AW sv 4 115 [v0, v1, v2, .int x] r h 0 0 Q = AW sv 4 116 [v0, v1, v2, .int x] (.int x :: r) h 0 0 Q := e_pv am_h4 dX0_layOn_115 rfl rfl rfl rfl
theorem x4_116 (hi : am_in x (am_ln a) = true) : AW sv 4 116 [v0, v1, v2, v3] (.int x :: .ref a :: r) (am_toH σ) 0 0 Q = AW sv 4 117 [v0, v1, v2, v3] (.int (σ.1 a x.toNatClampNeg) :: r) (am_toH σ) 0 0 Q := e_iald am_h4 dX0_layOn_116 hi
theorem x4_117 : AW sv 4 117 [v0, v1, v2, v3] (.int y :: .int x :: r) h 0 0 Q = AW sv 4 118 [v0, v1, v2, v3] (.int (x + y) :: r) h 0 0 Q := e_iadd am_h4 dX0_layOn_117
theorem x4_118 (hi : am_in y (am_ln a) = true) : AW sv 4 118 [v0, v1, v2, v3] (.int x :: .int y :: .ref a :: r) (am_toH σ) 0 0 Q = AW sv 4 119 [v0, v1, v2, v3] r (am_toH (am_wr σ a (upd (σ.1 a) y.toNatClampNeg x))) 0 0 Q := e_iast am_h4 dX0_layOn_118 hi
theorem x4_119 : AW sv 4 119 [v0, v1, v2, v3] r h 0 0 Q = AW sv 4 134 [v0, v1, v2, v3] r h 0 0 Q := e_goto am_h4 dX0_layOn_119 rfl
theorem x4_122 : AW sv 4 122 [v0, .ref a, v2, v3] r h 0 0 Q = AW sv 4 123 [v0, .ref a, v2, v3] (.ref a :: r) h 0 0 Q := e_pv am_h4 dX0_layOn_122 rfl rfl rfl rfl
theorem x4_123 (hr : am_St a) : AW sv 4 123 [v0, v1, v2, v3] (.ref (a + 1) :: r) (am_toH σ) 0 0 Q = AW sv 4 126 [v0, v1, v2, v3] (.ref (a + 6) :: r) (am_toH σ) 0 0 Q := e_getR am_h4 dX0_layOn_123 fl_0_45 (is3 hr) rfl
theorem x4_126 : AW sv 4 126 [.ref a, v1, v2, v3] r h 0 0 Q = AW sv 4 127 [.ref a, v1, v2, v3] (.ref a :: r) h 0 0 Q := e_pv am_h4 dX0_layOn_126 rfl rfl rfl rfl
theorem x4_127 (hr : am_St a) : AW sv 4 127 [v0, v1, v2, v3] (.ref (a + 11) :: r) (am_toH σ) 0 0 Q = AW sv 4 130 [v0, v1, v2, v3] (.ref (a + 12) :: r) (am_toH σ) 0 0 Q := e_getR am_h4 dX0_layOn_127 fl_0_9 (is0 hr) rfl
theorem x4_130 : AW sv 4 130 [v0, v1, v2, .int x] r h 0 0 Q = AW sv 4 131 [v0, v1, v2, .int x] (.int x :: r) h 0 0 Q := e_pv am_h4 dX0_layOn_130 rfl rfl rfl rfl
theorem x4_131 (hi : am_in x (am_ln a) = true) : AW sv 4 131 [v0, v1, v2, v3] (.int x :: .ref a :: r) (am_toH σ) 0 0 Q = AW sv 4 132 [v0, v1, v2, v3] (.int (σ.1 a x.toNatClampNeg) :: r) (am_toH σ) 0 0 Q := e_iald am_h4 dX0_layOn_131 hi
theorem x4_132 : AW sv 4 132 [v0, v1, v2, v3] r h 0 0 Q = AW sv 4 133 [v0, v1, v2, v3] (.int (1) :: r) h 0 0 Q := e_iconstv am_h4 dX0_layOn_132 c_iconst_1
theorem x4_133 (hi : am_in y (am_ln a) = true) : AW sv 4 133 [v0, v1, v2, v3] (.int x :: .int y :: .ref a :: r) (am_toH σ) 0 0 Q = AW sv 4 134 [v0, v1, v2, v3] r (am_toH (am_wr σ a (upd (σ.1 a) y.toNatClampNeg x))) 0 0 Q := e_iast am_h4 dX0_layOn_133 hi
theorem x4_134 (hc : v2.category = 1) : AW sv 4 134 [v0, v1, v2, .int x] r h 0 0 Q = AW sv 4 137 [v0, v1, v2, .int (x + (1))] r h 0 0 Q := e_pv am_h4 dX0_layOn_134 rfl rfl rfl (am_inc_of (ls := [v0, v1, v2, .int x]) (k := 3) rfl c_iconst_1 (am_c1_of (ls := [v0, v1, v2, .int x]) (k := 2) (v := v2) rfl hc))
theorem x4_137 : AW sv 4 137 [v0, v1, v2, v3] r h 0 0 Q = AW sv 4 2 [v0, v1, v2, v3] r h 0 0 Q := e_goto am_h4 dX0_layOn_137 rfl
theorem x4_140 : AW sv 4 140 [v0, v1, v2, v3] [] h 0 0 Q = Q none h := e_vret am_h4 dX0_layOn_140 rfl ⟨rfl, rfl⟩
theorem n4 : AM sv 4 [.ref a, .ref b0, .int x1] h Q = AW sv 4 0 [.ref a, .ref b0, .int x1, .null] [] h 0 0 Q := rfl
theorem x6_0 : AW sv 6 0 [v0, .ref a] r h 0 0 Q = AW sv 6 1 [v0, .ref a] (.ref a :: r) h 0 0 Q := e_pv am_h6 dX1_become_0 rfl rfl rfl rfl
theorem x6_1 (hr : am_St a) : AW sv 6 1 [v0, v1] (.ref (a + 7) :: r) (am_toH σ) 0 0 Q = AW sv 6 4 [v0, v1] (.ref (a + 8) :: r) (am_toH σ) 0 0 Q := e_getR am_h6 dX1_become_1 fl_1_9 (is1 hr) rfl
theorem x6_4 : AW sv 6 4 [v0, v1] r h 0 0 Q = AW sv 6 5 [v0, v1] (.int (0) :: r) h 0 0 Q := e_iconstv am_h6 dX1_become_4 c_iconst_0
theorem x6_5 : AW sv 6 5 [.ref a, v1] r h 0 0 Q = AW sv 6 6 [.ref a, v1] (.ref a :: r) h 0 0 Q := e_pv am_h6 dX1_become_5 rfl rfl rfl rfl
theorem x6_6 (hr : am_St a) : AW sv 6 6 [v0, v1] (.ref (a + 7) :: r) (am_toH σ) 0 0 Q = AW sv 6 9 [v0, v1] (.ref (a + 8) :: r) (am_toH σ) 0 0 Q := e_getR am_h6 dX1_become_6 fl_1_9 (is1 hr) rfl
theorem x6_9 : AW sv 6 9 [v0, v1] r h 0 0 Q = AW sv 6 10 [v0, v1] (.int (0) :: r) h 0 0 Q := e_iconstv am_h6 dX1_become_9 c_iconst_0
theorem x6_10 : AW sv 6 10 [v0, v1] r h 0 0 Q = AW sv 6 12 [v0, v1] (.int (12) :: r) h 0 0 Q := e_bipushv am_h6 dX1_become_10 c_bipush_12
theorem x6_12 (h8 : am_cs r ≤ 8) (ha : 0 < am_ln a) (hb : 0 < am_ln b) (hc : (0 ≤ x.toInt ∧ 0 ≤ y.toInt ∧ 0 ≤ n.toInt) ∧ x.toNatClampNeg + n.toNatClampNeg ≤ am_ln a ∧ y.toNatClampNeg + n.toNatClampNeg ≤ am_ln b) : AW sv 6 12 [v0, v1] (.int n :: .int y :: .ref b :: .int x :: .ref a :: r) (am_toH σ) 0 0 Q = AW sv 6 15 [v0, v1] r (am_toH (am_wr σ b (va_cpy (σ.1 a) (σ.1 b) x.toNatClampNeg y.toNatClampNeg n.toNatClampNeg))) 0 0 Q := e_cpy am_h6 dX1_become_12 ml_1_21 (am_rj18 (by decide) h8) ha hb hc
theorem x6_15 : AW sv 6 15 [v0, .ref a] r h 0 0 Q = AW sv 6 16 [v0, .ref a] (.ref a :: r) h 0 0 Q := e_pv am_h6 dX1_become_15 rfl rfl rfl rfl
theorem x6_16 (hr : am_St a) : AW sv 6 16 [v0, v1] (.ref (a + 7) :: r) (am_toH σ) 0 0 Q = AW sv 6 19 [v0, v1] (.ref (a + 9) :: r) (am_toH σ) 0 0 Q := e_getR am_h6 dX1_become_16 fl_1_15 (is1 hr) rfl
theorem x6_19 : AW sv 6 19 [v0, v1] r h 0 0 Q = AW sv 6 20 [v0, v1] (.int (0) :: r) h 0 0 Q := e_iconstv am_h6 dX1_become_19 c_iconst_0
theorem x6_20 : AW sv 6 20 [.ref a, v1] r h 0 0 Q = AW sv 6 21 [.ref a, v1] (.ref a :: r) h 0 0 Q := e_pv am_h6 dX1_become_20 rfl rfl rfl rfl
theorem x6_21 (hr : am_St a) : AW sv 6 21 [v0, v1] (.ref (a + 7) :: r) (am_toH σ) 0 0 Q = AW sv 6 24 [v0, v1] (.ref (a + 9) :: r) (am_toH σ) 0 0 Q := e_getR am_h6 dX1_become_21 fl_1_15 (is1 hr) rfl
theorem x6_24 : AW sv 6 24 [v0, v1] r h 0 0 Q = AW sv 6 25 [v0, v1] (.int (0) :: r) h 0 0 Q := e_iconstv am_h6 dX1_become_24 c_iconst_0
theorem x6_25 : AW sv 6 25 [v0, v1] r h 0 0 Q = AW sv 6 27 [v0, v1] (.int (12) :: r) h 0 0 Q := e_bipushv am_h6 dX1_become_25 c_bipush_12
theorem x6_27 (h8 : am_cs r ≤ 8) (ha : 0 < am_ln a) (hb : 0 < am_ln b) (hc : (0 ≤ x.toInt ∧ 0 ≤ y.toInt ∧ 0 ≤ n.toInt) ∧ x.toNatClampNeg + n.toNatClampNeg ≤ am_ln a ∧ y.toNatClampNeg + n.toNatClampNeg ≤ am_ln b) : AW sv 6 27 [v0, v1] (.int n :: .int y :: .ref b :: .int x :: .ref a :: r) (am_toH σ) 0 0 Q = AW sv 6 30 [v0, v1] r (am_toH (am_wr σ b (va_cpy (σ.1 a) (σ.1 b) x.toNatClampNeg y.toNatClampNeg n.toNatClampNeg))) 0 0 Q := e_cpy am_h6 dX1_become_27 ml_1_21 (am_rj18 (by decide) h8) ha hb hc
theorem x6_30 : AW sv 6 30 [v0, .ref a] r h 0 0 Q = AW sv 6 31 [v0, .ref a] (.ref a :: r) h 0 0 Q := e_pv am_h6 dX1_become_30 rfl rfl rfl rfl
theorem x6_31 (hr : am_St a) : AW sv 6 31 [v0, v1] (.ref (a + 7) :: r) (am_toH σ) 0 0 Q = AW sv 6 34 [v0, v1] (.ref (a + 10) :: r) (am_toH σ) 0 0 Q := e_getR am_h6 dX1_become_31 fl_1_18 (is1 hr) rfl
theorem x6_34 : AW sv 6 34 [v0, v1] r h 0 0 Q = AW sv 6 35 [v0, v1] (.int (0) :: r) h 0 0 Q := e_iconstv am_h6 dX1_become_34 c_iconst_0
theorem x6_35 : AW sv 6 35 [.ref a, v1] r h 0 0 Q = AW sv 6 36 [.ref a, v1] (.ref a :: r) h 0 0 Q := e_pv am_h6 dX1_become_35 rfl rfl rfl rfl
theorem x6_36 (hr : am_St a) : AW sv 6 36 [v0, v1] (.ref (a + 7) :: r) (am_toH σ) 0 0 Q = AW sv 6 39 [v0, v1] (.ref (a + 10) :: r) (am_toH σ) 0 0 Q := e_getR am_h6 dX1_become_36 fl_1_18 (is1 hr) rfl
theorem x6_39 : AW sv 6 39 [v0, v1] r h 0 0 Q = AW sv 6 40 [v0, v1] (.int (0) :: r) h 0 0 Q := e_iconstv am_h6 dX1_become_39 c_iconst_0
theorem x6_40 : AW sv 6 40 [v0, v1] r h 0 0 Q = AW sv 6 42 [v0, v1] (.int (12) :: r) h 0 0 Q := e_bipushv am_h6 dX1_become_40 c_bipush_12
theorem x6_42 (h8 : am_cs r ≤ 8) (ha : 0 < am_ln a) (hb : 0 < am_ln b) (hc : (0 ≤ x.toInt ∧ 0 ≤ y.toInt ∧ 0 ≤ n.toInt) ∧ x.toNatClampNeg + n.toNatClampNeg ≤ am_ln a ∧ y.toNatClampNeg + n.toNatClampNeg ≤ am_ln b) : AW sv 6 42 [v0, v1] (.int n :: .int y :: .ref b :: .int x :: .ref a :: r) (am_toH σ) 0 0 Q = AW sv 6 45 [v0, v1] r (am_toH (am_wr σ b (va_cpy (σ.1 a) (σ.1 b) x.toNatClampNeg y.toNatClampNeg n.toNatClampNeg))) 0 0 Q := e_cpy am_h6 dX1_become_42 ml_1_21 (am_rj18 (by decide) h8) ha hb hc
theorem x6_45 : AW sv 6 45 [.ref a, v1] r h 0 0 Q = AW sv 6 46 [.ref a, v1] (.ref a :: r) h 0 0 Q := e_pv am_h6 dX1_become_45 rfl rfl rfl rfl
theorem x6_46 : AW sv 6 46 [v0, .ref a] r h 0 0 Q = AW sv 6 47 [v0, .ref a] (.ref a :: r) h 0 0 Q := e_pv am_h6 dX1_become_46 rfl rfl rfl rfl
theorem x6_47 (hr : am_St a) : AW sv 6 47 [v0, v1] (.ref (a + 7) :: r) (am_toH σ) 0 0 Q = AW sv 6 50 [v0, v1] (.int (σ.1 (a + 7) 3) :: r) (am_toH σ) 0 0 Q := e_getI am_h6 dX1_become_47 fl_1_27 (is1 hr) rfl
theorem x6_50 (hr : am_St a) : AW sv 6 50 [v0, v1] (.int x :: .ref (a + 7) :: r) (am_toH σ) 0 0 Q = AW sv 6 53 [v0, v1] r (am_toH (am_wr σ (a + 7) (upd (σ.1 (a + 7)) 3 x))) 0 0 Q := e_putI am_h6 dX1_become_50 fl_1_27 (is1 hr) rfl rfl rfl
theorem x6_53 : AW sv 6 53 [v0, v1] [] h 0 0 Q = Q none h := e_vret am_h6 dX1_become_53 rfl ⟨rfl, rfl⟩
theorem n6 : AM sv 6 [.ref a, .ref b0] h Q = AW sv 6 0 [.ref a, .ref b0] [] h 0 0 Q := rfl
theorem x7_0 : AW sv 7 0 [v0, v1, v2] r h 0 0 Q = AW sv 7 1 [v0, v1, v2] (.int (0) :: r) h 0 0 Q := e_iconstv am_h7 dX1_isTaken_0 c_iconst_0
theorem x7_1 (hc : v1.category = 1) : AW sv 7 1 [v0, v1, v2] (.int x :: r) h 0 0 Q = AW sv 7 2 [v0, v1, .int x] r h 0 0 Q := e_pv am_h7 dX1_isTaken_1 rfl rfl rfl (am_sti_of (Nat.le_of_ble_eq_true rfl) (am_c1_of rfl hc))
theorem x7_2 : AW sv 7 2 [v0, v1, .int x] r h 0 0 Q = AW sv 7 3 [v0, v1, .int x] (.int x :: r) h 0 0 Q := e_pv am_h7 dX1_isTaken_2 rfl rfl rfl rfl
theorem x7_3 : AW sv 7 3 [.ref a, v1, v2] r h 0 0 Q = AW sv 7 4 [.ref a, v1, v2] (.ref a :: r) h 0 0 Q := e_pv am_h7 dX1_isTaken_3 rfl rfl rfl rfl
theorem x7_4 (hr : am_St a) : AW sv 7 4 [v0, v1, v2] (.ref (a + 7) :: r) (am_toH σ) 0 0 Q = AW sv 7 7 [v0, v1, v2] (.int (σ.1 (a + 7) 3) :: r) (am_toH σ) 0 0 Q := e_getI am_h7 dX1_isTaken_4 fl_1_27 (is1 hr) rfl
theorem x7_7 : AW sv 7 7 [v0, v1, v2] (.int y :: .int x :: r) h 0 0 Q = if y ≤ x then AW sv 7 28 [v0, v1, v2] r h 0 0 Q else AW sv 7 10 [v0, v1, v2] r h 0 0 Q := e_c_ge am_h7 dX1_isTaken_7 rfl
theorem x7_10 : AW sv 7 10 [.ref a, v1, v2] r h 0 0 Q = AW sv 7 11 [.ref a, v1, v2] (.ref a :: r) h 0 0 Q := e_pv am_h7 dX1_isTaken_10 rfl rfl rfl rfl
theorem x7_11 (hr : am_St a) : AW sv 7 11 [v0, v1, v2] (.ref (a + 7) :: r) (am_toH σ) 0 0 Q = AW sv 7 14 [v0, v1, v2] (.ref (a + 8) :: r) (am_toH σ) 0 0 Q := e_getR am_h7 dX1_isTaken_11 fl_1_9 (is1 hr) rfl
theorem x7_14 : AW sv 7 14 [v0, v1, .int x] r h 0 0 Q = AW sv 7 15 [v0, v1, .int x] (.int x :: r) h 0 0 Q := e_pv am_h7 dX1_isTaken_14 rfl rfl rfl rfl
theorem x7_15 (hi : am_in x (am_ln a) = true) : AW sv 7 15 [v0, v1, v2] (.int x :: .ref a :: r) (am_toH σ) 0 0 Q = AW sv 7 16 [v0, v1, v2] (.int (σ.1 a x.toNatClampNeg) :: r) (am_toH σ) 0 0 Q := e_iald am_h7 dX1_isTaken_15 hi
theorem x7_16 : AW sv 7 16 [v0, .int x, v2] r h 0 0 Q = AW sv 7 17 [v0, .int x, v2] (.int x :: r) h 0 0 Q := e_pv am_h7 dX1_isTaken_16 rfl rfl rfl rfl
theorem x7_17 : AW sv 7 17 [v0, v1, v2] (.int y :: .int x :: r) h 0 0 Q = if ¬ x = y then AW sv 7 22 [v0, v1, v2] r h 0 0 Q else AW sv 7 20 [v0, v1, v2] r h 0 0 Q := e_c_ne am_h7 dX1_isTaken_17 rfl
theorem x7_20 : AW sv 7 20 [v0, v1, v2] r h 0 0 Q = AW sv 7 21 [v0, v1, v2] (.int (1) :: r) h 0 0 Q := e_iconstv am_h7 dX1_isTaken_20 c_iconst_1
theorem x7_21 (hz : x = 0 ∨ x = 1) : AW sv 7 21 [v0, v1, v2] [.int x] h 0 0 Q = Q (some (.int x)) h := e_zret am_h7 dX1_isTaken_21 rfl ⟨rfl, rfl⟩ hz
theorem x7_22 (hc : v1.category = 1) : AW sv 7 22 [v0, v1, .int x] r h 0 0 Q = AW sv 7 25 [v0, v1, .int (x + (1))] r h 0 0 Q := e_pv am_h7 dX1_isTaken_22 rfl rfl rfl (am_inc_of (ls := [v0, v1, .int x]) (k := 2) rfl c_iconst_1 (am_c1_of (ls := [v0, v1, .int x]) (k := 1) (v := v1) rfl hc))
theorem x7_25 : AW sv 7 25 [v0, v1, v2] r h 0 0 Q = AW sv 7 2 [v0, v1, v2] r h 0 0 Q := e_goto am_h7 dX1_isTaken_25 rfl
theorem x7_28 : AW sv 7 28 [v0, v1, v2] r h 0 0 Q = AW sv 7 29 [v0, v1, v2] (.int (0) :: r) h 0 0 Q := e_iconstv am_h7 dX1_isTaken_28 c_iconst_0
theorem x7_29 (hz : x = 0 ∨ x = 1) : AW sv 7 29 [v0, v1, v2] [.int x] h 0 0 Q = Q (some (.int x)) h := e_zret am_h7 dX1_isTaken_29 rfl ⟨rfl, rfl⟩ hz
theorem n7 : AM sv 7 [.ref a, .int x0] h Q = AW sv 7 0 [.ref a, .int x0, .null] [] h 0 0 Q := rfl
theorem x8_0 : AW sv 8 0 [.ref a, v1, v2] r h 0 0 Q = AW sv 8 1 [.ref a, v1, v2] (.ref a :: r) h 0 0 Q := e_pv am_h8 dX1_admit_0 rfl rfl rfl rfl
theorem x8_1 (hr : am_St a) : AW sv 8 1 [v0, v1, v2] (.ref (a + 7) :: r) (am_toH σ) 0 0 Q = AW sv 8 4 [v0, v1, v2] (.int (σ.1 (a + 7) 3) :: r) (am_toH σ) 0 0 Q := e_getI am_h8 dX1_admit_1 fl_1_27 (is1 hr) rfl
theorem x8_4 : AW sv 8 4 [v0, v1, v2] r h 0 0 Q = AW sv 8 6 [v0, v1, v2] (.int (12) :: r) h 0 0 Q := e_bipushv am_h8 dX1_admit_4 c_bipush_12
theorem x8_6 : AW sv 8 6 [v0, v1, v2] (.int y :: .int x :: r) h 0 0 Q = if y ≤ x then AW sv 8 49 [v0, v1, v2] r h 0 0 Q else AW sv 8 9 [v0, v1, v2] r h 0 0 Q := e_c_ge am_h8 dX1_admit_6 rfl
theorem x8_9 : AW sv 8 9 [.ref a, v1, v2] r h 0 0 Q = AW sv 8 10 [.ref a, v1, v2] (.ref a :: r) h 0 0 Q := e_pv am_h8 dX1_admit_9 rfl rfl rfl rfl
theorem x8_10 (hr : am_St a) : AW sv 8 10 [v0, v1, v2] (.ref (a + 7) :: r) (am_toH σ) 0 0 Q = AW sv 8 13 [v0, v1, v2] (.ref (a + 8) :: r) (am_toH σ) 0 0 Q := e_getR am_h8 dX1_admit_10 fl_1_9 (is1 hr) rfl
theorem x8_13 : AW sv 8 13 [.ref a, v1, v2] r h 0 0 Q = AW sv 8 14 [.ref a, v1, v2] (.ref a :: r) h 0 0 Q := e_pv am_h8 dX1_admit_13 rfl rfl rfl rfl
theorem x8_14 (hr : am_St a) : AW sv 8 14 [v0, v1, v2] (.ref (a + 7) :: r) (am_toH σ) 0 0 Q = AW sv 8 17 [v0, v1, v2] (.int (σ.1 (a + 7) 3) :: r) (am_toH σ) 0 0 Q := e_getI am_h8 dX1_admit_14 fl_1_27 (is1 hr) rfl
theorem x8_17 : AW sv 8 17 [v0, .int x, v2] r h 0 0 Q = AW sv 8 18 [v0, .int x, v2] (.int x :: r) h 0 0 Q := e_pv am_h8 dX1_admit_17 rfl rfl rfl rfl
theorem x8_18 (hi : am_in y (am_ln a) = true) : AW sv 8 18 [v0, v1, v2] (.int x :: .int y :: .ref a :: r) (am_toH σ) 0 0 Q = AW sv 8 19 [v0, v1, v2] r (am_toH (am_wr σ a (upd (σ.1 a) y.toNatClampNeg x))) 0 0 Q := e_iast am_h8 dX1_admit_18 hi
theorem x8_19 : AW sv 8 19 [.ref a, v1, v2] r h 0 0 Q = AW sv 8 20 [.ref a, v1, v2] (.ref a :: r) h 0 0 Q := e_pv am_h8 dX1_admit_19 rfl rfl rfl rfl
theorem x8_20 (hr : am_St a) : AW sv 8 20 [v0, v1, v2] (.ref (a + 7) :: r) (am_toH σ) 0 0 Q = AW sv 8 23 [v0, v1, v2] (.ref (a + 9) :: r) (am_toH σ) 0 0 Q := e_getR am_h8 dX1_admit_20 fl_1_15 (is1 hr) rfl
theorem x8_23 : AW sv 8 23 [.ref a, v1, v2] r h 0 0 Q = AW sv 8 24 [.ref a, v1, v2] (.ref a :: r) h 0 0 Q := e_pv am_h8 dX1_admit_23 rfl rfl rfl rfl
theorem x8_24 (hr : am_St a) : AW sv 8 24 [v0, v1, v2] (.ref (a + 7) :: r) (am_toH σ) 0 0 Q = AW sv 8 27 [v0, v1, v2] (.int (σ.1 (a + 7) 3) :: r) (am_toH σ) 0 0 Q := e_getI am_h8 dX1_admit_24 fl_1_27 (is1 hr) rfl
theorem x8_27 : AW sv 8 27 [v0, v1, .int x] r h 0 0 Q = AW sv 8 28 [v0, v1, .int x] (.int x :: r) h 0 0 Q := e_pv am_h8 dX1_admit_27 rfl rfl rfl rfl
theorem x8_28 (hi : am_in y (am_ln a) = true) : AW sv 8 28 [v0, v1, v2] (.int x :: .int y :: .ref a :: r) (am_toH σ) 0 0 Q = AW sv 8 29 [v0, v1, v2] r (am_toH (am_wr σ a (upd (σ.1 a) y.toNatClampNeg x))) 0 0 Q := e_iast am_h8 dX1_admit_28 hi
theorem x8_29 : AW sv 8 29 [.ref a, v1, v2] r h 0 0 Q = AW sv 8 30 [.ref a, v1, v2] (.ref a :: r) h 0 0 Q := e_pv am_h8 dX1_admit_29 rfl rfl rfl rfl
theorem x8_30 (hr : am_St a) : AW sv 8 30 [v0, v1, v2] (.ref (a + 7) :: r) (am_toH σ) 0 0 Q = AW sv 8 33 [v0, v1, v2] (.ref (a + 10) :: r) (am_toH σ) 0 0 Q := e_getR am_h8 dX1_admit_30 fl_1_18 (is1 hr) rfl
theorem x8_33 : AW sv 8 33 [.ref a, v1, v2] r h 0 0 Q = AW sv 8 34 [.ref a, v1, v2] (.ref a :: r) h 0 0 Q := e_pv am_h8 dX1_admit_33 rfl rfl rfl rfl
theorem x8_34 (hr : am_St a) : AW sv 8 34 [v0, v1, v2] (.ref (a + 7) :: r) (am_toH σ) 0 0 Q = AW sv 8 37 [v0, v1, v2] (.int (σ.1 (a + 7) 3) :: r) (am_toH σ) 0 0 Q := e_getI am_h8 dX1_admit_34 fl_1_27 (is1 hr) rfl
theorem x8_37 : AW sv 8 37 [v0, v1, v2] r h 0 0 Q = AW sv 8 38 [v0, v1, v2] (.int (3) :: r) h 0 0 Q := e_iconstv am_h8 dX1_admit_37 c_iconst_3
theorem x8_38 (hi : am_in y (am_ln a) = true) : AW sv 8 38 [v0, v1, v2] (.int x :: .int y :: .ref a :: r) (am_toH σ) 0 0 Q = AW sv 8 39 [v0, v1, v2] r (am_toH (am_wr σ a (upd (σ.1 a) y.toNatClampNeg x))) 0 0 Q := e_iast am_h8 dX1_admit_38 hi
theorem x8_39 : AW sv 8 39 [.ref a, v1, v2] r h 0 0 Q = AW sv 8 40 [.ref a, v1, v2] (.ref a :: r) h 0 0 Q := e_pv am_h8 dX1_admit_39 rfl rfl rfl rfl
theorem x8_40 (hc : v.category = 1) : AW sv 8 40 [v0, v1, v2] (v :: r) h 0 0 Q = AW sv 8 41 [v0, v1, v2] (v :: v :: r) h 0 0 Q := e_dup am_h8 dX1_admit_40 hc
theorem x8_41 (hr : am_St a) : AW sv 8 41 [v0, v1, v2] (.ref (a + 7) :: r) (am_toH σ) 0 0 Q = AW sv 8 44 [v0, v1, v2] (.int (σ.1 (a + 7) 3) :: r) (am_toH σ) 0 0 Q := e_getI am_h8 dX1_admit_41 fl_1_27 (is1 hr) rfl
theorem x8_44 : AW sv 8 44 [v0, v1, v2] r h 0 0 Q = AW sv 8 45 [v0, v1, v2] (.int (1) :: r) h 0 0 Q := e_iconstv am_h8 dX1_admit_44 c_iconst_1
theorem x8_45 : AW sv 8 45 [v0, v1, v2] (.int y :: .int x :: r) h 0 0 Q = AW sv 8 46 [v0, v1, v2] (.int (x + y) :: r) h 0 0 Q := e_iadd am_h8 dX1_admit_45
theorem x8_46 (hr : am_St a) : AW sv 8 46 [v0, v1, v2] (.int x :: .ref (a + 7) :: r) (am_toH σ) 0 0 Q = AW sv 8 49 [v0, v1, v2] r (am_toH (am_wr σ (a + 7) (upd (σ.1 (a + 7)) 3 x))) 0 0 Q := e_putI am_h8 dX1_admit_46 fl_1_27 (is1 hr) rfl rfl rfl
theorem x8_49 : AW sv 8 49 [v0, v1, v2] [] h 0 0 Q = Q none h := e_vret am_h8 dX1_admit_49 rfl ⟨rfl, rfl⟩
theorem n8 : AM sv 8 [.ref a, .int x0, .int x1] h Q = AW sv 8 0 [.ref a, .int x0, .int x1] [] h 0 0 Q := rfl
theorem x9_0 : AW sv 9 0 [v0, .int x, v2] r h 0 0 Q = AW sv 9 1 [v0, .int x, v2] (.int x :: r) h 0 0 Q := e_pv am_h9 dX1_dismiss_0 rfl rfl rfl rfl
theorem x9_1 : AW sv 9 1 [v0, v1, v2] r h 0 0 Q = AW sv 9 2 [v0, v1, v2] (.int (1) :: r) h 0 0 Q := e_iconstv am_h9 dX1_dismiss_1 c_iconst_1
theorem x9_2 : AW sv 9 2 [v0, v1, v2] (.int y :: .int x :: r) h 0 0 Q = AW sv 9 3 [v0, v1, v2] (.int (x + y) :: r) h 0 0 Q := e_iadd am_h9 dX1_dismiss_2
theorem x9_3 (hc : v1.category = 1) : AW sv 9 3 [v0, v1, v2] (.int x :: r) h 0 0 Q = AW sv 9 4 [v0, v1, .int x] r h 0 0 Q := e_pv am_h9 dX1_dismiss_3 rfl rfl rfl (am_sti_of (Nat.le_of_ble_eq_true rfl) (am_c1_of rfl hc))
theorem x9_4 : AW sv 9 4 [v0, v1, .int x] r h 0 0 Q = AW sv 9 5 [v0, v1, .int x] (.int x :: r) h 0 0 Q := e_pv am_h9 dX1_dismiss_4 rfl rfl rfl rfl
theorem x9_5 : AW sv 9 5 [.ref a, v1, v2] r h 0 0 Q = AW sv 9 6 [.ref a, v1, v2] (.ref a :: r) h 0 0 Q := e_pv am_h9 dX1_dismiss_5 rfl rfl rfl rfl
theorem x9_6 (hr : am_St a) : AW sv 9 6 [v0, v1, v2] (.ref (a + 7) :: r) (am_toH σ) 0 0 Q = AW sv 9 9 [v0, v1, v2] (.int (σ.1 (a + 7) 3) :: r) (am_toH σ) 0 0 Q := e_getI am_h9 dX1_dismiss_6 fl_1_27 (is1 hr) rfl
theorem x9_9 : AW sv 9 9 [v0, v1, v2] (.int y :: .int x :: r) h 0 0 Q = if y ≤ x then AW sv 9 60 [v0, v1, v2] r h 0 0 Q else AW sv 9 12 [v0, v1, v2] r h 0 0 Q := e_c_ge am_h9 dX1_dismiss_9 rfl
theorem x9_12 : AW sv 9 12 [.ref a, v1, v2] r h 0 0 Q = AW sv 9 13 [.ref a, v1, v2] (.ref a :: r) h 0 0 Q := e_pv am_h9 dX1_dismiss_12 rfl rfl rfl rfl
theorem x9_13 (hr : am_St a) : AW sv 9 13 [v0, v1, v2] (.ref (a + 7) :: r) (am_toH σ) 0 0 Q = AW sv 9 16 [v0, v1, v2] (.ref (a + 8) :: r) (am_toH σ) 0 0 Q := e_getR am_h9 dX1_dismiss_13 fl_1_9 (is1 hr) rfl
theorem x9_16 : AW sv 9 16 [v0, v1, .int x] r h 0 0 Q = AW sv 9 17 [v0, v1, .int x] (.int x :: r) h 0 0 Q := e_pv am_h9 dX1_dismiss_16 rfl rfl rfl rfl
theorem x9_17 : AW sv 9 17 [v0, v1, v2] r h 0 0 Q = AW sv 9 18 [v0, v1, v2] (.int (1) :: r) h 0 0 Q := e_iconstv am_h9 dX1_dismiss_17 c_iconst_1
theorem x9_18 : AW sv 9 18 [v0, v1, v2] (.int y :: .int x :: r) h 0 0 Q = AW sv 9 19 [v0, v1, v2] (.int (x - y) :: r) h 0 0 Q := e_isub am_h9 dX1_dismiss_18
theorem x9_19 : AW sv 9 19 [.ref a, v1, v2] r h 0 0 Q = AW sv 9 20 [.ref a, v1, v2] (.ref a :: r) h 0 0 Q := e_pv am_h9 dX1_dismiss_19 rfl rfl rfl rfl
theorem x9_20 (hr : am_St a) : AW sv 9 20 [v0, v1, v2] (.ref (a + 7) :: r) (am_toH σ) 0 0 Q = AW sv 9 23 [v0, v1, v2] (.ref (a + 8) :: r) (am_toH σ) 0 0 Q := e_getR am_h9 dX1_dismiss_20 fl_1_9 (is1 hr) rfl
theorem x9_23 : AW sv 9 23 [v0, v1, .int x] r h 0 0 Q = AW sv 9 24 [v0, v1, .int x] (.int x :: r) h 0 0 Q := e_pv am_h9 dX1_dismiss_23 rfl rfl rfl rfl
theorem x9_24 (hi : am_in x (am_ln a) = true) : AW sv 9 24 [v0, v1, v2] (.int x :: .ref a :: r) (am_toH σ) 0 0 Q = AW sv 9 25 [v0, v1, v2] (.int (σ.1 a x.toNatClampNeg) :: r) (am_toH σ) 0 0 Q := e_iald am_h9 dX1_dismiss_24 hi
theorem x9_25 (hi : am_in y (am_ln a) = true) : AW sv 9 25 [v0, v1, v2] (.int x :: .int y :: .ref a :: r) (am_toH σ) 0 0 Q = AW sv 9 26 [v0, v1, v2] r (am_toH (am_wr σ a (upd (σ.1 a) y.toNatClampNeg x))) 0 0 Q := e_iast am_h9 dX1_dismiss_25 hi
theorem x9_26 : AW sv 9 26 [.ref a, v1, v2] r h 0 0 Q = AW sv 9 27 [.ref a, v1, v2] (.ref a :: r) h 0 0 Q := e_pv am_h9 dX1_dismiss_26 rfl rfl rfl rfl
theorem x9_27 (hr : am_St a) : AW sv 9 27 [v0, v1, v2] (.ref (a + 7) :: r) (am_toH σ) 0 0 Q = AW sv 9 30 [v0, v1, v2] (.ref (a + 9) :: r) (am_toH σ) 0 0 Q := e_getR am_h9 dX1_dismiss_27 fl_1_15 (is1 hr) rfl
theorem x9_30 : AW sv 9 30 [v0, v1, .int x] r h 0 0 Q = AW sv 9 31 [v0, v1, .int x] (.int x :: r) h 0 0 Q := e_pv am_h9 dX1_dismiss_30 rfl rfl rfl rfl
theorem x9_31 : AW sv 9 31 [v0, v1, v2] r h 0 0 Q = AW sv 9 32 [v0, v1, v2] (.int (1) :: r) h 0 0 Q := e_iconstv am_h9 dX1_dismiss_31 c_iconst_1
theorem x9_32 : AW sv 9 32 [v0, v1, v2] (.int y :: .int x :: r) h 0 0 Q = AW sv 9 33 [v0, v1, v2] (.int (x - y) :: r) h 0 0 Q := e_isub am_h9 dX1_dismiss_32
theorem x9_33 : AW sv 9 33 [.ref a, v1, v2] r h 0 0 Q = AW sv 9 34 [.ref a, v1, v2] (.ref a :: r) h 0 0 Q := e_pv am_h9 dX1_dismiss_33 rfl rfl rfl rfl
theorem x9_34 (hr : am_St a) : AW sv 9 34 [v0, v1, v2] (.ref (a + 7) :: r) (am_toH σ) 0 0 Q = AW sv 9 37 [v0, v1, v2] (.ref (a + 9) :: r) (am_toH σ) 0 0 Q := e_getR am_h9 dX1_dismiss_34 fl_1_15 (is1 hr) rfl
theorem x9_37 : AW sv 9 37 [v0, v1, .int x] r h 0 0 Q = AW sv 9 38 [v0, v1, .int x] (.int x :: r) h 0 0 Q := e_pv am_h9 dX1_dismiss_37 rfl rfl rfl rfl
theorem x9_38 (hi : am_in x (am_ln a) = true) : AW sv 9 38 [v0, v1, v2] (.int x :: .ref a :: r) (am_toH σ) 0 0 Q = AW sv 9 39 [v0, v1, v2] (.int (σ.1 a x.toNatClampNeg) :: r) (am_toH σ) 0 0 Q := e_iald am_h9 dX1_dismiss_38 hi
theorem x9_39 (hi : am_in y (am_ln a) = true) : AW sv 9 39 [v0, v1, v2] (.int x :: .int y :: .ref a :: r) (am_toH σ) 0 0 Q = AW sv 9 40 [v0, v1, v2] r (am_toH (am_wr σ a (upd (σ.1 a) y.toNatClampNeg x))) 0 0 Q := e_iast am_h9 dX1_dismiss_39 hi
theorem x9_40 : AW sv 9 40 [.ref a, v1, v2] r h 0 0 Q = AW sv 9 41 [.ref a, v1, v2] (.ref a :: r) h 0 0 Q := e_pv am_h9 dX1_dismiss_40 rfl rfl rfl rfl
theorem x9_41 (hr : am_St a) : AW sv 9 41 [v0, v1, v2] (.ref (a + 7) :: r) (am_toH σ) 0 0 Q = AW sv 9 44 [v0, v1, v2] (.ref (a + 10) :: r) (am_toH σ) 0 0 Q := e_getR am_h9 dX1_dismiss_41 fl_1_18 (is1 hr) rfl
theorem x9_44 : AW sv 9 44 [v0, v1, .int x] r h 0 0 Q = AW sv 9 45 [v0, v1, .int x] (.int x :: r) h 0 0 Q := e_pv am_h9 dX1_dismiss_44 rfl rfl rfl rfl
theorem x9_45 : AW sv 9 45 [v0, v1, v2] r h 0 0 Q = AW sv 9 46 [v0, v1, v2] (.int (1) :: r) h 0 0 Q := e_iconstv am_h9 dX1_dismiss_45 c_iconst_1
theorem x9_46 : AW sv 9 46 [v0, v1, v2] (.int y :: .int x :: r) h 0 0 Q = AW sv 9 47 [v0, v1, v2] (.int (x - y) :: r) h 0 0 Q := e_isub am_h9 dX1_dismiss_46
theorem x9_47 : AW sv 9 47 [.ref a, v1, v2] r h 0 0 Q = AW sv 9 48 [.ref a, v1, v2] (.ref a :: r) h 0 0 Q := e_pv am_h9 dX1_dismiss_47 rfl rfl rfl rfl
theorem x9_48 (hr : am_St a) : AW sv 9 48 [v0, v1, v2] (.ref (a + 7) :: r) (am_toH σ) 0 0 Q = AW sv 9 51 [v0, v1, v2] (.ref (a + 10) :: r) (am_toH σ) 0 0 Q := e_getR am_h9 dX1_dismiss_48 fl_1_18 (is1 hr) rfl
theorem x9_51 : AW sv 9 51 [v0, v1, .int x] r h 0 0 Q = AW sv 9 52 [v0, v1, .int x] (.int x :: r) h 0 0 Q := e_pv am_h9 dX1_dismiss_51 rfl rfl rfl rfl
theorem x9_52 (hi : am_in x (am_ln a) = true) : AW sv 9 52 [v0, v1, v2] (.int x :: .ref a :: r) (am_toH σ) 0 0 Q = AW sv 9 53 [v0, v1, v2] (.int (σ.1 a x.toNatClampNeg) :: r) (am_toH σ) 0 0 Q := e_iald am_h9 dX1_dismiss_52 hi
theorem x9_53 (hi : am_in y (am_ln a) = true) : AW sv 9 53 [v0, v1, v2] (.int x :: .int y :: .ref a :: r) (am_toH σ) 0 0 Q = AW sv 9 54 [v0, v1, v2] r (am_toH (am_wr σ a (upd (σ.1 a) y.toNatClampNeg x))) 0 0 Q := e_iast am_h9 dX1_dismiss_53 hi
theorem x9_54 (hc : v1.category = 1) : AW sv 9 54 [v0, v1, .int x] r h 0 0 Q = AW sv 9 57 [v0, v1, .int (x + (1))] r h 0 0 Q := e_pv am_h9 dX1_dismiss_54 rfl rfl rfl (am_inc_of (ls := [v0, v1, .int x]) (k := 2) rfl c_iconst_1 (am_c1_of (ls := [v0, v1, .int x]) (k := 1) (v := v1) rfl hc))
theorem x9_57 : AW sv 9 57 [v0, v1, v2] r h 0 0 Q = AW sv 9 4 [v0, v1, v2] r h 0 0 Q := e_goto am_h9 dX1_dismiss_57 rfl
theorem x9_60 : AW sv 9 60 [.ref a, v1, v2] r h 0 0 Q = AW sv 9 61 [.ref a, v1, v2] (.ref a :: r) h 0 0 Q := e_pv am_h9 dX1_dismiss_60 rfl rfl rfl rfl
theorem x9_61 (hc : v.category = 1) : AW sv 9 61 [v0, v1, v2] (v :: r) h 0 0 Q = AW sv 9 62 [v0, v1, v2] (v :: v :: r) h 0 0 Q := e_dup am_h9 dX1_dismiss_61 hc
theorem x9_62 (hr : am_St a) : AW sv 9 62 [v0, v1, v2] (.ref (a + 7) :: r) (am_toH σ) 0 0 Q = AW sv 9 65 [v0, v1, v2] (.int (σ.1 (a + 7) 3) :: r) (am_toH σ) 0 0 Q := e_getI am_h9 dX1_dismiss_62 fl_1_27 (is1 hr) rfl
theorem x9_65 : AW sv 9 65 [v0, v1, v2] r h 0 0 Q = AW sv 9 66 [v0, v1, v2] (.int (1) :: r) h 0 0 Q := e_iconstv am_h9 dX1_dismiss_65 c_iconst_1
theorem x9_66 : AW sv 9 66 [v0, v1, v2] (.int y :: .int x :: r) h 0 0 Q = AW sv 9 67 [v0, v1, v2] (.int (x - y) :: r) h 0 0 Q := e_isub am_h9 dX1_dismiss_66
theorem x9_67 (hr : am_St a) : AW sv 9 67 [v0, v1, v2] (.int x :: .ref (a + 7) :: r) (am_toH σ) 0 0 Q = AW sv 9 70 [v0, v1, v2] r (am_toH (am_wr σ (a + 7) (upd (σ.1 (a + 7)) 3 x))) 0 0 Q := e_putI am_h9 dX1_dismiss_67 fl_1_27 (is1 hr) rfl rfl rfl
theorem x9_70 : AW sv 9 70 [v0, v1, v2] [] h 0 0 Q = Q none h := e_vret am_h9 dX1_dismiss_70 rfl ⟨rfl, rfl⟩
theorem n9 : AM sv 9 [.ref a, .int x0] h Q = AW sv 9 0 [.ref a, .int x0, .null] [] h 0 0 Q := rfl
theorem x10_0 : AW sv 10 0 [v0, v1] r h 0 0 Q = AW sv 10 1 [v0, v1] (.int (0) :: r) h 0 0 Q := e_iconstv am_h10 dX1_warnPlainOnes_0 c_iconst_0
theorem x10_1 (hc : v0.category = 1) : AW sv 10 1 [v0, v1] (.int x :: r) h 0 0 Q = AW sv 10 2 [v0, .int x] r h 0 0 Q := e_pv am_h10 dX1_warnPlainOnes_1 rfl rfl rfl (am_sti_of (Nat.le_of_ble_eq_true rfl) (am_c1_of rfl hc))
theorem x10_2 : AW sv 10 2 [v0, .int x] r h 0 0 Q = AW sv 10 3 [v0, .int x] (.int x :: r) h 0 0 Q := e_pv am_h10 dX1_warnPlainOnes_2 rfl rfl rfl rfl
theorem x10_3 : AW sv 10 3 [.ref a, v1] r h 0 0 Q = AW sv 10 4 [.ref a, v1] (.ref a :: r) h 0 0 Q := e_pv am_h10 dX1_warnPlainOnes_3 rfl rfl rfl rfl
theorem x10_4 (hr : am_St a) : AW sv 10 4 [v0, v1] (.ref (a + 7) :: r) (am_toH σ) 0 0 Q = AW sv 10 7 [v0, v1] (.int (σ.1 (a + 7) 3) :: r) (am_toH σ) 0 0 Q := e_getI am_h10 dX1_warnPlainOnes_4 fl_1_27 (is1 hr) rfl
theorem x10_7 : AW sv 10 7 [v0, v1] (.int y :: .int x :: r) h 0 0 Q = if y ≤ x then AW sv 10 39 [v0, v1] r h 0 0 Q else AW sv 10 10 [v0, v1] r h 0 0 Q := e_c_ge am_h10 dX1_warnPlainOnes_7 rfl
theorem x10_10 : AW sv 10 10 [.ref a, v1] r h 0 0 Q = AW sv 10 11 [.ref a, v1] (.ref a :: r) h 0 0 Q := e_pv am_h10 dX1_warnPlainOnes_10 rfl rfl rfl rfl
theorem x10_11 (hr : am_St a) : AW sv 10 11 [v0, v1] (.ref (a + 7) :: r) (am_toH σ) 0 0 Q = AW sv 10 14 [v0, v1] (.ref (a + 9) :: r) (am_toH σ) 0 0 Q := e_getR am_h10 dX1_warnPlainOnes_11 fl_1_15 (is1 hr) rfl
theorem x10_14 : AW sv 10 14 [v0, .int x] r h 0 0 Q = AW sv 10 15 [v0, .int x] (.int x :: r) h 0 0 Q := e_pv am_h10 dX1_warnPlainOnes_14 rfl rfl rfl rfl
theorem x10_15 (hi : am_in x (am_ln a) = true) : AW sv 10 15 [v0, v1] (.int x :: .ref a :: r) (am_toH σ) 0 0 Q = AW sv 10 16 [v0, v1] (.int (σ.1 a x.toNatClampNeg) :: r) (am_toH σ) 0 0 Q := e_iald am_h10 dX1_warnPlainOnes_15 hi
theorem x10_16 : AW sv 10 16 [v0, v1] (.int x :: r) h 0 0 Q = if ¬ x = 0 then AW sv 10 33 [v0, v1] r h 0 0 Q else AW sv 10 19 [v0, v1] r h 0 0 Q := e_z_ne am_h10 dX1_warnPlainOnes_16 rfl
theorem x10_19 : AW sv 10 19 [.ref a, v1] r h 0 0 Q = AW sv 10 20 [.ref a, v1] (.ref a :: r) h 0 0 Q := e_pv am_h10 dX1_warnPlainOnes_19 rfl rfl rfl rfl
theorem x10_20 (hr : am_St a) : AW sv 10 20 [v0, v1] (.ref (a + 7) :: r) (am_toH σ) 0 0 Q = AW sv 10 23 [v0, v1] (.ref (a + 9) :: r) (am_toH σ) 0 0 Q := e_getR am_h10 dX1_warnPlainOnes_20 fl_1_15 (is1 hr) rfl
theorem x10_23 : AW sv 10 23 [v0, .int x] r h 0 0 Q = AW sv 10 24 [v0, .int x] (.int x :: r) h 0 0 Q := e_pv am_h10 dX1_warnPlainOnes_23 rfl rfl rfl rfl
theorem x10_24 : AW sv 10 24 [v0, v1] r h 0 0 Q = AW sv 10 25 [v0, v1] (.int (1) :: r) h 0 0 Q := e_iconstv am_h10 dX1_warnPlainOnes_24 c_iconst_1
theorem x10_25 (hi : am_in y (am_ln a) = true) : AW sv 10 25 [v0, v1] (.int x :: .int y :: .ref a :: r) (am_toH σ) 0 0 Q = AW sv 10 26 [v0, v1] r (am_toH (am_wr σ a (upd (σ.1 a) y.toNatClampNeg x))) 0 0 Q := e_iast am_h10 dX1_warnPlainOnes_25 hi
theorem x10_26 : AW sv 10 26 [.ref a, v1] r h 0 0 Q = AW sv 10 27 [.ref a, v1] (.ref a :: r) h 0 0 Q := e_pv am_h10 dX1_warnPlainOnes_26 rfl rfl rfl rfl
theorem x10_27 (hr : am_St a) : AW sv 10 27 [v0, v1] (.ref (a + 7) :: r) (am_toH σ) 0 0 Q = AW sv 10 30 [v0, v1] (.ref (a + 10) :: r) (am_toH σ) 0 0 Q := e_getR am_h10 dX1_warnPlainOnes_27 fl_1_18 (is1 hr) rfl
theorem x10_30 : AW sv 10 30 [v0, .int x] r h 0 0 Q = AW sv 10 31 [v0, .int x] (.int x :: r) h 0 0 Q := e_pv am_h10 dX1_warnPlainOnes_30 rfl rfl rfl rfl
theorem x10_31 : AW sv 10 31 [v0, v1] r h 0 0 Q = AW sv 10 32 [v0, v1] (.int (3) :: r) h 0 0 Q := e_iconstv am_h10 dX1_warnPlainOnes_31 c_iconst_3
theorem x10_32 (hi : am_in y (am_ln a) = true) : AW sv 10 32 [v0, v1] (.int x :: .int y :: .ref a :: r) (am_toH σ) 0 0 Q = AW sv 10 33 [v0, v1] r (am_toH (am_wr σ a (upd (σ.1 a) y.toNatClampNeg x))) 0 0 Q := e_iast am_h10 dX1_warnPlainOnes_32 hi
theorem x10_33 (hc : v0.category = 1) : AW sv 10 33 [v0, .int x] r h 0 0 Q = AW sv 10 36 [v0, .int (x + (1))] r h 0 0 Q := e_pv am_h10 dX1_warnPlainOnes_33 rfl rfl rfl (am_inc_of (ls := [v0, .int x]) (k := 1) rfl c_iconst_1 (am_c1_of (ls := [v0, .int x]) (k := 0) (v := v0) rfl hc))
theorem x10_36 : AW sv 10 36 [v0, v1] r h 0 0 Q = AW sv 10 2 [v0, v1] r h 0 0 Q := e_goto am_h10 dX1_warnPlainOnes_36 rfl
theorem x10_39 : AW sv 10 39 [v0, v1] [] h 0 0 Q = Q none h := e_vret am_h10 dX1_warnPlainOnes_39 rfl ⟨rfl, rfl⟩
theorem n10 : AM sv 10 [.ref a] h Q = AW sv 10 0 [.ref a, .null] [] h 0 0 Q := rfl
theorem x12_0 : AW sv 12 0 [v0, .ref a] r h 0 0 Q = AW sv 12 1 [v0, .ref a] (.ref a :: r) h 0 0 Q := e_pv am_h12 dX2_become_0 rfl rfl rfl rfl
theorem x12_1 (hr : am_St a) : AW sv 12 1 [v0, v1] (.ref (a + 16) :: r) (am_toH σ) 0 0 Q = AW sv 12 4 [v0, v1] (.ref (a + 17) :: r) (am_toH σ) 0 0 Q := e_getR am_h12 dX2_become_1 fl_2_9 (is2 hr) rfl
theorem x12_4 : AW sv 12 4 [v0, v1] r h 0 0 Q = AW sv 12 5 [v0, v1] (.int (0) :: r) h 0 0 Q := e_iconstv am_h12 dX2_become_4 c_iconst_0
theorem x12_5 : AW sv 12 5 [.ref a, v1] r h 0 0 Q = AW sv 12 6 [.ref a, v1] (.ref a :: r) h 0 0 Q := e_pv am_h12 dX2_become_5 rfl rfl rfl rfl
theorem x12_6 (hr : am_St a) : AW sv 12 6 [v0, v1] (.ref (a + 16) :: r) (am_toH σ) 0 0 Q = AW sv 12 9 [v0, v1] (.ref (a + 17) :: r) (am_toH σ) 0 0 Q := e_getR am_h12 dX2_become_6 fl_2_9 (is2 hr) rfl
theorem x12_9 : AW sv 12 9 [v0, v1] r h 0 0 Q = AW sv 12 10 [v0, v1] (.int (0) :: r) h 0 0 Q := e_iconstv am_h12 dX2_become_9 c_iconst_0
theorem x12_10 : AW sv 12 10 [v0, v1] r h 0 0 Q = AW sv 12 12 [v0, v1] (.int (24) :: r) h 0 0 Q := e_bipushv am_h12 dX2_become_10 c_bipush_24
theorem x12_12 (h8 : am_cs r ≤ 8) (ha : 0 < am_ln a) (hb : 0 < am_ln b) (hc : (0 ≤ x.toInt ∧ 0 ≤ y.toInt ∧ 0 ≤ n.toInt) ∧ x.toNatClampNeg + n.toNatClampNeg ≤ am_ln a ∧ y.toNatClampNeg + n.toNatClampNeg ≤ am_ln b) : AW sv 12 12 [v0, v1] (.int n :: .int y :: .ref b :: .int x :: .ref a :: r) (am_toH σ) 0 0 Q = AW sv 12 15 [v0, v1] r (am_toH (am_wr σ b (va_cpy (σ.1 a) (σ.1 b) x.toNatClampNeg y.toNatClampNeg n.toNatClampNeg))) 0 0 Q := e_cpy am_h12 dX2_become_12 ml_2_18 (am_rj18 (by decide) h8) ha hb hc
theorem x12_15 : AW sv 12 15 [v0, .ref a] r h 0 0 Q = AW sv 12 16 [v0, .ref a] (.ref a :: r) h 0 0 Q := e_pv am_h12 dX2_become_15 rfl rfl rfl rfl
theorem x12_16 (hr : am_St a) : AW sv 12 16 [v0, v1] (.ref (a + 16) :: r) (am_toH σ) 0 0 Q = AW sv 12 19 [v0, v1] (.ref (a + 18) :: r) (am_toH σ) 0 0 Q := e_getR am_h12 dX2_become_16 fl_2_15 (is2 hr) rfl
theorem x12_19 : AW sv 12 19 [v0, v1] r h 0 0 Q = AW sv 12 20 [v0, v1] (.int (0) :: r) h 0 0 Q := e_iconstv am_h12 dX2_become_19 c_iconst_0
theorem x12_20 : AW sv 12 20 [.ref a, v1] r h 0 0 Q = AW sv 12 21 [.ref a, v1] (.ref a :: r) h 0 0 Q := e_pv am_h12 dX2_become_20 rfl rfl rfl rfl
theorem x12_21 (hr : am_St a) : AW sv 12 21 [v0, v1] (.ref (a + 16) :: r) (am_toH σ) 0 0 Q = AW sv 12 24 [v0, v1] (.ref (a + 18) :: r) (am_toH σ) 0 0 Q := e_getR am_h12 dX2_become_21 fl_2_15 (is2 hr) rfl
theorem x12_24 : AW sv 12 24 [v0, v1] r h 0 0 Q = AW sv 12 25 [v0, v1] (.int (0) :: r) h 0 0 Q := e_iconstv am_h12 dX2_become_24 c_iconst_0
theorem x12_25 : AW sv 12 25 [v0, v1] r h 0 0 Q = AW sv 12 27 [v0, v1] (.int (24) :: r) h 0 0 Q := e_bipushv am_h12 dX2_become_25 c_bipush_24
theorem x12_27 (h8 : am_cs r ≤ 8) (ha : 0 < am_ln a) (hb : 0 < am_ln b) (hc : (0 ≤ x.toInt ∧ 0 ≤ y.toInt ∧ 0 ≤ n.toInt) ∧ x.toNatClampNeg + n.toNatClampNeg ≤ am_ln a ∧ y.toNatClampNeg + n.toNatClampNeg ≤ am_ln b) : AW sv 12 27 [v0, v1] (.int n :: .int y :: .ref b :: .int x :: .ref a :: r) (am_toH σ) 0 0 Q = AW sv 12 30 [v0, v1] r (am_toH (am_wr σ b (va_cpy (σ.1 a) (σ.1 b) x.toNatClampNeg y.toNatClampNeg n.toNatClampNeg))) 0 0 Q := e_cpy am_h12 dX2_become_27 ml_2_18 (am_rj18 (by decide) h8) ha hb hc
theorem x12_30 : AW sv 12 30 [.ref a, v1] r h 0 0 Q = AW sv 12 31 [.ref a, v1] (.ref a :: r) h 0 0 Q := e_pv am_h12 dX2_become_30 rfl rfl rfl rfl
theorem x12_31 : AW sv 12 31 [v0, .ref a] r h 0 0 Q = AW sv 12 32 [v0, .ref a] (.ref a :: r) h 0 0 Q := e_pv am_h12 dX2_become_31 rfl rfl rfl rfl
theorem x12_32 (hr : am_St a) : AW sv 12 32 [v0, v1] (.ref (a + 16) :: r) (am_toH σ) 0 0 Q = AW sv 12 35 [v0, v1] (.int (σ.1 (a + 16) 2) :: r) (am_toH σ) 0 0 Q := e_getI am_h12 dX2_become_32 fl_2_24 (is2 hr) rfl
theorem x12_35 (hr : am_St a) : AW sv 12 35 [v0, v1] (.int x :: .ref (a + 16) :: r) (am_toH σ) 0 0 Q = AW sv 12 38 [v0, v1] r (am_toH (am_wr σ (a + 16) (upd (σ.1 (a + 16)) 2 x))) 0 0 Q := e_putI am_h12 dX2_become_35 fl_2_24 (is2 hr) rfl rfl rfl
theorem x12_38 : AW sv 12 38 [v0, v1] [] h 0 0 Q = Q none h := e_vret am_h12 dX2_become_38 rfl ⟨rfl, rfl⟩
theorem n12 : AM sv 12 [.ref a, .ref b0] h Q = AW sv 12 0 [.ref a, .ref b0] [] h 0 0 Q := rfl
theorem x13_0 : AW sv 13 0 [.ref a, v1, v2] r h 0 0 Q = AW sv 13 1 [.ref a, v1, v2] (.ref a :: r) h 0 0 Q := e_pv am_h13 dX2_add_0 rfl rfl rfl rfl
theorem x13_1 (hr : am_St a) : AW sv 13 1 [v0, v1, v2] (.ref (a + 16) :: r) (am_toH σ) 0 0 Q = AW sv 13 4 [v0, v1, v2] (.int (σ.1 (a + 16) 2) :: r) (am_toH σ) 0 0 Q := e_getI am_h13 dX2_add_1 fl_2_24 (is2 hr) rfl
theorem x13_4 : AW sv 13 4 [v0, v1, v2] r h 0 0 Q = AW sv 13 6 [v0, v1, v2] (.int (24) :: r) h 0 0 Q := e_bipushv am_h13 dX2_add_4 c_bipush_24
theorem x13_6 : AW sv 13 6 [v0, v1, v2] (.int y :: .int x :: r) h 0 0 Q = if y ≤ x then AW sv 13 39 [v0, v1, v2] r h 0 0 Q else AW sv 13 9 [v0, v1, v2] r h 0 0 Q := e_c_ge am_h13 dX2_add_6 rfl
theorem x13_9 : AW sv 13 9 [.ref a, v1, v2] r h 0 0 Q = AW sv 13 10 [.ref a, v1, v2] (.ref a :: r) h 0 0 Q := e_pv am_h13 dX2_add_9 rfl rfl rfl rfl
theorem x13_10 (hr : am_St a) : AW sv 13 10 [v0, v1, v2] (.ref (a + 16) :: r) (am_toH σ) 0 0 Q = AW sv 13 13 [v0, v1, v2] (.ref (a + 17) :: r) (am_toH σ) 0 0 Q := e_getR am_h13 dX2_add_10 fl_2_9 (is2 hr) rfl
theorem x13_13 : AW sv 13 13 [.ref a, v1, v2] r h 0 0 Q = AW sv 13 14 [.ref a, v1, v2] (.ref a :: r) h 0 0 Q := e_pv am_h13 dX2_add_13 rfl rfl rfl rfl
theorem x13_14 (hr : am_St a) : AW sv 13 14 [v0, v1, v2] (.ref (a + 16) :: r) (am_toH σ) 0 0 Q = AW sv 13 17 [v0, v1, v2] (.int (σ.1 (a + 16) 2) :: r) (am_toH σ) 0 0 Q := e_getI am_h13 dX2_add_14 fl_2_24 (is2 hr) rfl
theorem x13_17 : AW sv 13 17 [v0, .int x, v2] r h 0 0 Q = AW sv 13 18 [v0, .int x, v2] (.int x :: r) h 0 0 Q := e_pv am_h13 dX2_add_17 rfl rfl rfl rfl
theorem x13_18 (hi : am_in y (am_ln a) = true) : AW sv 13 18 [v0, v1, v2] (.int x :: .int y :: .ref a :: r) (am_toH σ) 0 0 Q = AW sv 13 19 [v0, v1, v2] r (am_toH (am_wr σ a (upd (σ.1 a) y.toNatClampNeg x))) 0 0 Q := e_iast am_h13 dX2_add_18 hi
theorem x13_19 : AW sv 13 19 [.ref a, v1, v2] r h 0 0 Q = AW sv 13 20 [.ref a, v1, v2] (.ref a :: r) h 0 0 Q := e_pv am_h13 dX2_add_19 rfl rfl rfl rfl
theorem x13_20 (hr : am_St a) : AW sv 13 20 [v0, v1, v2] (.ref (a + 16) :: r) (am_toH σ) 0 0 Q = AW sv 13 23 [v0, v1, v2] (.ref (a + 18) :: r) (am_toH σ) 0 0 Q := e_getR am_h13 dX2_add_20 fl_2_15 (is2 hr) rfl
theorem x13_23 : AW sv 13 23 [.ref a, v1, v2] r h 0 0 Q = AW sv 13 24 [.ref a, v1, v2] (.ref a :: r) h 0 0 Q := e_pv am_h13 dX2_add_23 rfl rfl rfl rfl
theorem x13_24 (hr : am_St a) : AW sv 13 24 [v0, v1, v2] (.ref (a + 16) :: r) (am_toH σ) 0 0 Q = AW sv 13 27 [v0, v1, v2] (.int (σ.1 (a + 16) 2) :: r) (am_toH σ) 0 0 Q := e_getI am_h13 dX2_add_24 fl_2_24 (is2 hr) rfl
theorem x13_27 : AW sv 13 27 [v0, v1, .int x] r h 0 0 Q = AW sv 13 28 [v0, v1, .int x] (.int x :: r) h 0 0 Q := e_pv am_h13 dX2_add_27 rfl rfl rfl rfl
theorem x13_28 (hi : am_in y (am_ln a) = true) : AW sv 13 28 [v0, v1, v2] (.int x :: .int y :: .ref a :: r) (am_toH σ) 0 0 Q = AW sv 13 29 [v0, v1, v2] r (am_toH (am_wr σ a (upd (σ.1 a) y.toNatClampNeg x))) 0 0 Q := e_iast am_h13 dX2_add_28 hi
theorem x13_29 : AW sv 13 29 [.ref a, v1, v2] r h 0 0 Q = AW sv 13 30 [.ref a, v1, v2] (.ref a :: r) h 0 0 Q := e_pv am_h13 dX2_add_29 rfl rfl rfl rfl
theorem x13_30 (hc : v.category = 1) : AW sv 13 30 [v0, v1, v2] (v :: r) h 0 0 Q = AW sv 13 31 [v0, v1, v2] (v :: v :: r) h 0 0 Q := e_dup am_h13 dX2_add_30 hc
theorem x13_31 (hr : am_St a) : AW sv 13 31 [v0, v1, v2] (.ref (a + 16) :: r) (am_toH σ) 0 0 Q = AW sv 13 34 [v0, v1, v2] (.int (σ.1 (a + 16) 2) :: r) (am_toH σ) 0 0 Q := e_getI am_h13 dX2_add_31 fl_2_24 (is2 hr) rfl
theorem x13_34 : AW sv 13 34 [v0, v1, v2] r h 0 0 Q = AW sv 13 35 [v0, v1, v2] (.int (1) :: r) h 0 0 Q := e_iconstv am_h13 dX2_add_34 c_iconst_1
theorem x13_35 : AW sv 13 35 [v0, v1, v2] (.int y :: .int x :: r) h 0 0 Q = AW sv 13 36 [v0, v1, v2] (.int (x + y) :: r) h 0 0 Q := e_iadd am_h13 dX2_add_35
theorem x13_36 (hr : am_St a) : AW sv 13 36 [v0, v1, v2] (.int x :: .ref (a + 16) :: r) (am_toH σ) 0 0 Q = AW sv 13 39 [v0, v1, v2] r (am_toH (am_wr σ (a + 16) (upd (σ.1 (a + 16)) 2 x))) 0 0 Q := e_putI am_h13 dX2_add_36 fl_2_24 (is2 hr) rfl rfl rfl
theorem x13_39 : AW sv 13 39 [v0, v1, v2] [] h 0 0 Q = Q none h := e_vret am_h13 dX2_add_39 rfl ⟨rfl, rfl⟩
theorem n13 : AM sv 13 [.ref a, .int x0, .int x1] h Q = AW sv 13 0 [.ref a, .int x0, .int x1] [] h 0 0 Q := rfl
theorem x15_0 : AW sv 15 0 [v0, .ref a] r h 0 0 Q = AW sv 15 1 [v0, .ref a] (.ref a :: r) h 0 0 Q := e_pv am_h15 dX3_become_0 rfl rfl rfl rfl
theorem x15_1 (hr : am_St a) : AW sv 15 1 [v0, v1] (.ref (a + 1) :: r) (am_toH σ) 0 0 Q = AW sv 15 4 [v0, v1] (.ref (a + 2) :: r) (am_toH σ) 0 0 Q := e_getR am_h15 dX3_become_1 fl_3_9 (is3 hr) rfl
theorem x15_4 : AW sv 15 4 [v0, v1] r h 0 0 Q = AW sv 15 5 [v0, v1] (.int (0) :: r) h 0 0 Q := e_iconstv am_h15 dX3_become_4 c_iconst_0
theorem x15_5 : AW sv 15 5 [.ref a, v1] r h 0 0 Q = AW sv 15 6 [.ref a, v1] (.ref a :: r) h 0 0 Q := e_pv am_h15 dX3_become_5 rfl rfl rfl rfl
theorem x15_6 (hr : am_St a) : AW sv 15 6 [v0, v1] (.ref (a + 1) :: r) (am_toH σ) 0 0 Q = AW sv 15 9 [v0, v1] (.ref (a + 2) :: r) (am_toH σ) 0 0 Q := e_getR am_h15 dX3_become_6 fl_3_9 (is3 hr) rfl
theorem x15_9 : AW sv 15 9 [v0, v1] r h 0 0 Q = AW sv 15 10 [v0, v1] (.int (0) :: r) h 0 0 Q := e_iconstv am_h15 dX3_become_9 c_iconst_0
theorem x15_10 : AW sv 15 10 [v0, v1] r h 0 0 Q = AW sv 15 12 [v0, v1] (.int (16) :: r) h 0 0 Q := e_bipushv am_h15 dX3_become_10 c_bipush_16
theorem x15_12 (h8 : am_cs r ≤ 8) (ha : 0 < am_ln a) (hb : 0 < am_ln b) (hc : (0 ≤ x.toInt ∧ 0 ≤ y.toInt ∧ 0 ≤ n.toInt) ∧ x.toNatClampNeg + n.toNatClampNeg ≤ am_ln a ∧ y.toNatClampNeg + n.toNatClampNeg ≤ am_ln b) : AW sv 15 12 [v0, v1] (.int n :: .int y :: .ref b :: .int x :: .ref a :: r) (am_toH σ) 0 0 Q = AW sv 15 15 [v0, v1] r (am_toH (am_wr σ b (va_cpy (σ.1 a) (σ.1 b) x.toNatClampNeg y.toNatClampNeg n.toNatClampNeg))) 0 0 Q := e_cpy am_h15 dX3_become_12 ml_3_27 (am_rj18 (by decide) h8) ha hb hc
theorem x15_15 : AW sv 15 15 [v0, .ref a] r h 0 0 Q = AW sv 15 16 [v0, .ref a] (.ref a :: r) h 0 0 Q := e_pv am_h15 dX3_become_15 rfl rfl rfl rfl
theorem x15_16 (hr : am_St a) : AW sv 15 16 [v0, v1] (.ref (a + 1) :: r) (am_toH σ) 0 0 Q = AW sv 15 19 [v0, v1] (.ref (a + 3) :: r) (am_toH σ) 0 0 Q := e_getR am_h15 dX3_become_16 fl_3_15 (is3 hr) rfl
theorem x15_19 : AW sv 15 19 [v0, v1] r h 0 0 Q = AW sv 15 20 [v0, v1] (.int (0) :: r) h 0 0 Q := e_iconstv am_h15 dX3_become_19 c_iconst_0
theorem x15_20 : AW sv 15 20 [.ref a, v1] r h 0 0 Q = AW sv 15 21 [.ref a, v1] (.ref a :: r) h 0 0 Q := e_pv am_h15 dX3_become_20 rfl rfl rfl rfl
theorem x15_21 (hr : am_St a) : AW sv 15 21 [v0, v1] (.ref (a + 1) :: r) (am_toH σ) 0 0 Q = AW sv 15 24 [v0, v1] (.ref (a + 3) :: r) (am_toH σ) 0 0 Q := e_getR am_h15 dX3_become_21 fl_3_15 (is3 hr) rfl
theorem x15_24 : AW sv 15 24 [v0, v1] r h 0 0 Q = AW sv 15 25 [v0, v1] (.int (0) :: r) h 0 0 Q := e_iconstv am_h15 dX3_become_24 c_iconst_0
theorem x15_25 : AW sv 15 25 [v0, v1] r h 0 0 Q = AW sv 15 27 [v0, v1] (.int (16) :: r) h 0 0 Q := e_bipushv am_h15 dX3_become_25 c_bipush_16
theorem x15_27 (h8 : am_cs r ≤ 8) (ha : 0 < am_ln a) (hb : 0 < am_ln b) (hc : (0 ≤ x.toInt ∧ 0 ≤ y.toInt ∧ 0 ≤ n.toInt) ∧ x.toNatClampNeg + n.toNatClampNeg ≤ am_ln a ∧ y.toNatClampNeg + n.toNatClampNeg ≤ am_ln b) : AW sv 15 27 [v0, v1] (.int n :: .int y :: .ref b :: .int x :: .ref a :: r) (am_toH σ) 0 0 Q = AW sv 15 30 [v0, v1] r (am_toH (am_wr σ b (va_cpy (σ.1 a) (σ.1 b) x.toNatClampNeg y.toNatClampNeg n.toNatClampNeg))) 0 0 Q := e_cpy am_h15 dX3_become_27 ml_3_27 (am_rj18 (by decide) h8) ha hb hc
theorem x15_30 : AW sv 15 30 [v0, .ref a] r h 0 0 Q = AW sv 15 31 [v0, .ref a] (.ref a :: r) h 0 0 Q := e_pv am_h15 dX3_become_30 rfl rfl rfl rfl
theorem x15_31 (hr : am_St a) : AW sv 15 31 [v0, v1] (.ref (a + 1) :: r) (am_toH σ) 0 0 Q = AW sv 15 34 [v0, v1] (.ref (a + 4) :: r) (am_toH σ) 0 0 Q := e_getR am_h15 dX3_become_31 fl_3_18 (is3 hr) rfl
theorem x15_34 : AW sv 15 34 [v0, v1] r h 0 0 Q = AW sv 15 35 [v0, v1] (.int (0) :: r) h 0 0 Q := e_iconstv am_h15 dX3_become_34 c_iconst_0
theorem x15_35 : AW sv 15 35 [.ref a, v1] r h 0 0 Q = AW sv 15 36 [.ref a, v1] (.ref a :: r) h 0 0 Q := e_pv am_h15 dX3_become_35 rfl rfl rfl rfl
theorem x15_36 (hr : am_St a) : AW sv 15 36 [v0, v1] (.ref (a + 1) :: r) (am_toH σ) 0 0 Q = AW sv 15 39 [v0, v1] (.ref (a + 4) :: r) (am_toH σ) 0 0 Q := e_getR am_h15 dX3_become_36 fl_3_18 (is3 hr) rfl
theorem x15_39 : AW sv 15 39 [v0, v1] r h 0 0 Q = AW sv 15 40 [v0, v1] (.int (0) :: r) h 0 0 Q := e_iconstv am_h15 dX3_become_39 c_iconst_0
theorem x15_40 : AW sv 15 40 [v0, v1] r h 0 0 Q = AW sv 15 42 [v0, v1] (.int (16) :: r) h 0 0 Q := e_bipushv am_h15 dX3_become_40 c_bipush_16
theorem x15_42 (h8 : am_cs r ≤ 8) (ha : 0 < am_ln a) (hb : 0 < am_ln b) (hc : (0 ≤ x.toInt ∧ 0 ≤ y.toInt ∧ 0 ≤ n.toInt) ∧ x.toNatClampNeg + n.toNatClampNeg ≤ am_ln a ∧ y.toNatClampNeg + n.toNatClampNeg ≤ am_ln b) : AW sv 15 42 [v0, v1] (.int n :: .int y :: .ref b :: .int x :: .ref a :: r) (am_toH σ) 0 0 Q = AW sv 15 45 [v0, v1] r (am_toH (am_wr σ b (va_cpy (σ.1 a) (σ.1 b) x.toNatClampNeg y.toNatClampNeg n.toNatClampNeg))) 0 0 Q := e_cpy am_h15 dX3_become_42 ml_3_27 (am_rj18 (by decide) h8) ha hb hc
theorem x15_45 : AW sv 15 45 [v0, .ref a] r h 0 0 Q = AW sv 15 46 [v0, .ref a] (.ref a :: r) h 0 0 Q := e_pv am_h15 dX3_become_45 rfl rfl rfl rfl
theorem x15_46 (hr : am_St a) : AW sv 15 46 [v0, v1] (.ref (a + 1) :: r) (am_toH σ) 0 0 Q = AW sv 15 49 [v0, v1] (.ref (a + 5) :: r) (am_toH σ) 0 0 Q := e_getR am_h15 dX3_become_46 fl_3_21 (is3 hr) rfl
theorem x15_49 : AW sv 15 49 [v0, v1] r h 0 0 Q = AW sv 15 50 [v0, v1] (.int (0) :: r) h 0 0 Q := e_iconstv am_h15 dX3_become_49 c_iconst_0
theorem x15_50 : AW sv 15 50 [.ref a, v1] r h 0 0 Q = AW sv 15 51 [.ref a, v1] (.ref a :: r) h 0 0 Q := e_pv am_h15 dX3_become_50 rfl rfl rfl rfl
theorem x15_51 (hr : am_St a) : AW sv 15 51 [v0, v1] (.ref (a + 1) :: r) (am_toH σ) 0 0 Q = AW sv 15 54 [v0, v1] (.ref (a + 5) :: r) (am_toH σ) 0 0 Q := e_getR am_h15 dX3_become_51 fl_3_21 (is3 hr) rfl
theorem x15_54 : AW sv 15 54 [v0, v1] r h 0 0 Q = AW sv 15 55 [v0, v1] (.int (0) :: r) h 0 0 Q := e_iconstv am_h15 dX3_become_54 c_iconst_0
theorem x15_55 : AW sv 15 55 [v0, v1] r h 0 0 Q = AW sv 15 57 [v0, v1] (.int (16) :: r) h 0 0 Q := e_bipushv am_h15 dX3_become_55 c_bipush_16
theorem x15_57 (h8 : am_cs r ≤ 8) (ha : 0 < am_ln a) (hb : 0 < am_ln b) (hc : (0 ≤ x.toInt ∧ 0 ≤ y.toInt ∧ 0 ≤ n.toInt) ∧ x.toNatClampNeg + n.toNatClampNeg ≤ am_ln a ∧ y.toNatClampNeg + n.toNatClampNeg ≤ am_ln b) : AW sv 15 57 [v0, v1] (.int n :: .int y :: .ref b :: .int x :: .ref a :: r) (am_toH σ) 0 0 Q = AW sv 15 60 [v0, v1] r (am_toH (am_wr σ b (va_cpy (σ.1 a) (σ.1 b) x.toNatClampNeg y.toNatClampNeg n.toNatClampNeg))) 0 0 Q := e_cpy am_h15 dX3_become_57 ml_3_27 (am_rj18 (by decide) h8) ha hb hc
theorem x15_60 : AW sv 15 60 [v0, .ref a] r h 0 0 Q = AW sv 15 61 [v0, .ref a] (.ref a :: r) h 0 0 Q := e_pv am_h15 dX3_become_60 rfl rfl rfl rfl
theorem x15_61 (hr : am_St a) : AW sv 15 61 [v0, v1] (.ref (a + 1) :: r) (am_toH σ) 0 0 Q = AW sv 15 64 [v0, v1] (.ref (a + 6) :: r) (am_toH σ) 0 0 Q := e_getR am_h15 dX3_become_61 fl_3_24 (is3 hr) rfl
theorem x15_64 : AW sv 15 64 [v0, v1] r h 0 0 Q = AW sv 15 65 [v0, v1] (.int (0) :: r) h 0 0 Q := e_iconstv am_h15 dX3_become_64 c_iconst_0
theorem x15_65 : AW sv 15 65 [.ref a, v1] r h 0 0 Q = AW sv 15 66 [.ref a, v1] (.ref a :: r) h 0 0 Q := e_pv am_h15 dX3_become_65 rfl rfl rfl rfl
theorem x15_66 (hr : am_St a) : AW sv 15 66 [v0, v1] (.ref (a + 1) :: r) (am_toH σ) 0 0 Q = AW sv 15 69 [v0, v1] (.ref (a + 6) :: r) (am_toH σ) 0 0 Q := e_getR am_h15 dX3_become_66 fl_3_24 (is3 hr) rfl
theorem x15_69 : AW sv 15 69 [v0, v1] r h 0 0 Q = AW sv 15 70 [v0, v1] (.int (0) :: r) h 0 0 Q := e_iconstv am_h15 dX3_become_69 c_iconst_0
theorem x15_70 : AW sv 15 70 [v0, v1] r h 0 0 Q = AW sv 15 72 [v0, v1] (.int (16) :: r) h 0 0 Q := e_bipushv am_h15 dX3_become_70 c_bipush_16
theorem x15_72 (h8 : am_cs r ≤ 8) (ha : 0 < am_ln a) (hb : 0 < am_ln b) (hc : (0 ≤ x.toInt ∧ 0 ≤ y.toInt ∧ 0 ≤ n.toInt) ∧ x.toNatClampNeg + n.toNatClampNeg ≤ am_ln a ∧ y.toNatClampNeg + n.toNatClampNeg ≤ am_ln b) : AW sv 15 72 [v0, v1] (.int n :: .int y :: .ref b :: .int x :: .ref a :: r) (am_toH σ) 0 0 Q = AW sv 15 75 [v0, v1] r (am_toH (am_wr σ b (va_cpy (σ.1 a) (σ.1 b) x.toNatClampNeg y.toNatClampNeg n.toNatClampNeg))) 0 0 Q := e_cpy am_h15 dX3_become_72 ml_3_27 (am_rj18 (by decide) h8) ha hb hc
theorem x15_75 : AW sv 15 75 [v0, v1] [] h 0 0 Q = Q none h := e_vret am_h15 dX3_become_75 rfl ⟨rfl, rfl⟩
theorem n15 : AM sv 15 [.ref a, .ref b0] h Q = AW sv 15 0 [.ref a, .ref b0] [] h 0 0 Q := rfl
theorem x16_0 : AW sv 16 0 [v0, v1, v2, v3, v4, v5] r h 0 0 Q = AW sv 16 2 [v0, v1, v2, v3, v4, v5] (.int (9) :: r) h 0 0 Q := e_bipushv am_h16 dX3_heedIn_0 c_bipush_9
theorem x16_2 (hc : v3.category = 1) : AW sv 16 2 [v0, v1, v2, v3, v4, v5] (.int x :: r) h 0 0 Q = AW sv 16 4 [v0, v1, v2, v3, .int x, v5] r h 0 0 Q := e_pv am_h16 dX3_heedIn_2 rfl rfl rfl (am_sti_of (Nat.le_of_ble_eq_true rfl) (am_c1_of rfl hc))
theorem x16_4 : AW sv 16 4 [v0, v1, v2, v3, v4, v5] r h 0 0 Q = AW sv 16 5 [v0, v1, v2, v3, v4, v5] (.int (0) :: r) h 0 0 Q := e_iconstv am_h16 dX3_heedIn_4 c_iconst_0
theorem x16_5 (hc : v4.category = 1) : AW sv 16 5 [v0, v1, v2, v3, v4, v5] (.int x :: r) h 0 0 Q = AW sv 16 7 [v0, v1, v2, v3, v4, .int x] r h 0 0 Q := e_pv am_h16 dX3_heedIn_5 rfl rfl rfl (am_sti_of (Nat.le_of_ble_eq_true rfl) (am_c1_of rfl hc))
theorem x16_7 : AW sv 16 7 [v0, v1, v2, v3, v4, .int x] r h 0 0 Q = AW sv 16 9 [v0, v1, v2, v3, v4, .int x] (.int x :: r) h 0 0 Q := e_pv am_h16 dX3_heedIn_7 rfl rfl rfl rfl
theorem x16_9 : AW sv 16 9 [v0, .int x, v2, v3, v4, v5] r h 0 0 Q = AW sv 16 10 [v0, .int x, v2, v3, v4, v5] (.int x :: r) h 0 0 Q := e_pv am_h16 dX3_heedIn_9 rfl rfl rfl rfl
theorem x16_10 : AW sv 16 10 [v0, v1, v2, v3, v4, v5] (.int y :: .int x :: r) h 0 0 Q = if y < x then AW sv 16 77 [v0, v1, v2, v3, v4, v5] r h 0 0 Q else AW sv 16 13 [v0, v1, v2, v3, v4, v5] r h 0 0 Q := e_c_gt am_h16 dX3_heedIn_10 rfl
theorem x16_13 : AW sv 16 13 [v0, v1, v2, v3, v4, .int x] r h 0 0 Q = AW sv 16 15 [v0, v1, v2, v3, v4, .int x] (.int x :: r) h 0 0 Q := e_pv am_h16 dX3_heedIn_13 rfl rfl rfl rfl
theorem x16_15 : AW sv 16 15 [v0, v1, v2, v3, v4, v5] r h 0 0 Q = AW sv 16 17 [v0, v1, v2, v3, v4, v5] (.int (16) :: r) h 0 0 Q := e_bipushv am_h16 dX3_heedIn_15 c_bipush_16
theorem x16_17 : AW sv 16 17 [v0, v1, v2, v3, v4, v5] (.int y :: .int x :: r) h 0 0 Q = if y ≤ x then AW sv 16 77 [v0, v1, v2, v3, v4, v5] r h 0 0 Q else AW sv 16 20 [v0, v1, v2, v3, v4, v5] r h 0 0 Q := e_c_ge am_h16 dX3_heedIn_17 rfl
theorem x16_20 : AW sv 16 20 [.ref a, v1, v2, v3, v4, v5] r h 0 0 Q = AW sv 16 21 [.ref a, v1, v2, v3, v4, v5] (.ref a :: r) h 0 0 Q := e_pv am_h16 dX3_heedIn_20 rfl rfl rfl rfl
theorem x16_21 (hr : am_St a) : AW sv 16 21 [v0, v1, v2, v3, v4, v5] (.ref (a + 1) :: r) (am_toH σ) 0 0 Q = AW sv 16 24 [v0, v1, v2, v3, v4, v5] (.ref (a + 6) :: r) (am_toH σ) 0 0 Q := e_getR am_h16 dX3_heedIn_21 fl_3_24 (is3 hr) rfl
theorem x16_24 : AW sv 16 24 [v0, v1, v2, v3, v4, .int x] r h 0 0 Q = AW sv 16 26 [v0, v1, v2, v3, v4, .int x] (.int x :: r) h 0 0 Q := e_pv am_h16 dX3_heedIn_24 rfl rfl rfl rfl
theorem x16_26 (hi : am_in x (am_ln a) = true) : AW sv 16 26 [v0, v1, v2, v3, v4, v5] (.int x :: .ref a :: r) (am_toH σ) 0 0 Q = AW sv 16 27 [v0, v1, v2, v3, v4, v5] (.int (σ.1 a x.toNatClampNeg) :: r) (am_toH σ) 0 0 Q := e_iald am_h16 dX3_heedIn_26 hi
theorem x16_27 : AW sv 16 27 [v0, v1, v2, v3, v4, v5] (.int x :: r) h 0 0 Q = if x = 0 then AW sv 16 36 [v0, v1, v2, v3, v4, v5] r h 0 0 Q else AW sv 16 30 [v0, v1, v2, v3, v4, v5] r h 0 0 Q := e_z_eq am_h16 dX3_heedIn_27 rfl
theorem x16_30 : AW sv 16 30 [v0, v1, v2, v3, v4, v5] r h 0 0 Q = AW sv 16 31 [v0, v1, v2, v3, v4, v5] (.int (0) :: r) h 0 0 Q := e_iconstv am_h16 dX3_heedIn_30 c_iconst_0
theorem x16_31 (hc : v3.category = 1) : AW sv 16 31 [v0, v1, v2, v3, v4, v5] (.int x :: r) h 0 0 Q = AW sv 16 33 [v0, v1, v2, v3, .int x, v5] r h 0 0 Q := e_pv am_h16 dX3_heedIn_31 rfl rfl rfl (am_sti_of (Nat.le_of_ble_eq_true rfl) (am_c1_of rfl hc))
theorem x16_33 : AW sv 16 33 [v0, v1, v2, v3, v4, v5] r h 0 0 Q = AW sv 16 71 [v0, v1, v2, v3, v4, v5] r h 0 0 Q := e_goto am_h16 dX3_heedIn_33 rfl
theorem x16_36 : AW sv 16 36 [v0, v1, v2, v3, v4, v5] r h 0 0 Q = AW sv 16 38 [v0, v1, v2, v3, v4, v5] (.int (9) :: r) h 0 0 Q := e_bipushv am_h16 dX3_heedIn_36 c_bipush_9
theorem x16_38 : AW sv 16 38 [v0, v1, v2, v3, .int x, v5] r h 0 0 Q = AW sv 16 40 [v0, v1, v2, v3, .int x, v5] (.int x :: r) h 0 0 Q := e_pv am_h16 dX3_heedIn_38 rfl rfl rfl rfl
theorem x16_40 : AW sv 16 40 [v0, v1, v2, .int x, v4, v5] r h 0 0 Q = AW sv 16 41 [v0, v1, v2, .int x, v4, v5] (.int x :: r) h 0 0 Q := e_pv am_h16 dX3_heedIn_40 rfl rfl rfl rfl
theorem x16_41 : AW sv 16 41 [v0, v1, v2, v3, v4, v5] (.int y :: .int x :: r) h 0 0 Q = AW sv 16 42 [v0, v1, v2, v3, v4, v5] (.int (x + y) :: r) h 0 0 Q := e_iadd am_h16 dX3_heedIn_41
theorem x16_42 (h8 : am_cs r ≤ 8) : AW sv 16 42 [v0, v1, v2, v3, v4, v5] (.int y :: .int x :: r) h 0 0 Q = AW sv 16 45 [v0, v1, v2, v3, v4, v5] (.int (if y < x then y else x) :: r) h 0 0 Q := e_mmin am_h16 dX3_heedIn_42 ml_3_33 (am_rj13 (by decide) h8)
theorem x16_45 (hc : v3.category = 1) : AW sv 16 45 [v0, v1, v2, v3, v4, v5] (.int x :: r) h 0 0 Q = AW sv 16 47 [v0, v1, v2, v3, .int x, v5] r h 0 0 Q := e_pv am_h16 dX3_heedIn_45 rfl rfl rfl (am_sti_of (Nat.le_of_ble_eq_true rfl) (am_c1_of rfl hc))
theorem x16_47 : AW sv 16 47 [.ref a, v1, v2, v3, v4, v5] r h 0 0 Q = AW sv 16 48 [.ref a, v1, v2, v3, v4, v5] (.ref a :: r) h 0 0 Q := e_pv am_h16 dX3_heedIn_47 rfl rfl rfl rfl
theorem x16_48 (hr : am_St a) : AW sv 16 48 [v0, v1, v2, v3, v4, v5] (.ref (a + 1) :: r) (am_toH σ) 0 0 Q = AW sv 16 51 [v0, v1, v2, v3, v4, v5] (.ref (a + 5) :: r) (am_toH σ) 0 0 Q := e_getR am_h16 dX3_heedIn_48 fl_3_21 (is3 hr) rfl
theorem x16_51 : AW sv 16 51 [v0, v1, v2, v3, v4, .int x] r h 0 0 Q = AW sv 16 53 [v0, v1, v2, v3, v4, .int x] (.int x :: r) h 0 0 Q := e_pv am_h16 dX3_heedIn_51 rfl rfl rfl rfl
theorem x16_53 (hi : am_in x (am_ln a) = true) : AW sv 16 53 [v0, v1, v2, v3, v4, v5] (.int x :: .ref a :: r) (am_toH σ) 0 0 Q = AW sv 16 54 [v0, v1, v2, v3, v4, v5] (.int (σ.1 a x.toNatClampNeg) :: r) (am_toH σ) 0 0 Q := e_iald am_h16 dX3_heedIn_53 hi
theorem x16_54 : AW sv 16 54 [v0, v1, v2, v3, v4, v5] (.int x :: r) h 0 0 Q = if x = 0 then AW sv 16 71 [v0, v1, v2, v3, v4, v5] r h 0 0 Q else AW sv 16 57 [v0, v1, v2, v3, v4, v5] r h 0 0 Q := e_z_eq am_h16 dX3_heedIn_54 rfl
theorem x16_57 : AW sv 16 57 [v0, v1, .int x, v3, v4, v5] r h 0 0 Q = AW sv 16 58 [v0, v1, .int x, v3, v4, v5] (.int x :: r) h 0 0 Q := e_pv am_h16 dX3_heedIn_57 rfl rfl rfl rfl
theorem x16_58 : AW sv 16 58 [v0, v1, v2, v3, v4, v5] (.int x :: r) h 0 0 Q = if ¬ x = 0 then AW sv 16 71 [v0, v1, v2, v3, v4, v5] r h 0 0 Q else AW sv 16 61 [v0, v1, v2, v3, v4, v5] r h 0 0 Q := e_z_ne am_h16 dX3_heedIn_58 rfl
theorem x16_61 : AW sv 16 61 [v0, v1, v2, v3, v4, v5] r h 0 0 Q = AW sv 16 62 [v0, v1, v2, v3, v4, v5] (.int (0) :: r) h 0 0 Q := e_iconstv am_h16 dX3_heedIn_61 c_iconst_0
theorem x16_62 : AW sv 16 62 [v0, v1, v2, v3, .int x, v5] r h 0 0 Q = AW sv 16 64 [v0, v1, v2, v3, .int x, v5] (.int x :: r) h 0 0 Q := e_pv am_h16 dX3_heedIn_62 rfl rfl rfl rfl
theorem x16_64 : AW sv 16 64 [v0, v1, v2, v3, v4, v5] r h 0 0 Q = AW sv 16 65 [v0, v1, v2, v3, v4, v5] (.int (2) :: r) h 0 0 Q := e_iconstv am_h16 dX3_heedIn_64 c_iconst_2
theorem x16_65 : AW sv 16 65 [v0, v1, v2, v3, v4, v5] (.int y :: .int x :: r) h 0 0 Q = AW sv 16 66 [v0, v1, v2, v3, v4, v5] (.int (x - y) :: r) h 0 0 Q := e_isub am_h16 dX3_heedIn_65
theorem x16_66 (h8 : am_cs r ≤ 8) : AW sv 16 66 [v0, v1, v2, v3, v4, v5] (.int y :: .int x :: r) h 0 0 Q = AW sv 16 69 [v0, v1, v2, v3, v4, v5] (.int (if x < y then y else x) :: r) h 0 0 Q := e_mmax am_h16 dX3_heedIn_66 ml_3_39 (am_rj13 (by decide) h8)
theorem x16_69 (hc : v3.category = 1) : AW sv 16 69 [v0, v1, v2, v3, v4, v5] (.int x :: r) h 0 0 Q = AW sv 16 71 [v0, v1, v2, v3, .int x, v5] r h 0 0 Q := e_pv am_h16 dX3_heedIn_69 rfl rfl rfl (am_sti_of (Nat.le_of_ble_eq_true rfl) (am_c1_of rfl hc))
theorem x16_71 (hc : v4.category = 1) : AW sv 16 71 [v0, v1, v2, v3, v4, .int x] r h 0 0 Q = AW sv 16 74 [v0, v1, v2, v3, v4, .int (x + (1))] r h 0 0 Q := e_pv am_h16 dX3_heedIn_71 rfl rfl rfl (am_inc_of (ls := [v0, v1, v2, v3, v4, .int x]) (k := 5) rfl c_iconst_1 (am_c1_of (ls := [v0, v1, v2, v3, v4, .int x]) (k := 4) (v := v4) rfl hc))
theorem x16_74 : AW sv 16 74 [v0, v1, v2, v3, v4, v5] r h 0 0 Q = AW sv 16 7 [v0, v1, v2, v3, v4, v5] r h 0 0 Q := e_goto am_h16 dX3_heedIn_74 rfl
theorem x16_77 : AW sv 16 77 [v0, v1, v2, v3, .int x, v5] r h 0 0 Q = AW sv 16 79 [v0, v1, v2, v3, .int x, v5] (.int x :: r) h 0 0 Q := e_pv am_h16 dX3_heedIn_77 rfl rfl rfl rfl
theorem x16_79 : AW sv 16 79 [v0, v1, v2, v3, v4, v5] [.int x] h 0 0 Q = Q (some (.int x)) h := e_iret am_h16 dX3_heedIn_79 rfl ⟨rfl, rfl⟩
theorem n16 : AM sv 16 [.ref a, .int x0, .int x1, .int x2] h Q = AW sv 16 0 [.ref a, .int x0, .int x1, .int x2, .null, .null] [] h 0 0 Q := rfl
theorem x17_0 : AW sv 17 0 [v0, v1] r h 0 0 Q = AW sv 17 2 [v0, v1] (.int (15) :: r) h 0 0 Q := e_bipushv am_h17 dX3_lastSlip_0 c_bipush_15
theorem x17_2 (hc : v0.category = 1) : AW sv 17 2 [v0, v1] (.int x :: r) h 0 0 Q = AW sv 17 3 [v0, .int x] r h 0 0 Q := e_pv am_h17 dX3_lastSlip_2 rfl rfl rfl (am_sti_of (Nat.le_of_ble_eq_true rfl) (am_c1_of rfl hc))
theorem x17_3 : AW sv 17 3 [v0, .int x] r h 0 0 Q = AW sv 17 4 [v0, .int x] (.int x :: r) h 0 0 Q := e_pv am_h17 dX3_lastSlip_3 rfl rfl rfl rfl
theorem x17_4 : AW sv 17 4 [v0, v1] (.int x :: r) h 0 0 Q = if x < 0 then AW sv 17 24 [v0, v1] r h 0 0 Q else AW sv 17 7 [v0, v1] r h 0 0 Q := e_z_lt am_h17 dX3_lastSlip_4 rfl
theorem x17_7 : AW sv 17 7 [.ref a, v1] r h 0 0 Q = AW sv 17 8 [.ref a, v1] (.ref a :: r) h 0 0 Q := e_pv am_h17 dX3_lastSlip_7 rfl rfl rfl rfl
theorem x17_8 (hr : am_St a) : AW sv 17 8 [v0, v1] (.ref (a + 1) :: r) (am_toH σ) 0 0 Q = AW sv 17 11 [v0, v1] (.ref (a + 3) :: r) (am_toH σ) 0 0 Q := e_getR am_h17 dX3_lastSlip_8 fl_3_15 (is3 hr) rfl
theorem x17_11 : AW sv 17 11 [v0, .int x] r h 0 0 Q = AW sv 17 12 [v0, .int x] (.int x :: r) h 0 0 Q := e_pv am_h17 dX3_lastSlip_11 rfl rfl rfl rfl
theorem x17_12 (hi : am_in x (am_ln a) = true) : AW sv 17 12 [v0, v1] (.int x :: .ref a :: r) (am_toH σ) 0 0 Q = AW sv 17 13 [v0, v1] (.int (σ.1 a x.toNatClampNeg) :: r) (am_toH σ) 0 0 Q := e_iald am_h17 dX3_lastSlip_12 hi
theorem x17_13 : AW sv 17 13 [v0, v1] (.int x :: r) h 0 0 Q = if x = 0 then AW sv 17 18 [v0, v1] r h 0 0 Q else AW sv 17 16 [v0, v1] r h 0 0 Q := e_z_eq am_h17 dX3_lastSlip_13 rfl
theorem x17_16 : AW sv 17 16 [v0, .int x] r h 0 0 Q = AW sv 17 17 [v0, .int x] (.int x :: r) h 0 0 Q := e_pv am_h17 dX3_lastSlip_16 rfl rfl rfl rfl
theorem x17_17 : AW sv 17 17 [v0, v1] [.int x] h 0 0 Q = Q (some (.int x)) h := e_iret am_h17 dX3_lastSlip_17 rfl ⟨rfl, rfl⟩
theorem x17_18 (hc : v0.category = 1) : AW sv 17 18 [v0, .int x] r h 0 0 Q = AW sv 17 21 [v0, .int (x + (-1))] r h 0 0 Q := e_pv am_h17 dX3_lastSlip_18 rfl rfl rfl (am_inc_of (ls := [v0, .int x]) (k := 1) rfl c_iconst_m1 (am_c1_of (ls := [v0, .int x]) (k := 0) (v := v0) rfl hc))
theorem x17_21 : AW sv 17 21 [v0, v1] r h 0 0 Q = AW sv 17 3 [v0, v1] r h 0 0 Q := e_goto am_h17 dX3_lastSlip_21 rfl
theorem x17_24 : AW sv 17 24 [v0, v1] r h 0 0 Q = AW sv 17 25 [v0, v1] (.int (-1) :: r) h 0 0 Q := e_iconstv am_h17 dX3_lastSlip_24 c_iconst_m1
theorem x17_25 : AW sv 17 25 [v0, v1] [.int x] h 0 0 Q = Q (some (.int x)) h := e_iret am_h17 dX3_lastSlip_25 rfl ⟨rfl, rfl⟩
theorem n17 : AM sv 17 [.ref a] h Q = AW sv 17 0 [.ref a, .null] [] h 0 0 Q := rfl
theorem x19_0 : AW sv 19 0 [.ref a, v1] r h 0 0 Q = AW sv 19 1 [.ref a, v1] (.ref a :: r) h 0 0 Q := e_pv am_h19 dX4_isMissing_0 rfl rfl rfl rfl
theorem x19_1 : AW sv 19 1 [v0, v1] (.ref 67 :: r) (am_toH σ) 0 0 Q = AW sv 19 4 [v0, v1] (.ref 68 :: r) (am_toH σ) 0 0 Q := e_getR am_h19 dX4_isMissing_1 fl_4_9 is4 rfl
theorem x19_4 : AW sv 19 4 [v0, .int x] r h 0 0 Q = AW sv 19 5 [v0, .int x] (.int x :: r) h 0 0 Q := e_pv am_h19 dX4_isMissing_4 rfl rfl rfl rfl
theorem x19_5 (hi : am_in x (am_ln a) = true) : AW sv 19 5 [v0, v1] (.int x :: .ref a :: r) (am_toH σ) 0 0 Q = AW sv 19 6 [v0, v1] (.int (σ.1 a x.toNatClampNeg) :: r) (am_toH σ) 0 0 Q := e_iald am_h19 dX4_isMissing_5 hi
theorem x19_6 : AW sv 19 6 [v0, v1] r h 0 0 Q = AW sv 19 7 [v0, v1] (.int (-1) :: r) h 0 0 Q := e_iconstv am_h19 dX4_isMissing_6 c_iconst_m1
theorem x19_7 : AW sv 19 7 [v0, v1] (.int y :: .int x :: r) h 0 0 Q = if ¬ x = y then AW sv 19 14 [v0, v1] r h 0 0 Q else AW sv 19 10 [v0, v1] r h 0 0 Q := e_c_ne am_h19 dX4_isMissing_7 rfl
theorem x19_10 : AW sv 19 10 [v0, v1] r h 0 0 Q = AW sv 19 11 [v0, v1] (.int (1) :: r) h 0 0 Q := e_iconstv am_h19 dX4_isMissing_10 c_iconst_1
theorem x19_11 : AW sv 19 11 [v0, v1] r h 0 0 Q = AW sv 19 15 [v0, v1] r h 0 0 Q := e_goto am_h19 dX4_isMissing_11 rfl
theorem x19_14 : AW sv 19 14 [v0, v1] r h 0 0 Q = AW sv 19 15 [v0, v1] (.int (0) :: r) h 0 0 Q := e_iconstv am_h19 dX4_isMissing_14 c_iconst_0
theorem x19_15 (hz : x = 0 ∨ x = 1) : AW sv 19 15 [v0, v1] [.int x] h 0 0 Q = Q (some (.int x)) h := e_zret am_h19 dX4_isMissing_15 rfl ⟨rfl, rfl⟩ hz
theorem n19 : AM sv 19 [.ref a, .int x0] h Q = AW sv 19 0 [.ref a, .int x0] [] h 0 0 Q := rfl
theorem x20_0 : AW sv 20 0 [.ref a, v1, v2] r h 0 0 Q = AW sv 20 1 [.ref a, v1, v2] (.ref a :: r) h 0 0 Q := e_pv am_h20 dX4_refusal_0 rfl rfl rfl rfl
theorem x20_1 : AW sv 20 1 [v0, .int x, v2] r h 0 0 Q = AW sv 20 2 [v0, .int x, v2] (.int x :: r) h 0 0 Q := e_pv am_h20 dX4_refusal_1 rfl rfl rfl rfl
theorem x20_2 (h8 : am_cs r ≤ 8) : AW sv 20 2 [v0, v1, v2] (.int x0 :: .ref 67 :: r) (am_toH σ) 0 0 Q = AM sv 19 [.ref 67, .int x0] (am_toH σ) (fun v h1 => AW sv 20 5 [v0, v1, v2] (v.toList ++ r) h1 0 0 Q) := e_cV (as := [.int x0]) am_h20 dX4_refusal_2 ml_4_21 (by decide) am_h19 rfl is4 rfl rfl ⟨by decide, Nat.le_of_ble_eq_true rfl, am_rc_of (by decide) h8⟩
theorem x20_5 : AW sv 20 5 [v0, v1, v2] (.int x :: r) h 0 0 Q = if x = 0 then AW sv 20 11 [v0, v1, v2] r h 0 0 Q else AW sv 20 8 [v0, v1, v2] r h 0 0 Q := e_z_eq am_h20 dX4_refusal_5 rfl
theorem x20_8 : AW sv 20 8 [v0, v1, v2] r h 0 0 Q = AW sv 20 10 [v0, v1, v2] (.int (-11) :: r) h 0 0 Q := e_bipushv am_h20 dX4_refusal_8 c_bipush_m11
theorem x20_10 : AW sv 20 10 [v0, v1, v2] [.int x] h 0 0 Q = Q (some (.int x)) h := e_iret am_h20 dX4_refusal_10 rfl ⟨rfl, rfl⟩
theorem x20_11 : AW sv 20 11 [.ref a, v1, v2] r h 0 0 Q = AW sv 20 12 [.ref a, v1, v2] (.ref a :: r) h 0 0 Q := e_pv am_h20 dX4_refusal_11 rfl rfl rfl rfl
theorem x20_12 : AW sv 20 12 [v0, v1, v2] (.ref 67 :: r) (am_toH σ) 0 0 Q = AW sv 20 15 [v0, v1, v2] (.ref 68 :: r) (am_toH σ) 0 0 Q := e_getR am_h20 dX4_refusal_12 fl_4_9 is4 rfl
theorem x20_15 : AW sv 20 15 [v0, .int x, v2] r h 0 0 Q = AW sv 20 16 [v0, .int x, v2] (.int x :: r) h 0 0 Q := e_pv am_h20 dX4_refusal_15 rfl rfl rfl rfl
theorem x20_16 (hi : am_in x (am_ln a) = true) : AW sv 20 16 [v0, v1, v2] (.int x :: .ref a :: r) (am_toH σ) 0 0 Q = AW sv 20 17 [v0, v1, v2] (.int (σ.1 a x.toNatClampNeg) :: r) (am_toH σ) 0 0 Q := e_iald am_h20 dX4_refusal_16 hi
theorem x20_17 : AW sv 20 17 [v0, v1, .int x] r h 0 0 Q = AW sv 20 18 [v0, v1, .int x] (.int x :: r) h 0 0 Q := e_pv am_h20 dX4_refusal_17 rfl rfl rfl rfl
theorem x20_18 : AW sv 20 18 [v0, v1, v2] (.int y :: .int x :: r) h 0 0 Q = if ¬ x = y then AW sv 20 25 [v0, v1, v2] r h 0 0 Q else AW sv 20 21 [v0, v1, v2] r h 0 0 Q := e_c_ne am_h20 dX4_refusal_18 rfl
theorem x20_21 : AW sv 20 21 [v0, v1, v2] r h 0 0 Q = AW sv 20 22 [v0, v1, v2] (.int (0) :: r) h 0 0 Q := e_iconstv am_h20 dX4_refusal_21 c_iconst_0
theorem x20_22 : AW sv 20 22 [v0, v1, v2] r h 0 0 Q = AW sv 20 27 [v0, v1, v2] r h 0 0 Q := e_goto am_h20 dX4_refusal_22 rfl
theorem x20_25 : AW sv 20 25 [v0, v1, v2] r h 0 0 Q = AW sv 20 27 [v0, v1, v2] (.int (-12) :: r) h 0 0 Q := e_bipushv am_h20 dX4_refusal_25 c_bipush_m12
theorem x20_27 : AW sv 20 27 [v0, v1, v2] [.int x] h 0 0 Q = Q (some (.int x)) h := e_iret am_h20 dX4_refusal_27 rfl ⟨rfl, rfl⟩
theorem n20 : AM sv 20 [.ref a, .int x0, .int x1] h Q = AW sv 20 0 [.ref a, .int x0, .int x1] [] h 0 0 Q := rfl
theorem x21_0 : AW sv 21 0 [v0, v1, .int x, v3] r h 0 0 Q = AW sv 21 1 [v0, v1, .int x, v3] (.int x :: r) h 0 0 Q := e_pv am_h21 dX4_hasItems_0 rfl rfl rfl rfl
theorem x21_1 : AW sv 21 1 [v0, v1, v2, v3] (.int x :: r) h 0 0 Q = if x < 0 then AW sv 21 34 [v0, v1, v2, v3] r h 0 0 Q else AW sv 21 4 [v0, v1, v2, v3] r h 0 0 Q := e_z_lt am_h21 dX4_hasItems_1 rfl
theorem x21_4 : AW sv 21 4 [v0, v1, v2, .int x] r h 0 0 Q = AW sv 21 5 [v0, v1, v2, .int x] (.int x :: r) h 0 0 Q := e_pv am_h21 dX4_hasItems_4 rfl rfl rfl rfl
theorem x21_5 : AW sv 21 5 [v0, v1, v2, v3] (.int x :: r) h 0 0 Q = if x < 0 then AW sv 21 34 [v0, v1, v2, v3] r h 0 0 Q else AW sv 21 8 [v0, v1, v2, v3] r h 0 0 Q := e_z_lt am_h21 dX4_hasItems_5 rfl
theorem x21_8 : AW sv 21 8 [v0, v1, .int x, v3] r h 0 0 Q = AW sv 21 9 [v0, v1, .int x, v3] (.int x :: r) h 0 0 Q := e_pv am_h21 dX4_hasItems_8 rfl rfl rfl rfl
theorem x21_9 : AW sv 21 9 [.ref a, v1, v2, v3] r h 0 0 Q = AW sv 21 10 [.ref a, v1, v2, v3] (.ref a :: r) h 0 0 Q := e_pv am_h21 dX4_hasItems_9 rfl rfl rfl rfl
theorem x21_10 : AW sv 21 10 [v0, v1, v2, v3] (.ref 67 :: r) (am_toH σ) 0 0 Q = AW sv 21 13 [v0, v1, v2, v3] (.ref 69 :: r) (am_toH σ) 0 0 Q := e_getR am_h21 dX4_hasItems_10 fl_4_15 is4 rfl
theorem x21_13 : AW sv 21 13 [v0, .int x, v2, v3] r h 0 0 Q = AW sv 21 14 [v0, .int x, v2, v3] (.int x :: r) h 0 0 Q := e_pv am_h21 dX4_hasItems_13 rfl rfl rfl rfl
theorem x21_14 (hi : am_in x (am_ln a) = true) : AW sv 21 14 [v0, v1, v2, v3] (.int x :: .ref a :: r) (am_toH σ) 0 0 Q = AW sv 21 15 [v0, v1, v2, v3] (.int (σ.1 a x.toNatClampNeg) :: r) (am_toH σ) 0 0 Q := e_iald am_h21 dX4_hasItems_14 hi
theorem x21_15 : AW sv 21 15 [v0, v1, v2, v3] (.int y :: .int x :: r) h 0 0 Q = if y < x then AW sv 21 34 [v0, v1, v2, v3] r h 0 0 Q else AW sv 21 18 [v0, v1, v2, v3] r h 0 0 Q := e_c_gt am_h21 dX4_hasItems_15 rfl
theorem x21_18 : AW sv 21 18 [v0, v1, v2, .int x] r h 0 0 Q = AW sv 21 19 [v0, v1, v2, .int x] (.int x :: r) h 0 0 Q := e_pv am_h21 dX4_hasItems_18 rfl rfl rfl rfl
theorem x21_19 : AW sv 21 19 [.ref a, v1, v2, v3] r h 0 0 Q = AW sv 21 20 [.ref a, v1, v2, v3] (.ref a :: r) h 0 0 Q := e_pv am_h21 dX4_hasItems_19 rfl rfl rfl rfl
theorem x21_20 : AW sv 21 20 [v0, v1, v2, v3] (.ref 67 :: r) (am_toH σ) 0 0 Q = AW sv 21 23 [v0, v1, v2, v3] (.ref 69 :: r) (am_toH σ) 0 0 Q := e_getR am_h21 dX4_hasItems_20 fl_4_15 is4 rfl
theorem x21_23 : AW sv 21 23 [v0, .int x, v2, v3] r h 0 0 Q = AW sv 21 24 [v0, .int x, v2, v3] (.int x :: r) h 0 0 Q := e_pv am_h21 dX4_hasItems_23 rfl rfl rfl rfl
theorem x21_24 (hi : am_in x (am_ln a) = true) : AW sv 21 24 [v0, v1, v2, v3] (.int x :: .ref a :: r) (am_toH σ) 0 0 Q = AW sv 21 25 [v0, v1, v2, v3] (.int (σ.1 a x.toNatClampNeg) :: r) (am_toH σ) 0 0 Q := e_iald am_h21 dX4_hasItems_24 hi
theorem x21_25 : AW sv 21 25 [v0, v1, .int x, v3] r h 0 0 Q = AW sv 21 26 [v0, v1, .int x, v3] (.int x :: r) h 0 0 Q := e_pv am_h21 dX4_hasItems_25 rfl rfl rfl rfl
theorem x21_26 : AW sv 21 26 [v0, v1, v2, v3] (.int y :: .int x :: r) h 0 0 Q = AW sv 21 27 [v0, v1, v2, v3] (.int (x - y) :: r) h 0 0 Q := e_isub am_h21 dX4_hasItems_26
theorem x21_27 : AW sv 21 27 [v0, v1, v2, v3] (.int y :: .int x :: r) h 0 0 Q = if y < x then AW sv 21 34 [v0, v1, v2, v3] r h 0 0 Q else AW sv 21 30 [v0, v1, v2, v3] r h 0 0 Q := e_c_gt am_h21 dX4_hasItems_27 rfl
theorem x21_30 : AW sv 21 30 [v0, v1, v2, v3] r h 0 0 Q = AW sv 21 31 [v0, v1, v2, v3] (.int (1) :: r) h 0 0 Q := e_iconstv am_h21 dX4_hasItems_30 c_iconst_1
theorem x21_31 : AW sv 21 31 [v0, v1, v2, v3] r h 0 0 Q = AW sv 21 35 [v0, v1, v2, v3] r h 0 0 Q := e_goto am_h21 dX4_hasItems_31 rfl
theorem x21_34 : AW sv 21 34 [v0, v1, v2, v3] r h 0 0 Q = AW sv 21 35 [v0, v1, v2, v3] (.int (0) :: r) h 0 0 Q := e_iconstv am_h21 dX4_hasItems_34 c_iconst_0
theorem x21_35 (hz : x = 0 ∨ x = 1) : AW sv 21 35 [v0, v1, v2, v3] [.int x] h 0 0 Q = Q (some (.int x)) h := e_zret am_h21 dX4_hasItems_35 rfl ⟨rfl, rfl⟩ hz
theorem n21 : AM sv 21 [.ref a, .int x0, .int x1, .int x2] h Q = AW sv 21 0 [.ref a, .int x0, .int x1, .int x2] [] h 0 0 Q := rfl
theorem x22_0 : AW sv 22 0 [.ref a, v1, v2, v3, v4] r h 0 0 Q = AW sv 22 1 [.ref a, v1, v2, v3, v4] (.ref a :: r) h 0 0 Q := e_pv am_h22 dX4_lay_0 rfl rfl rfl rfl
theorem x22_1 : AW sv 22 1 [v0, v1, v2, v3, v4] (.ref 67 :: r) (am_toH σ) 0 0 Q = AW sv 22 4 [v0, v1, v2, v3, v4] (.ref 68 :: r) (am_toH σ) 0 0 Q := e_getR am_h22 dX4_lay_1 fl_4_9 is4 rfl
theorem x22_4 : AW sv 22 4 [v0, .int x, v2, v3, v4] r h 0 0 Q = AW sv 22 5 [v0, .int x, v2, v3, v4] (.int x :: r) h 0 0 Q := e_pv am_h22 dX4_lay_4 rfl rfl rfl rfl
theorem x22_5 : AW sv 22 5 [v0, v1, .int x, v3, v4] r h 0 0 Q = AW sv 22 6 [v0, v1, .int x, v3, v4] (.int x :: r) h 0 0 Q := e_pv am_h22 dX4_lay_5 rfl rfl rfl rfl
theorem x22_6 (hi : am_in y (am_ln a) = true) : AW sv 22 6 [v0, v1, v2, v3, v4] (.int x :: .int y :: .ref a :: r) (am_toH σ) 0 0 Q = AW sv 22 7 [v0, v1, v2, v3, v4] r (am_toH (am_wr σ a (upd (σ.1 a) y.toNatClampNeg x))) 0 0 Q := e_iast am_h22 dX4_lay_6 hi
theorem x22_7 : AW sv 22 7 [.ref a, v1, v2, v3, v4] r h 0 0 Q = AW sv 22 8 [.ref a, v1, v2, v3, v4] (.ref a :: r) h 0 0 Q := e_pv am_h22 dX4_lay_7 rfl rfl rfl rfl
theorem x22_8 : AW sv 22 8 [v0, v1, v2, v3, v4] (.ref 67 :: r) (am_toH σ) 0 0 Q = AW sv 22 11 [v0, v1, v2, v3, v4] (.ref 69 :: r) (am_toH σ) 0 0 Q := e_getR am_h22 dX4_lay_8 fl_4_15 is4 rfl
theorem x22_11 : AW sv 22 11 [v0, .int x, v2, v3, v4] r h 0 0 Q = AW sv 22 12 [v0, .int x, v2, v3, v4] (.int x :: r) h 0 0 Q := e_pv am_h22 dX4_lay_11 rfl rfl rfl rfl
theorem x22_12 : AW sv 22 12 [v0, v1, v2, .int x, v4] r h 0 0 Q = AW sv 22 13 [v0, v1, v2, .int x, v4] (.int x :: r) h 0 0 Q := e_pv am_h22 dX4_lay_12 rfl rfl rfl rfl
theorem x22_13 (hi : am_in y (am_ln a) = true) : AW sv 22 13 [v0, v1, v2, v3, v4] (.int x :: .int y :: .ref a :: r) (am_toH σ) 0 0 Q = AW sv 22 14 [v0, v1, v2, v3, v4] r (am_toH (am_wr σ a (upd (σ.1 a) y.toNatClampNeg x))) 0 0 Q := e_iast am_h22 dX4_lay_13 hi
theorem x22_14 : AW sv 22 14 [v0, v1, v2, v3, v4] r h 0 0 Q = AW sv 22 15 [v0, v1, v2, v3, v4] (.int (0) :: r) h 0 0 Q := e_iconstv am_h22 dX4_lay_14 c_iconst_0
theorem x22_15 (hc : v3.category = 1) : AW sv 22 15 [v0, v1, v2, v3, v4] (.int x :: r) h 0 0 Q = AW sv 22 17 [v0, v1, v2, v3, .int x] r h 0 0 Q := e_pv am_h22 dX4_lay_15 rfl rfl rfl (am_sti_of (Nat.le_of_ble_eq_true rfl) (am_c1_of rfl hc))
theorem x22_17 : AW sv 22 17 [v0, v1, v2, v3, .int x] r h 0 0 Q = AW sv 22 19 [v0, v1, v2, v3, .int x] (.int x :: r) h 0 0 Q := e_pv am_h22 dX4_lay_17 rfl rfl rfl rfl
theorem x22_19 : AW sv 22 19 [v0, v1, v2, .int x, v4] r h 0 0 Q = AW sv 22 20 [v0, v1, v2, .int x, v4] (.int x :: r) h 0 0 Q := e_pv am_h22 dX4_lay_19 rfl rfl rfl rfl
theorem x22_20 : AW sv 22 20 [v0, v1, v2, v3, v4] (.int y :: .int x :: r) h 0 0 Q = if y ≤ x then AW sv 22 42 [v0, v1, v2, v3, v4] r h 0 0 Q else AW sv 22 23 [v0, v1, v2, v3, v4] r h 0 0 Q := e_c_ge am_h22 dX4_lay_20 rfl
theorem x22_23 : AW sv 22 23 [.ref a, v1, v2, v3, v4] r h 0 0 Q = AW sv 22 24 [.ref a, v1, v2, v3, v4] (.ref a :: r) h 0 0 Q := e_pv am_h22 dX4_lay_23 rfl rfl rfl rfl
theorem x22_24 : AW sv 22 24 [v0, v1, v2, v3, v4] (.ref 67 :: r) (am_toH σ) 0 0 Q = AW sv 22 27 [v0, v1, v2, v3, v4] (.ref 70 :: r) (am_toH σ) 0 0 Q := e_getR am_h22 dX4_lay_24 fl_4_18 is4 rfl
theorem x22_27 : AW sv 22 27 [v0, .int x, v2, v3, v4] r h 0 0 Q = AW sv 22 28 [v0, .int x, v2, v3, v4] (.int x :: r) h 0 0 Q := e_pv am_h22 dX4_lay_27 rfl rfl rfl rfl
theorem x22_28 : AW sv 22 28 [v0, v1, v2, v3, v4] r h 0 0 Q = AW sv 22 30 [v0, v1, v2, v3, v4] (.int (16) :: r) h 0 0 Q := e_bipushv am_h22 dX4_lay_28 c_bipush_16
theorem x22_30 : AW sv 22 30 [v0, v1, v2, v3, v4] (.int y :: .int x :: r) h 0 0 Q = AW sv 22 31 [v0, v1, v2, v3, v4] (.int (x * y) :: r) h 0 0 Q := e_imul am_h22 dX4_lay_30
theorem x22_31 : AW sv 22 31 [v0, v1, v2, v3, .int x] r h 0 0 Q = AW sv 22 33 [v0, v1, v2, v3, .int x] (.int x :: r) h 0 0 Q := e_pv am_h22 dX4_lay_31 rfl rfl rfl rfl
theorem x22_33 : AW sv 22 33 [v0, v1, v2, v3, v4] (.int y :: .int x :: r) h 0 0 Q = AW sv 22 34 [v0, v1, v2, v3, v4] (.int (x + y) :: r) h 0 0 Q := e_iadd am_h22 dX4_lay_33
theorem x22_34 : AW sv 22 34 [v0, v1, v2, v3, v4] r h 0 0 Q = AW sv 22 35 [v0, v1, v2, v3, v4] (.int (0) :: r) h 0 0 Q := e_iconstv am_h22 dX4_lay_34 c_iconst_0
theorem x22_35 (hi : am_in y (am_ln a) = true) : AW sv 22 35 [v0, v1, v2, v3, v4] (.int x :: .int y :: .ref a :: r) (am_toH σ) 0 0 Q = AW sv 22 36 [v0, v1, v2, v3, v4] r (am_toH (am_wr σ a (upd (σ.1 a) y.toNatClampNeg x))) 0 0 Q := e_iast am_h22 dX4_lay_35 hi
theorem x22_36 (hc : v3.category = 1) : AW sv 22 36 [v0, v1, v2, v3, .int x] r h 0 0 Q = AW sv 22 39 [v0, v1, v2, v3, .int (x + (1))] r h 0 0 Q := e_pv am_h22 dX4_lay_36 rfl rfl rfl (am_inc_of (ls := [v0, v1, v2, v3, .int x]) (k := 4) rfl c_iconst_1 (am_c1_of (ls := [v0, v1, v2, v3, .int x]) (k := 3) (v := v3) rfl hc))
theorem x22_39 : AW sv 22 39 [v0, v1, v2, v3, v4] r h 0 0 Q = AW sv 22 17 [v0, v1, v2, v3, v4] r h 0 0 Q := e_goto am_h22 dX4_lay_39 rfl
theorem x22_42 : AW sv 22 42 [v0, v1, v2, v3, v4] [] h 0 0 Q = Q none h := e_vret am_h22 dX4_lay_42 rfl ⟨rfl, rfl⟩
theorem n22 : AM sv 22 [.ref a, .int x0, .int x1, .int x2] h Q = AW sv 22 0 [.ref a, .int x0, .int x1, .int x2, .null] [] h 0 0 Q := rfl
theorem x23_0 : AW sv 23 0 [.ref a, v1, v2] r h 0 0 Q = AW sv 23 1 [.ref a, v1, v2] (.ref a :: r) h 0 0 Q := e_pv am_h23 dX4_itemAt_0 rfl rfl rfl rfl
theorem x23_1 : AW sv 23 1 [v0, v1, v2] (.ref 67 :: r) (am_toH σ) 0 0 Q = AW sv 23 4 [v0, v1, v2] (.ref 70 :: r) (am_toH σ) 0 0 Q := e_getR am_h23 dX4_itemAt_1 fl_4_18 is4 rfl
theorem x23_4 : AW sv 23 4 [v0, .int x, v2] r h 0 0 Q = AW sv 23 5 [v0, .int x, v2] (.int x :: r) h 0 0 Q := e_pv am_h23 dX4_itemAt_4 rfl rfl rfl rfl
theorem x23_5 : AW sv 23 5 [v0, v1, v2] r h 0 0 Q = AW sv 23 7 [v0, v1, v2] (.int (16) :: r) h 0 0 Q := e_bipushv am_h23 dX4_itemAt_5 c_bipush_16
theorem x23_7 : AW sv 23 7 [v0, v1, v2] (.int y :: .int x :: r) h 0 0 Q = AW sv 23 8 [v0, v1, v2] (.int (x * y) :: r) h 0 0 Q := e_imul am_h23 dX4_itemAt_7
theorem x23_8 : AW sv 23 8 [v0, v1, .int x] r h 0 0 Q = AW sv 23 9 [v0, v1, .int x] (.int x :: r) h 0 0 Q := e_pv am_h23 dX4_itemAt_8 rfl rfl rfl rfl
theorem x23_9 : AW sv 23 9 [v0, v1, v2] (.int y :: .int x :: r) h 0 0 Q = AW sv 23 10 [v0, v1, v2] (.int (x + y) :: r) h 0 0 Q := e_iadd am_h23 dX4_itemAt_9
theorem x23_10 (hi : am_in x (am_ln a) = true) : AW sv 23 10 [v0, v1, v2] (.int x :: .ref a :: r) (am_toH σ) 0 0 Q = AW sv 23 11 [v0, v1, v2] (.int (σ.1 a x.toNatClampNeg) :: r) (am_toH σ) 0 0 Q := e_iald am_h23 dX4_itemAt_10 hi
theorem x23_11 : AW sv 23 11 [v0, v1, v2] [.int x] h 0 0 Q = Q (some (.int x)) h := e_iret am_h23 dX4_itemAt_11 rfl ⟨rfl, rfl⟩
theorem n23 : AM sv 23 [.ref a, .int x0, .int x1] h Q = AW sv 23 0 [.ref a, .int x0, .int x1] [] h 0 0 Q := rfl
theorem x24_0 : AW sv 24 0 [.ref a, v1, v2, v3, v4] r h 0 0 Q = AW sv 24 1 [.ref a, v1, v2, v3, v4] (.ref a :: r) h 0 0 Q := e_pv am_h24 dX4_write_0 rfl rfl rfl rfl
theorem x24_1 : AW sv 24 1 [v0, v1, v2, v3, v4] (.ref 67 :: r) (am_toH σ) 0 0 Q = AW sv 24 4 [v0, v1, v2, v3, v4] (.ref 68 :: r) (am_toH σ) 0 0 Q := e_getR am_h24 dX4_write_1 fl_4_9 is4 rfl
theorem x24_4 : AW sv 24 4 [v0, .int x, v2, v3, v4] r h 0 0 Q = AW sv 24 5 [v0, .int x, v2, v3, v4] (.int x :: r) h 0 0 Q := e_pv am_h24 dX4_write_4 rfl rfl rfl rfl
theorem x24_5 (hi : am_in x (am_ln a) = true) : AW sv 24 5 [v0, v1, v2, v3, v4] (.int x :: .ref a :: r) (am_toH σ) 0 0 Q = AW sv 24 6 [v0, v1, v2, v3, v4] (.int (σ.1 a x.toNatClampNeg) :: r) (am_toH σ) 0 0 Q := e_iald am_h24 dX4_write_5 hi
theorem x24_6 (hc : v3.category = 1) : AW sv 24 6 [v0, v1, v2, v3, v4] (.int x :: r) h 0 0 Q = AW sv 24 8 [v0, v1, v2, v3, .int x] r h 0 0 Q := e_pv am_h24 dX4_write_6 rfl rfl rfl (am_sti_of (Nat.le_of_ble_eq_true rfl) (am_c1_of rfl hc))
theorem x24_8 : AW sv 24 8 [.ref a, v1, v2, v3, v4] r h 0 0 Q = AW sv 24 9 [.ref a, v1, v2, v3, v4] (.ref a :: r) h 0 0 Q := e_pv am_h24 dX4_write_8 rfl rfl rfl rfl
theorem x24_9 : AW sv 24 9 [v0, v1, v2, v3, v4] (.ref 67 :: r) (am_toH σ) 0 0 Q = AW sv 24 12 [v0, v1, v2, v3, v4] (.ref 70 :: r) (am_toH σ) 0 0 Q := e_getR am_h24 dX4_write_9 fl_4_18 is4 rfl
theorem x24_12 : AW sv 24 12 [v0, .int x, v2, v3, v4] r h 0 0 Q = AW sv 24 13 [v0, .int x, v2, v3, v4] (.int x :: r) h 0 0 Q := e_pv am_h24 dX4_write_12 rfl rfl rfl rfl
theorem x24_13 : AW sv 24 13 [v0, v1, v2, v3, v4] r h 0 0 Q = AW sv 24 15 [v0, v1, v2, v3, v4] (.int (16) :: r) h 0 0 Q := e_bipushv am_h24 dX4_write_13 c_bipush_16
theorem x24_15 : AW sv 24 15 [v0, v1, v2, v3, v4] (.int y :: .int x :: r) h 0 0 Q = AW sv 24 16 [v0, v1, v2, v3, v4] (.int (x * y) :: r) h 0 0 Q := e_imul am_h24 dX4_write_15
theorem x24_16 : AW sv 24 16 [v0, v1, .int x, v3, v4] r h 0 0 Q = AW sv 24 17 [v0, v1, .int x, v3, v4] (.int x :: r) h 0 0 Q := e_pv am_h24 dX4_write_16 rfl rfl rfl rfl
theorem x24_17 : AW sv 24 17 [v0, v1, v2, v3, v4] (.int y :: .int x :: r) h 0 0 Q = AW sv 24 18 [v0, v1, v2, v3, v4] (.int (x + y) :: r) h 0 0 Q := e_iadd am_h24 dX4_write_17
theorem x24_18 : AW sv 24 18 [v0, v1, v2, v3, .int x] r h 0 0 Q = AW sv 24 20 [v0, v1, v2, v3, .int x] (.int x :: r) h 0 0 Q := e_pv am_h24 dX4_write_18 rfl rfl rfl rfl
theorem x24_20 : AW sv 24 20 [v0, v1, v2, v3, v4] (.int x :: r) h 0 0 Q = if ¬ x = 0 then AW sv 24 28 [v0, v1, v2, v3, v4] r h 0 0 Q else AW sv 24 23 [v0, v1, v2, v3, v4] r h 0 0 Q := e_z_ne am_h24 dX4_write_20 rfl
theorem x24_23 : AW sv 24 23 [v0, v1, v2, .int x, v4] r h 0 0 Q = AW sv 24 24 [v0, v1, v2, .int x, v4] (.int x :: r) h 0 0 Q := e_pv am_h24 dX4_write_23 rfl rfl rfl rfl
theorem x24_24 : AW sv 24 24 [v0, v1, v2, v3, v4] (.int x :: r) h 0 0 Q = AW sv 24 25 [v0, v1, v2, v3, v4] (.int x.toInt8.toInt32 :: r) h 0 0 Q := e_i2b am_h24 dX4_write_24
theorem x24_25 : AW sv 24 25 [v0, v1, v2, v3, v4] r h 0 0 Q = AW sv 24 40 [v0, v1, v2, v3, v4] r h 0 0 Q := e_goto am_h24 dX4_write_25 rfl
theorem x24_28 : AW sv 24 28 [v0, v1, v2, v3, .int x] r h 0 0 Q = AW sv 24 30 [v0, v1, v2, v3, .int x] (.int x :: r) h 0 0 Q := e_pv am_h24 dX4_write_28 rfl rfl rfl rfl
theorem x24_30 : AW sv 24 30 [v0, v1, v2, v3, v4] r h 0 0 Q = AW sv 24 31 [v0, v1, v2, v3, v4] (.int (1) :: r) h 0 0 Q := e_iconstv am_h24 dX4_write_30 c_iconst_1
theorem x24_31 : AW sv 24 31 [v0, v1, v2, v3, v4] (.int y :: .int x :: r) h 0 0 Q = if ¬ x = y then AW sv 24 39 [v0, v1, v2, v3, v4] r h 0 0 Q else AW sv 24 34 [v0, v1, v2, v3, v4] r h 0 0 Q := e_c_ne am_h24 dX4_write_31 rfl
theorem x24_34 : AW sv 24 34 [v0, v1, v2, .int x, v4] r h 0 0 Q = AW sv 24 35 [v0, v1, v2, .int x, v4] (.int x :: r) h 0 0 Q := e_pv am_h24 dX4_write_34 rfl rfl rfl rfl
theorem x24_35 : AW sv 24 35 [v0, v1, v2, v3, v4] (.int x :: r) h 0 0 Q = AW sv 24 36 [v0, v1, v2, v3, v4] (.int x.toInt16.toInt32 :: r) h 0 0 Q := e_i2s am_h24 dX4_write_35
theorem x24_36 : AW sv 24 36 [v0, v1, v2, v3, v4] r h 0 0 Q = AW sv 24 40 [v0, v1, v2, v3, v4] r h 0 0 Q := e_goto am_h24 dX4_write_36 rfl
theorem x24_39 : AW sv 24 39 [v0, v1, v2, .int x, v4] r h 0 0 Q = AW sv 24 40 [v0, v1, v2, .int x, v4] (.int x :: r) h 0 0 Q := e_pv am_h24 dX4_write_39 rfl rfl rfl rfl
theorem x24_40 (hi : am_in y (am_ln a) = true) : AW sv 24 40 [v0, v1, v2, v3, v4] (.int x :: .int y :: .ref a :: r) (am_toH σ) 0 0 Q = AW sv 24 41 [v0, v1, v2, v3, v4] r (am_toH (am_wr σ a (upd (σ.1 a) y.toNatClampNeg x))) 0 0 Q := e_iast am_h24 dX4_write_40 hi
theorem x24_41 : AW sv 24 41 [v0, v1, v2, v3, v4] [] h 0 0 Q = Q none h := e_vret am_h24 dX4_write_41 rfl ⟨rfl, rfl⟩
theorem n24 : AM sv 24 [.ref a, .int x0, .int x1, .int x2] h Q = AW sv 24 0 [.ref a, .int x0, .int x1, .int x2, .null] [] h 0 0 Q := rfl
theorem x25_0 : AW sv 25 0 [.ref a, v1, v2, v3, v4, v5] r h 0 0 Q = AW sv 25 1 [.ref a, v1, v2, v3, v4, v5] (.ref a :: r) h 0 0 Q := e_pv am_h25 dX4_transfer_0 rfl rfl rfl rfl
theorem x25_1 : AW sv 25 1 [v0, v1, v2, v3, v4, v5] (.ref 67 :: r) (am_toH σ) 0 0 Q = AW sv 25 4 [v0, v1, v2, v3, v4, v5] (.ref 70 :: r) (am_toH σ) 0 0 Q := e_getR am_h25 dX4_transfer_1 fl_4_18 is4 rfl
theorem x25_4 : AW sv 25 4 [v0, .int x, v2, v3, v4, v5] r h 0 0 Q = AW sv 25 5 [v0, .int x, v2, v3, v4, v5] (.int x :: r) h 0 0 Q := e_pv am_h25 dX4_transfer_4 rfl rfl rfl rfl
theorem x25_5 : AW sv 25 5 [v0, v1, v2, v3, v4, v5] r h 0 0 Q = AW sv 25 7 [v0, v1, v2, v3, v4, v5] (.int (16) :: r) h 0 0 Q := e_bipushv am_h25 dX4_transfer_5 c_bipush_16
theorem x25_7 : AW sv 25 7 [v0, v1, v2, v3, v4, v5] (.int y :: .int x :: r) h 0 0 Q = AW sv 25 8 [v0, v1, v2, v3, v4, v5] (.int (x * y) :: r) h 0 0 Q := e_imul am_h25 dX4_transfer_7
theorem x25_8 : AW sv 25 8 [v0, v1, .int x, v3, v4, v5] r h 0 0 Q = AW sv 25 9 [v0, v1, .int x, v3, v4, v5] (.int x :: r) h 0 0 Q := e_pv am_h25 dX4_transfer_8 rfl rfl rfl rfl
theorem x25_9 : AW sv 25 9 [v0, v1, v2, v3, v4, v5] (.int y :: .int x :: r) h 0 0 Q = AW sv 25 10 [v0, v1, v2, v3, v4, v5] (.int (x + y) :: r) h 0 0 Q := e_iadd am_h25 dX4_transfer_9
theorem x25_10 : AW sv 25 10 [.ref a, v1, v2, v3, v4, v5] r h 0 0 Q = AW sv 25 11 [.ref a, v1, v2, v3, v4, v5] (.ref a :: r) h 0 0 Q := e_pv am_h25 dX4_transfer_10 rfl rfl rfl rfl
theorem x25_11 : AW sv 25 11 [v0, v1, v2, v3, v4, v5] (.ref 67 :: r) (am_toH σ) 0 0 Q = AW sv 25 14 [v0, v1, v2, v3, v4, v5] (.ref 70 :: r) (am_toH σ) 0 0 Q := e_getR am_h25 dX4_transfer_11 fl_4_18 is4 rfl
theorem x25_14 : AW sv 25 14 [v0, v1, v2, .int x, v4, v5] r h 0 0 Q = AW sv 25 15 [v0, v1, v2, .int x, v4, v5] (.int x :: r) h 0 0 Q := e_pv am_h25 dX4_transfer_14 rfl rfl rfl rfl
theorem x25_15 : AW sv 25 15 [v0, v1, v2, v3, v4, v5] r h 0 0 Q = AW sv 25 17 [v0, v1, v2, v3, v4, v5] (.int (16) :: r) h 0 0 Q := e_bipushv am_h25 dX4_transfer_15 c_bipush_16
theorem x25_17 : AW sv 25 17 [v0, v1, v2, v3, v4, v5] (.int y :: .int x :: r) h 0 0 Q = AW sv 25 18 [v0, v1, v2, v3, v4, v5] (.int (x * y) :: r) h 0 0 Q := e_imul am_h25 dX4_transfer_17
theorem x25_18 : AW sv 25 18 [v0, v1, v2, v3, .int x, v5] r h 0 0 Q = AW sv 25 20 [v0, v1, v2, v3, .int x, v5] (.int x :: r) h 0 0 Q := e_pv am_h25 dX4_transfer_18 rfl rfl rfl rfl
theorem x25_20 : AW sv 25 20 [v0, v1, v2, v3, v4, v5] (.int y :: .int x :: r) h 0 0 Q = AW sv 25 21 [v0, v1, v2, v3, v4, v5] (.int (x + y) :: r) h 0 0 Q := e_iadd am_h25 dX4_transfer_20
theorem x25_21 : AW sv 25 21 [v0, v1, v2, v3, v4, .int x] r h 0 0 Q = AW sv 25 23 [v0, v1, v2, v3, v4, .int x] (.int x :: r) h 0 0 Q := e_pv am_h25 dX4_transfer_21 rfl rfl rfl rfl
theorem x25_23 (h8 : am_cs r ≤ 8) (ha : 0 < am_ln a) (hb : 0 < am_ln b) (hc : (0 ≤ x.toInt ∧ 0 ≤ y.toInt ∧ 0 ≤ n.toInt) ∧ x.toNatClampNeg + n.toNatClampNeg ≤ am_ln a ∧ y.toNatClampNeg + n.toNatClampNeg ≤ am_ln b) : AW sv 25 23 [v0, v1, v2, v3, v4, v5] (.int n :: .int y :: .ref b :: .int x :: .ref a :: r) (am_toH σ) 0 0 Q = AW sv 25 26 [v0, v1, v2, v3, v4, v5] r (am_toH (am_wr σ b (va_cpy (σ.1 a) (σ.1 b) x.toNatClampNeg y.toNatClampNeg n.toNatClampNeg))) 0 0 Q := e_cpy am_h25 dX4_transfer_23 ml_4_25 (am_rj18 (by decide) h8) ha hb hc
theorem x25_26 : AW sv 25 26 [v0, v1, v2, v3, v4, v5] [] h 0 0 Q = Q none h := e_vret am_h25 dX4_transfer_26 rfl ⟨rfl, rfl⟩
theorem n25 : AM sv 25 [.ref a, .int x0, .int x1, .int x2, .int x3, .int x4] h Q = AW sv 25 0 [.ref a, .int x0, .int x1, .int x2, .int x3, .int x4] [] h 0 0 Q := rfl
theorem x26_0 : AW sv 26 0 [v0, v1, v2, v3, v4, v5, v6] r h 0 0 Q = AW sv 26 1 [v0, v1, v2, v3, v4, v5, v6] (.int (0) :: r) h 0 0 Q := e_iconstv am_h26 dX4_placesAmong_0 c_iconst_0
theorem x26_1 (hc : v3.category = 1) : AW sv 26 1 [v0, v1, v2, v3, v4, v5, v6] (.int x :: r) h 0 0 Q = AW sv 26 3 [v0, v1, v2, v3, .int x, v5, v6] r h 0 0 Q := e_pv am_h26 dX4_placesAmong_1 rfl rfl rfl (am_sti_of (Nat.le_of_ble_eq_true rfl) (am_c1_of rfl hc))
theorem x26_3 : AW sv 26 3 [v0, v1, .int x, v3, v4, v5, v6] r h 0 0 Q = AW sv 26 4 [v0, v1, .int x, v3, v4, v5, v6] (.int x :: r) h 0 0 Q := e_pv am_h26 dX4_placesAmong_3 rfl rfl rfl rfl
theorem x26_4 (hc : v4.category = 1) : AW sv 26 4 [v0, v1, v2, v3, v4, v5, v6] (.int x :: r) h 0 0 Q = AW sv 26 6 [v0, v1, v2, v3, v4, .int x, v6] r h 0 0 Q := e_pv am_h26 dX4_placesAmong_4 rfl rfl rfl (am_sti_of (Nat.le_of_ble_eq_true rfl) (am_c1_of rfl hc))
theorem x26_6 : AW sv 26 6 [v0, v1, v2, v3, v4, .int x, v6] r h 0 0 Q = AW sv 26 8 [v0, v1, v2, v3, v4, .int x, v6] (.int x :: r) h 0 0 Q := e_pv am_h26 dX4_placesAmong_6 rfl rfl rfl rfl
theorem x26_8 : AW sv 26 8 [v0, v1, .int x, v3, v4, v5, v6] r h 0 0 Q = AW sv 26 9 [v0, v1, .int x, v3, v4, v5, v6] (.int x :: r) h 0 0 Q := e_pv am_h26 dX4_placesAmong_8 rfl rfl rfl rfl
theorem x26_9 : AW sv 26 9 [v0, v1, v2, .int x, v4, v5, v6] r h 0 0 Q = AW sv 26 10 [v0, v1, v2, .int x, v4, v5, v6] (.int x :: r) h 0 0 Q := e_pv am_h26 dX4_placesAmong_9 rfl rfl rfl rfl
theorem x26_10 : AW sv 26 10 [v0, v1, v2, v3, v4, v5, v6] (.int y :: .int x :: r) h 0 0 Q = AW sv 26 11 [v0, v1, v2, v3, v4, v5, v6] (.int (x + y) :: r) h 0 0 Q := e_iadd am_h26 dX4_placesAmong_10
theorem x26_11 : AW sv 26 11 [v0, v1, v2, v3, v4, v5, v6] (.int y :: .int x :: r) h 0 0 Q = if y ≤ x then AW sv 26 55 [v0, v1, v2, v3, v4, v5, v6] r h 0 0 Q else AW sv 26 14 [v0, v1, v2, v3, v4, v5, v6] r h 0 0 Q := e_c_ge am_h26 dX4_placesAmong_11 rfl
theorem x26_14 : AW sv 26 14 [.ref a, v1, v2, v3, v4, v5, v6] r h 0 0 Q = AW sv 26 15 [.ref a, v1, v2, v3, v4, v5, v6] (.ref a :: r) h 0 0 Q := e_pv am_h26 dX4_placesAmong_14 rfl rfl rfl rfl
theorem x26_15 : AW sv 26 15 [v0, .int x, v2, v3, v4, v5, v6] r h 0 0 Q = AW sv 26 16 [v0, .int x, v2, v3, v4, v5, v6] (.int x :: r) h 0 0 Q := e_pv am_h26 dX4_placesAmong_15 rfl rfl rfl rfl
theorem x26_16 : AW sv 26 16 [v0, v1, v2, v3, v4, .int x, v6] r h 0 0 Q = AW sv 26 18 [v0, v1, v2, v3, v4, .int x, v6] (.int x :: r) h 0 0 Q := e_pv am_h26 dX4_placesAmong_16 rfl rfl rfl rfl
theorem x26_18 (h8 : am_cs r ≤ 8) : AW sv 26 18 [v0, v1, v2, v3, v4, v5, v6] (.int x1 :: .int x0 :: .ref 67 :: r) (am_toH σ) 0 0 Q = AM sv 23 [.ref 67, .int x0, .int x1] (am_toH σ) (fun v h1 => AW sv 26 21 [v0, v1, v2, v3, v4, v5, v6] (v.toList ++ r) h1 0 0 Q) := e_cV (as := [.int x0, .int x1]) am_h26 dX4_placesAmong_18 ml_4_31 (by decide) am_h23 rfl is4 rfl rfl ⟨by decide, Nat.le_of_ble_eq_true rfl, am_rc_of (by decide) h8⟩
theorem x26_21 (hc : v5.category = 1) : AW sv 26 21 [v0, v1, v2, v3, v4, v5, v6] (.int x :: r) h 0 0 Q = AW sv 26 23 [v0, v1, v2, v3, v4, v5, .int x] r h 0 0 Q := e_pv am_h26 dX4_placesAmong_21 rfl rfl rfl (am_sti_of (Nat.le_of_ble_eq_true rfl) (am_c1_of rfl hc))
theorem x26_23 : AW sv 26 23 [v0, v1, v2, v3, v4, v5, .int x] r h 0 0 Q = AW sv 26 25 [v0, v1, v2, v3, v4, v5, .int x] (.int x :: r) h 0 0 Q := e_pv am_h26 dX4_placesAmong_23 rfl rfl rfl rfl
theorem x26_25 : AW sv 26 25 [v0, v1, v2, v3, v4, v5, v6] r h 0 0 Q = AW sv 26 26 [v0, v1, v2, v3, v4, v5, v6] (.int (-1) :: r) h 0 0 Q := e_iconstv am_h26 dX4_placesAmong_25 c_iconst_m1
theorem x26_26 : AW sv 26 26 [v0, v1, v2, v3, v4, v5, v6] (.int y :: .int x :: r) h 0 0 Q = if x = y then AW sv 26 40 [v0, v1, v2, v3, v4, v5, v6] r h 0 0 Q else AW sv 26 29 [v0, v1, v2, v3, v4, v5, v6] r h 0 0 Q := e_c_eq am_h26 dX4_placesAmong_26 rfl
theorem x26_29 : AW sv 26 29 [v0, v1, v2, v3, v4, v5, .int x] r h 0 0 Q = AW sv 26 31 [v0, v1, v2, v3, v4, v5, .int x] (.int x :: r) h 0 0 Q := e_pv am_h26 dX4_placesAmong_29 rfl rfl rfl rfl
theorem x26_31 : AW sv 26 31 [v0, v1, v2, v3, v4, v5, v6] r h 0 0 Q = AW sv 26 32 [v0, v1, v2, v3, v4, v5, v6] (.int (4) :: r) h 0 0 Q := e_iconstv am_h26 dX4_placesAmong_31 c_iconst_4
theorem x26_32 (h8 : am_cs r ≤ 8) : AW sv 26 32 [v0, v1, v2, v3, v4, v5, v6] (.int x1 :: .int x0 :: r) h 0 0 Q = AM sv 97 [.int x0, .int x1] h (fun v h1 => AW sv 26 35 [v0, v1, v2, v3, v4, v5, v6] (v.toList ++ r) h1 0 0 Q) := e_cS (as := [.int x0, .int x1]) am_h26 dX4_placesAmong_32 ml_4_35 (by decide) am_h97 rfl rfl rfl ⟨by decide, Nat.le_of_ble_eq_true rfl, am_rc_of (by decide) h8⟩
theorem x26_35 : AW sv 26 35 [v0, v1, v2, v3, v4, v5, v6] (.int x :: r) h 0 0 Q = if ¬ x = 0 then AW sv 26 40 [v0, v1, v2, v3, v4, v5, v6] r h 0 0 Q else AW sv 26 38 [v0, v1, v2, v3, v4, v5, v6] r h 0 0 Q := e_z_ne am_h26 dX4_placesAmong_35 rfl
theorem x26_38 : AW sv 26 38 [v0, v1, v2, v3, v4, v5, v6] r h 0 0 Q = AW sv 26 39 [v0, v1, v2, v3, v4, v5, v6] (.int (-1) :: r) h 0 0 Q := e_iconstv am_h26 dX4_placesAmong_38 c_iconst_m1
theorem x26_39 : AW sv 26 39 [v0, v1, v2, v3, v4, v5, v6] [.int x] h 0 0 Q = Q (some (.int x)) h := e_iret am_h26 dX4_placesAmong_39 rfl ⟨rfl, rfl⟩
theorem x26_40 : AW sv 26 40 [v0, v1, v2, v3, v4, v5, .int x] r h 0 0 Q = AW sv 26 42 [v0, v1, v2, v3, v4, v5, .int x] (.int x :: r) h 0 0 Q := e_pv am_h26 dX4_placesAmong_40 rfl rfl rfl rfl
theorem x26_42 : AW sv 26 42 [v0, v1, v2, v3, v4, v5, v6] r h 0 0 Q = AW sv 26 43 [v0, v1, v2, v3, v4, v5, v6] (.int (-1) :: r) h 0 0 Q := e_iconstv am_h26 dX4_placesAmong_42 c_iconst_m1
theorem x26_43 : AW sv 26 43 [v0, v1, v2, v3, v4, v5, v6] (.int y :: .int x :: r) h 0 0 Q = if x = y then AW sv 26 49 [v0, v1, v2, v3, v4, v5, v6] r h 0 0 Q else AW sv 26 46 [v0, v1, v2, v3, v4, v5, v6] r h 0 0 Q := e_c_eq am_h26 dX4_placesAmong_43 rfl
theorem x26_46 (hc : v3.category = 1) : AW sv 26 46 [v0, v1, v2, v3, .int x, v5, v6] r h 0 0 Q = AW sv 26 49 [v0, v1, v2, v3, .int (x + (1)), v5, v6] r h 0 0 Q := e_pv am_h26 dX4_placesAmong_46 rfl rfl rfl (am_inc_of (ls := [v0, v1, v2, v3, .int x, v5, v6]) (k := 4) rfl c_iconst_1 (am_c1_of (ls := [v0, v1, v2, v3, .int x, v5, v6]) (k := 3) (v := v3) rfl hc))
theorem x26_49 (hc : v4.category = 1) : AW sv 26 49 [v0, v1, v2, v3, v4, .int x, v6] r h 0 0 Q = AW sv 26 52 [v0, v1, v2, v3, v4, .int (x + (1)), v6] r h 0 0 Q := e_pv am_h26 dX4_placesAmong_49 rfl rfl rfl (am_inc_of (ls := [v0, v1, v2, v3, v4, .int x, v6]) (k := 5) rfl c_iconst_1 (am_c1_of (ls := [v0, v1, v2, v3, v4, .int x, v6]) (k := 4) (v := v4) rfl hc))
theorem x26_52 : AW sv 26 52 [v0, v1, v2, v3, v4, v5, v6] r h 0 0 Q = AW sv 26 6 [v0, v1, v2, v3, v4, v5, v6] r h 0 0 Q := e_goto am_h26 dX4_placesAmong_52 rfl
theorem x26_55 : AW sv 26 55 [v0, v1, v2, v3, .int x, v5, v6] r h 0 0 Q = AW sv 26 57 [v0, v1, v2, v3, .int x, v5, v6] (.int x :: r) h 0 0 Q := e_pv am_h26 dX4_placesAmong_55 rfl rfl rfl rfl
theorem x26_57 : AW sv 26 57 [v0, v1, v2, v3, v4, v5, v6] [.int x] h 0 0 Q = Q (some (.int x)) h := e_iret am_h26 dX4_placesAmong_57 rfl ⟨rfl, rfl⟩
theorem n26 : AM sv 26 [.ref a, .int x0, .int x1, .int x2] h Q = AW sv 26 0 [.ref a, .int x0, .int x1, .int x2, .null, .null, .null] [] h 0 0 Q := rfl
theorem x38_0 : AW sv 38 0 [v0, v1, v2, v3, v4] r h 0 0 Q = AW sv 38 1 [v0, v1, v2, v3, v4] (.int (0) :: r) h 0 0 Q := e_iconstv am_h38 dX6_isWritable_0 c_iconst_0
theorem x38_1 (hc : v2.category = 1) : AW sv 38 1 [v0, v1, v2, v3, v4] (.int x :: r) h 0 0 Q = AW sv 38 2 [v0, v1, v2, .int x, v4] r h 0 0 Q := e_pv am_h38 dX6_isWritable_1 rfl rfl rfl (am_sti_of (Nat.le_of_ble_eq_true rfl) (am_c1_of rfl hc))
theorem x38_2 : AW sv 38 2 [v0, v1, v2, .int x, v4] r h 0 0 Q = AW sv 38 3 [v0, v1, v2, .int x, v4] (.int x :: r) h 0 0 Q := e_pv am_h38 dX6_isWritable_2 rfl rfl rfl rfl
theorem x38_3 : AW sv 38 3 [v0, v1, .int x, v3, v4] r h 0 0 Q = AW sv 38 4 [v0, v1, .int x, v3, v4] (.int x :: r) h 0 0 Q := e_pv am_h38 dX6_isWritable_3 rfl rfl rfl rfl
theorem x38_4 : AW sv 38 4 [v0, v1, v2, v3, v4] (.int y :: .int x :: r) h 0 0 Q = if y ≤ x then AW sv 38 36 [v0, v1, v2, v3, v4] r h 0 0 Q else AW sv 38 7 [v0, v1, v2, v3, v4] r h 0 0 Q := e_c_ge am_h38 dX6_isWritable_4 rfl
theorem x38_7 : AW sv 38 7 [.long u, v1, v2, v3, v4] r h 0 0 Q = AW sv 38 8 [.long u, v1, v2, v3, v4] (.long u :: r) h 0 0 Q := e_pv am_h38 dX6_isWritable_7 rfl rfl rfl rfl
theorem x38_8 : AW sv 38 8 [v0, v1, v2, .int x, v4] r h 0 0 Q = AW sv 38 9 [v0, v1, v2, .int x, v4] (.int x :: r) h 0 0 Q := e_pv am_h38 dX6_isWritable_8 rfl rfl rfl rfl
theorem x38_9 (h8 : am_cs r ≤ 8) : AW sv 38 9 [v0, v1, v2, v3, v4] (.int x1 :: .long u0 :: r) h 0 0 Q = AM sv 39 [.long u0, .int x1] h (fun v h1 => AW sv 38 12 [v0, v1, v2, v3, v4] (v.toList ++ r) h1 0 0 Q) := e_cS (as := [.long u0, .int x1]) am_h38 dX6_isWritable_9 ml_6_15 (by decide) am_h39 rfl rfl rfl ⟨by decide, Nat.le_of_ble_eq_true rfl, am_rc_of (by decide) h8⟩
theorem x38_12 (hc : v3.category = 1) : AW sv 38 12 [v0, v1, v2, v3, v4] (.int x :: r) h 0 0 Q = AW sv 38 14 [v0, v1, v2, v3, .int x] r h 0 0 Q := e_pv am_h38 dX6_isWritable_12 rfl rfl rfl (am_sti_of (Nat.le_of_ble_eq_true rfl) (am_c1_of rfl hc))
theorem x38_14 : AW sv 38 14 [v0, v1, v2, v3, .int x] r h 0 0 Q = AW sv 38 16 [v0, v1, v2, v3, .int x] (.int x :: r) h 0 0 Q := e_pv am_h38 dX6_isWritable_14 rfl rfl rfl rfl
theorem x38_16 : AW sv 38 16 [v0, v1, v2, v3, v4] r h 0 0 Q = AW sv 38 18 [v0, v1, v2, v3, v4] (.int (32) :: r) h 0 0 Q := e_bipushv am_h38 dX6_isWritable_16 c_bipush_32
theorem x38_18 : AW sv 38 18 [v0, v1, v2, v3, v4] (.int y :: .int x :: r) h 0 0 Q = if x < y then AW sv 38 28 [v0, v1, v2, v3, v4] r h 0 0 Q else AW sv 38 21 [v0, v1, v2, v3, v4] r h 0 0 Q := e_c_lt am_h38 dX6_isWritable_18 rfl
theorem x38_21 : AW sv 38 21 [v0, v1, v2, v3, .int x] r h 0 0 Q = AW sv 38 23 [v0, v1, v2, v3, .int x] (.int x :: r) h 0 0 Q := e_pv am_h38 dX6_isWritable_21 rfl rfl rfl rfl
theorem x38_23 : AW sv 38 23 [v0, v1, v2, v3, v4] r h 0 0 Q = AW sv 38 25 [v0, v1, v2, v3, v4] (.int (126) :: r) h 0 0 Q := e_bipushv am_h38 dX6_isWritable_23 c_bipush_126
theorem x38_25 : AW sv 38 25 [v0, v1, v2, v3, v4] (.int y :: .int x :: r) h 0 0 Q = if x ≤ y then AW sv 38 30 [v0, v1, v2, v3, v4] r h 0 0 Q else AW sv 38 28 [v0, v1, v2, v3, v4] r h 0 0 Q := e_c_le am_h38 dX6_isWritable_25 rfl
theorem x38_28 : AW sv 38 28 [v0, v1, v2, v3, v4] r h 0 0 Q = AW sv 38 29 [v0, v1, v2, v3, v4] (.int (0) :: r) h 0 0 Q := e_iconstv am_h38 dX6_isWritable_28 c_iconst_0
theorem x38_29 (hz : x = 0 ∨ x = 1) : AW sv 38 29 [v0, v1, v2, v3, v4] [.int x] h 0 0 Q = Q (some (.int x)) h := e_zret am_h38 dX6_isWritable_29 rfl ⟨rfl, rfl⟩ hz
theorem x38_30 (hc : v2.category = 1) : AW sv 38 30 [v0, v1, v2, .int x, v4] r h 0 0 Q = AW sv 38 33 [v0, v1, v2, .int (x + (1)), v4] r h 0 0 Q := e_pv am_h38 dX6_isWritable_30 rfl rfl rfl (am_inc_of (ls := [v0, v1, v2, .int x, v4]) (k := 3) rfl c_iconst_1 (am_c1_of (ls := [v0, v1, v2, .int x, v4]) (k := 2) (v := v2) rfl hc))
theorem x38_33 : AW sv 38 33 [v0, v1, v2, v3, v4] r h 0 0 Q = AW sv 38 2 [v0, v1, v2, v3, v4] r h 0 0 Q := e_goto am_h38 dX6_isWritable_33 rfl
theorem x38_36 : AW sv 38 36 [v0, v1, v2, v3, v4] r h 0 0 Q = AW sv 38 37 [v0, v1, v2, v3, v4] (.int (1) :: r) h 0 0 Q := e_iconstv am_h38 dX6_isWritable_36 c_iconst_1
theorem x38_37 (hz : x = 0 ∨ x = 1) : AW sv 38 37 [v0, v1, v2, v3, v4] [.int x] h 0 0 Q = Q (some (.int x)) h := e_zret am_h38 dX6_isWritable_37 rfl ⟨rfl, rfl⟩ hz
theorem n38 : AM sv 38 [.long u0, .int x1] h Q = AW sv 38 0 [.long u0, .null, .int x1, .null, .null] [] h 0 0 Q := rfl
theorem x39_0 : AW sv 39 0 [.long u, v1, v2] r h 0 0 Q = AW sv 39 1 [.long u, v1, v2] (.long u :: r) h 0 0 Q := e_pv am_h39 dX6_byteOf_0 rfl rfl rfl rfl
theorem x39_1 : AW sv 39 1 [v0, v1, v2] r h 0 0 Q = AW sv 39 3 [v0, v1, v2] (.int (8) :: r) h 0 0 Q := e_bipushv am_h39 dX6_byteOf_1 c_bipush_8
theorem x39_3 : AW sv 39 3 [v0, v1, .int x] r h 0 0 Q = AW sv 39 4 [v0, v1, .int x] (.int x :: r) h 0 0 Q := e_pv am_h39 dX6_byteOf_3 rfl rfl rfl rfl
theorem x39_4 : AW sv 39 4 [v0, v1, v2] (.int y :: .int x :: r) h 0 0 Q = AW sv 39 5 [v0, v1, v2] (.int (x * y) :: r) h 0 0 Q := e_imul am_h39 dX6_byteOf_4
theorem x39_5 : AW sv 39 5 [v0, v1, v2] (.int y :: .long u :: r) h 0 0 Q = AW sv 39 6 [v0, v1, v2] (.long (u >>> (y.toInt64 &&& 63)) :: r) h 0 0 Q := e_lshr am_h39 dX6_byteOf_5
theorem x39_6 : AW sv 39 6 [v0, v1, v2] r h 0 0 Q = AW sv 39 9 [v0, v1, v2] (.long (255) :: r) h 0 0 Q := e_ldc2 am_h39 dX6_byteOf_6 (by decide +kernel)
theorem x39_9 : AW sv 39 9 [v0, v1, v2] (.long w :: .long u :: r) h 0 0 Q = AW sv 39 10 [v0, v1, v2] (.long (u &&& w) :: r) h 0 0 Q := e_land am_h39 dX6_byteOf_9
theorem x39_10 : AW sv 39 10 [v0, v1, v2] (.long u :: r) h 0 0 Q = AW sv 39 11 [v0, v1, v2] (.int u.toInt32 :: r) h 0 0 Q := e_l2i am_h39 dX6_byteOf_10
theorem x39_11 : AW sv 39 11 [v0, v1, v2] [.int x] h 0 0 Q = Q (some (.int x)) h := e_iret am_h39 dX6_byteOf_11 rfl ⟨rfl, rfl⟩
theorem n39 : AM sv 39 [.long u0, .int x1] h Q = AW sv 39 0 [.long u0, .null, .int x1] [] h 0 0 Q := rfl
theorem x40_0 : AW sv 40 0 [v0, v1, v2, .int x, v4] r h 0 0 Q = AW sv 40 1 [v0, v1, v2, .int x, v4] (.int x :: r) h 0 0 Q := e_pv am_h40 dX6_write_0 rfl rfl rfl rfl
theorem x40_1 : AW sv 40 1 [v0, v1, v2, v3, v4] r h 0 0 Q = AW sv 40 2 [v0, v1, v2, v3, v4] (.int (1) :: r) h 0 0 Q := e_iconstv am_h40 dX6_write_1 c_iconst_1
theorem x40_2 : AW sv 40 2 [v0, v1, v2, v3, v4] (.int y :: .int x :: r) h 0 0 Q = AW sv 40 3 [v0, v1, v2, v3, v4] (.int (x - y) :: r) h 0 0 Q := e_isub am_h40 dX6_write_2
theorem x40_3 (hc : v3.category = 1) : AW sv 40 3 [v0, v1, v2, v3, v4] (.int x :: r) h 0 0 Q = AW sv 40 5 [v0, v1, v2, v3, .int x] r h 0 0 Q := e_pv am_h40 dX6_write_3 rfl rfl rfl (am_sti_of (Nat.le_of_ble_eq_true rfl) (am_c1_of rfl hc))
theorem x40_5 : AW sv 40 5 [v0, v1, v2, v3, .int x] r h 0 0 Q = AW sv 40 7 [v0, v1, v2, v3, .int x] (.int x :: r) h 0 0 Q := e_pv am_h40 dX6_write_5 rfl rfl rfl rfl
theorem x40_7 : AW sv 40 7 [v0, v1, v2, v3, v4] (.int x :: r) h 0 0 Q = if x < 0 then AW sv 40 50 [v0, v1, v2, v3, v4] r h 0 0 Q else AW sv 40 10 [v0, v1, v2, v3, v4] r h 0 0 Q := e_z_lt am_h40 dX6_write_7 rfl
theorem x40_10 : AW sv 40 10 [.ref a, v1, v2, v3, v4] r h 0 0 Q = AW sv 40 11 [.ref a, v1, v2, v3, v4] (.ref a :: r) h 0 0 Q := e_pv am_h40 dX6_write_10 rfl rfl rfl rfl
theorem x40_11 : AW sv 40 11 [v0, v1, v2, v3, v4] (.ref 65 :: r) (am_toH σ) 0 0 Q = AW sv 40 14 [v0, v1, v2, v3, v4] (.int (σ.1 65 1) :: r) (am_toH σ) 0 0 Q := e_getI am_h40 dX6_write_11 fl_6_21 is6 rfl
theorem x40_14 : AW sv 40 14 [v0, v1, v2, v3, v4] r h 0 0 Q = AW sv 40 16 [v0, v1, v2, v3, v4] (.int (100) :: r) h 0 0 Q := e_bipushv am_h40 dX6_write_14 c_bipush_100
theorem x40_16 : AW sv 40 16 [v0, v1, v2, v3, v4] (.int y :: .int x :: r) h 0 0 Q = if y ≤ x then AW sv 40 50 [v0, v1, v2, v3, v4] r h 0 0 Q else AW sv 40 19 [v0, v1, v2, v3, v4] r h 0 0 Q := e_c_ge am_h40 dX6_write_16 rfl
theorem x40_19 : AW sv 40 19 [.ref a, v1, v2, v3, v4] r h 0 0 Q = AW sv 40 20 [.ref a, v1, v2, v3, v4] (.ref a :: r) h 0 0 Q := e_pv am_h40 dX6_write_19 rfl rfl rfl rfl
theorem x40_20 : AW sv 40 20 [v0, v1, v2, v3, v4] (.ref 65 :: r) (am_toH σ) 0 0 Q = AW sv 40 23 [v0, v1, v2, v3, v4] (.ref 66 :: r) (am_toH σ) 0 0 Q := e_getR am_h40 dX6_write_20 fl_6_9 is6 rfl
theorem x40_23 : AW sv 40 23 [.ref a, v1, v2, v3, v4] r h 0 0 Q = AW sv 40 24 [.ref a, v1, v2, v3, v4] (.ref a :: r) h 0 0 Q := e_pv am_h40 dX6_write_23 rfl rfl rfl rfl
theorem x40_24 : AW sv 40 24 [v0, v1, v2, v3, v4] (.ref 65 :: r) (am_toH σ) 0 0 Q = AW sv 40 27 [v0, v1, v2, v3, v4] (.int (σ.1 65 1) :: r) (am_toH σ) 0 0 Q := e_getI am_h40 dX6_write_24 fl_6_21 is6 rfl
theorem x40_27 : AW sv 40 27 [v0, .long u, v2, v3, v4] r h 0 0 Q = AW sv 40 28 [v0, .long u, v2, v3, v4] (.long u :: r) h 0 0 Q := e_pv am_h40 dX6_write_27 rfl rfl rfl rfl
theorem x40_28 : AW sv 40 28 [v0, v1, v2, v3, .int x] r h 0 0 Q = AW sv 40 30 [v0, v1, v2, v3, .int x] (.int x :: r) h 0 0 Q := e_pv am_h40 dX6_write_28 rfl rfl rfl rfl
theorem x40_30 (h8 : am_cs r ≤ 8) : AW sv 40 30 [v0, v1, v2, v3, v4] (.int x1 :: .long u0 :: r) h 0 0 Q = AM sv 39 [.long u0, .int x1] h (fun v h1 => AW sv 40 33 [v0, v1, v2, v3, v4] (v.toList ++ r) h1 0 0 Q) := e_cS (as := [.long u0, .int x1]) am_h40 dX6_write_30 ml_6_15 (by decide) am_h39 rfl rfl rfl ⟨by decide, Nat.le_of_ble_eq_true rfl, am_rc_of (by decide) h8⟩
theorem x40_33 (hi : am_in y (am_ln a) = true) : AW sv 40 33 [v0, v1, v2, v3, v4] (.int x :: .int y :: .ref a :: r) (am_toH σ) 0 0 Q = AW sv 40 34 [v0, v1, v2, v3, v4] r (am_toH (am_wr σ a (upd (σ.1 a) y.toNatClampNeg x))) 0 0 Q := e_iast am_h40 dX6_write_33 hi
theorem x40_34 : AW sv 40 34 [.ref a, v1, v2, v3, v4] r h 0 0 Q = AW sv 40 35 [.ref a, v1, v2, v3, v4] (.ref a :: r) h 0 0 Q := e_pv am_h40 dX6_write_34 rfl rfl rfl rfl
theorem x40_35 (hc : v.category = 1) : AW sv 40 35 [v0, v1, v2, v3, v4] (v :: r) h 0 0 Q = AW sv 40 36 [v0, v1, v2, v3, v4] (v :: v :: r) h 0 0 Q := e_dup am_h40 dX6_write_35 hc
theorem x40_36 : AW sv 40 36 [v0, v1, v2, v3, v4] (.ref 65 :: r) (am_toH σ) 0 0 Q = AW sv 40 39 [v0, v1, v2, v3, v4] (.int (σ.1 65 1) :: r) (am_toH σ) 0 0 Q := e_getI am_h40 dX6_write_36 fl_6_21 is6 rfl
theorem x40_39 : AW sv 40 39 [v0, v1, v2, v3, v4] r h 0 0 Q = AW sv 40 40 [v0, v1, v2, v3, v4] (.int (1) :: r) h 0 0 Q := e_iconstv am_h40 dX6_write_39 c_iconst_1
theorem x40_40 : AW sv 40 40 [v0, v1, v2, v3, v4] (.int y :: .int x :: r) h 0 0 Q = AW sv 40 41 [v0, v1, v2, v3, v4] (.int (x + y) :: r) h 0 0 Q := e_iadd am_h40 dX6_write_40
theorem x40_41 : AW sv 40 41 [v0, v1, v2, v3, v4] (.int x :: .ref 65 :: r) (am_toH σ) 0 0 Q = AW sv 40 44 [v0, v1, v2, v3, v4] r (am_toH (am_wr σ 65 (upd (σ.1 65) 1 x))) 0 0 Q := e_putI am_h40 dX6_write_41 fl_6_21 is6 rfl rfl rfl
theorem x40_44 (hc : v3.category = 1) : AW sv 40 44 [v0, v1, v2, v3, .int x] r h 0 0 Q = AW sv 40 47 [v0, v1, v2, v3, .int (x + (-1))] r h 0 0 Q := e_pv am_h40 dX6_write_44 rfl rfl rfl (am_inc_of (ls := [v0, v1, v2, v3, .int x]) (k := 4) rfl c_iconst_m1 (am_c1_of (ls := [v0, v1, v2, v3, .int x]) (k := 3) (v := v3) rfl hc))
theorem x40_47 : AW sv 40 47 [v0, v1, v2, v3, v4] r h 0 0 Q = AW sv 40 5 [v0, v1, v2, v3, v4] r h 0 0 Q := e_goto am_h40 dX6_write_47 rfl
theorem x40_50 : AW sv 40 50 [v0, v1, v2, v3, v4] [] h 0 0 Q = Q none h := e_vret am_h40 dX6_write_50 rfl ⟨rfl, rfl⟩
theorem n40 : AM sv 40 [.ref a, .long u0, .int x1] h Q = AW sv 40 0 [.ref a, .long u0, .null, .int x1, .null] [] h 0 0 Q := rfl
theorem x41_0 : AW sv 41 0 [.ref a, v1, v2] r h 0 0 Q = AW sv 41 1 [.ref a, v1, v2] (.ref a :: r) h 0 0 Q := e_pv am_h41 dX6_readRoutine_0 rfl rfl rfl rfl
theorem x41_1 (h8 : am_cs r ≤ 8) : AW sv 41 1 [v0, v1, v2] (.ref 65 :: r) (am_toH σ) 0 0 Q = AM sv 43 [.ref 65] (am_toH σ) (fun v h1 => AW sv 41 4 [v0, v1, v2] (v.toList ++ r) h1 0 0 Q) := e_cV (as := []) am_h41 dX6_readRoutine_1 ml_6_25 (by decide) am_h43 rfl is6 rfl rfl ⟨by decide, Nat.le_of_ble_eq_true rfl, am_rc_of (by decide) h8⟩
theorem x41_4 : AW sv 41 4 [v0, v1, v2] r h 0 0 Q = AW sv 41 5 [v0, v1, v2] (.int (0) :: r) h 0 0 Q := e_iconstv am_h41 dX6_readRoutine_4 c_iconst_0
theorem x41_5 (hc : v1.category = 1) : AW sv 41 5 [v0, v1, v2] (.int x :: r) h 0 0 Q = AW sv 41 6 [v0, v1, .int x] r h 0 0 Q := e_pv am_h41 dX6_readRoutine_5 rfl rfl rfl (am_sti_of (Nat.le_of_ble_eq_true rfl) (am_c1_of rfl hc))
theorem x41_6 : AW sv 41 6 [.ref a, v1, v2] r h 0 0 Q = AW sv 41 7 [.ref a, v1, v2] (.ref a :: r) h 0 0 Q := e_pv am_h41 dX6_readRoutine_6 rfl rfl rfl rfl
theorem x41_7 : AW sv 41 7 [v0, .ref a, v2] r h 0 0 Q = AW sv 41 8 [v0, .ref a, v2] (.ref a :: r) h 0 0 Q := e_pv am_h41 dX6_readRoutine_7 rfl rfl rfl rfl
theorem x41_8 (h8 : am_cs r ≤ 8) : AW sv 41 8 [v0, v1, v2] (.ref b0 :: .ref 65 :: r) (am_toH σ) 0 0 Q = AM sv 45 [.ref 65, .ref b0] (am_toH σ) (fun v h1 => AW sv 41 11 [v0, v1, v2] (v.toList ++ r) h1 0 0 Q) := e_cV (as := [.ref b0]) am_h41 dX6_readRoutine_8 ml_6_28 (by decide) am_h45 rfl is6 rfl rfl ⟨by decide, Nat.le_of_ble_eq_true rfl, am_rc_of (by decide) h8⟩
theorem x41_11 (hc : v1.category = 1) : AW sv 41 11 [v0, v1, .int x] r h 0 0 Q = AW sv 41 14 [v0, v1, .int (x + (1))] r h 0 0 Q := e_pv am_h41 dX6_readRoutine_11 rfl rfl rfl (am_inc_of (ls := [v0, v1, .int x]) (k := 2) rfl c_iconst_1 (am_c1_of (ls := [v0, v1, .int x]) (k := 1) (v := v1) rfl hc))
theorem x41_14 : AW sv 41 14 [v0, v1, .int x] r h 0 0 Q = AW sv 41 15 [v0, v1, .int x] (.int x :: r) h 0 0 Q := e_pv am_h41 dX6_readRoutine_14 rfl rfl rfl rfl
theorem x41_15 : AW sv 41 15 [v0, v1, v2] r h 0 0 Q = AW sv 41 17 [v0, v1, v2] (.int (8) :: r) h 0 0 Q := e_bipushv am_h41 dX6_readRoutine_15 c_bipush_8
theorem x41_17 : AW sv 41 17 [v0, v1, v2] (.int y :: .int x :: r) h 0 0 Q = if y ≤ x then AW sv 41 29 [v0, v1, v2] r h 0 0 Q else AW sv 41 20 [v0, v1, v2] r h 0 0 Q := e_c_ge am_h41 dX6_readRoutine_17 rfl
theorem x41_20 : AW sv 41 20 [.ref a, v1, v2] r h 0 0 Q = AW sv 41 21 [.ref a, v1, v2] (.ref a :: r) h 0 0 Q := e_pv am_h41 dX6_readRoutine_20 rfl rfl rfl rfl
theorem x41_21 : AW sv 41 21 [v0, v1, v2] r h 0 0 Q = AW sv 41 23 [v0, v1, v2] (.int (59) :: r) h 0 0 Q := e_bipushv am_h41 dX6_readRoutine_21 c_bipush_59
theorem x41_23 (h8 : am_cs r ≤ 8) : AW sv 41 23 [v0, v1, v2] (.int x0 :: .ref 65 :: r) (am_toH σ) 0 0 Q = AM sv 49 [.ref 65, .int x0] (am_toH σ) (fun v h1 => AW sv 41 26 [v0, v1, v2] (v.toList ++ r) h1 0 0 Q) := e_cV (as := [.int x0]) am_h41 dX6_readRoutine_23 ml_6_32 (by decide) am_h49 rfl is6 rfl rfl ⟨by decide, Nat.le_of_ble_eq_true rfl, am_rc_of (by decide) h8⟩
theorem x41_26 : AW sv 41 26 [v0, v1, v2] (.int x :: r) h 0 0 Q = if ¬ x = 0 then AW sv 41 6 [v0, v1, v2] r h 0 0 Q else AW sv 41 29 [v0, v1, v2] r h 0 0 Q := e_z_ne am_h41 dX6_readRoutine_26 rfl
theorem x41_29 : AW sv 41 29 [.ref a, v1, v2] r h 0 0 Q = AW sv 41 30 [.ref a, v1, v2] (.ref a :: r) h 0 0 Q := e_pv am_h41 dX6_readRoutine_29 rfl rfl rfl rfl
theorem x41_30 : AW sv 41 30 [v0, v1, .int x] r h 0 0 Q = AW sv 41 31 [v0, v1, .int x] (.int x :: r) h 0 0 Q := e_pv am_h41 dX6_readRoutine_30 rfl rfl rfl rfl
theorem x41_31 (h8 : am_cs r ≤ 8) : AW sv 41 31 [v0, v1, v2] (.int x0 :: .ref 65 :: r) (am_toH σ) 0 0 Q = AM sv 44 [.ref 65, .int x0] (am_toH σ) (fun v h1 => AW sv 41 34 [v0, v1, v2] (v.toList ++ r) h1 0 0 Q) := e_cV (as := [.int x0]) am_h41 dX6_readRoutine_31 ml_6_36 (by decide) am_h44 rfl is6 rfl rfl ⟨by decide, Nat.le_of_ble_eq_true rfl, am_rc_of (by decide) h8⟩
theorem x41_34 : AW sv 41 34 [v0, v1, v2] [.int x] h 0 0 Q = Q (some (.int x)) h := e_iret am_h41 dX6_readRoutine_34 rfl ⟨rfl, rfl⟩
theorem n41 : AM sv 41 [.ref a, .ref b0] h Q = AW sv 41 0 [.ref a, .ref b0, .null] [] h 0 0 Q := rfl
theorem x42_0 : AW sv 42 0 [.ref a, v1, v2] r h 0 0 Q = AW sv 42 1 [.ref a, v1, v2] (.ref a :: r) h 0 0 Q := e_pv am_h42 dX6_readHouse_0 rfl rfl rfl rfl
theorem x42_1 (h8 : am_cs r ≤ 8) : AW sv 42 1 [v0, v1, v2] (.ref 65 :: r) (am_toH σ) 0 0 Q = AM sv 43 [.ref 65] (am_toH σ) (fun v h1 => AW sv 42 4 [v0, v1, v2] (v.toList ++ r) h1 0 0 Q) := e_cV (as := []) am_h42 dX6_readHouse_1 ml_6_25 (by decide) am_h43 rfl is6 rfl rfl ⟨by decide, Nat.le_of_ble_eq_true rfl, am_rc_of (by decide) h8⟩
theorem x42_4 : AW sv 42 4 [v0, v1, v2] r h 0 0 Q = AW sv 42 5 [v0, v1, v2] (.int (0) :: r) h 0 0 Q := e_iconstv am_h42 dX6_readHouse_4 c_iconst_0
theorem x42_5 (hc : v1.category = 1) : AW sv 42 5 [v0, v1, v2] (.int x :: r) h 0 0 Q = AW sv 42 6 [v0, v1, .int x] r h 0 0 Q := e_pv am_h42 dX6_readHouse_5 rfl rfl rfl (am_sti_of (Nat.le_of_ble_eq_true rfl) (am_c1_of rfl hc))
theorem x42_6 : AW sv 42 6 [.ref a, v1, v2] r h 0 0 Q = AW sv 42 7 [.ref a, v1, v2] (.ref a :: r) h 0 0 Q := e_pv am_h42 dX6_readHouse_6 rfl rfl rfl rfl
theorem x42_7 : AW sv 42 7 [v0, .ref a, v2] r h 0 0 Q = AW sv 42 8 [v0, .ref a, v2] (.ref a :: r) h 0 0 Q := e_pv am_h42 dX6_readHouse_7 rfl rfl rfl rfl
theorem x42_8 (h8 : am_cs r ≤ 8) : AW sv 42 8 [v0, v1, v2] (.ref b0 :: .ref 65 :: r) (am_toH σ) 0 0 Q = AM sv 46 [.ref 65, .ref b0] (am_toH σ) (fun v h1 => AW sv 42 11 [v0, v1, v2] (v.toList ++ r) h1 0 0 Q) := e_cV (as := [.ref b0]) am_h42 dX6_readHouse_8 ml_6_40 (by decide) am_h46 rfl is6 rfl rfl ⟨by decide, Nat.le_of_ble_eq_true rfl, am_rc_of (by decide) h8⟩
theorem x42_11 (hc : v1.category = 1) : AW sv 42 11 [v0, v1, .int x] r h 0 0 Q = AW sv 42 14 [v0, v1, .int (x + (1))] r h 0 0 Q := e_pv am_h42 dX6_readHouse_11 rfl rfl rfl (am_inc_of (ls := [v0, v1, .int x]) (k := 2) rfl c_iconst_1 (am_c1_of (ls := [v0, v1, .int x]) (k := 1) (v := v1) rfl hc))
theorem x42_14 : AW sv 42 14 [v0, v1, .int x] r h 0 0 Q = AW sv 42 15 [v0, v1, .int x] (.int x :: r) h 0 0 Q := e_pv am_h42 dX6_readHouse_14 rfl rfl rfl rfl
theorem x42_15 : AW sv 42 15 [v0, v1, v2] r h 0 0 Q = AW sv 42 17 [v0, v1, v2] (.int (8) :: r) h 0 0 Q := e_bipushv am_h42 dX6_readHouse_15 c_bipush_8
theorem x42_17 : AW sv 42 17 [v0, v1, v2] (.int y :: .int x :: r) h 0 0 Q = if y ≤ x then AW sv 42 29 [v0, v1, v2] r h 0 0 Q else AW sv 42 20 [v0, v1, v2] r h 0 0 Q := e_c_ge am_h42 dX6_readHouse_17 rfl
theorem x42_20 : AW sv 42 20 [.ref a, v1, v2] r h 0 0 Q = AW sv 42 21 [.ref a, v1, v2] (.ref a :: r) h 0 0 Q := e_pv am_h42 dX6_readHouse_20 rfl rfl rfl rfl
theorem x42_21 : AW sv 42 21 [v0, v1, v2] r h 0 0 Q = AW sv 42 23 [v0, v1, v2] (.int (59) :: r) h 0 0 Q := e_bipushv am_h42 dX6_readHouse_21 c_bipush_59
theorem x42_23 (h8 : am_cs r ≤ 8) : AW sv 42 23 [v0, v1, v2] (.int x0 :: .ref 65 :: r) (am_toH σ) 0 0 Q = AM sv 49 [.ref 65, .int x0] (am_toH σ) (fun v h1 => AW sv 42 26 [v0, v1, v2] (v.toList ++ r) h1 0 0 Q) := e_cV (as := [.int x0]) am_h42 dX6_readHouse_23 ml_6_32 (by decide) am_h49 rfl is6 rfl rfl ⟨by decide, Nat.le_of_ble_eq_true rfl, am_rc_of (by decide) h8⟩
theorem x42_26 : AW sv 42 26 [v0, v1, v2] (.int x :: r) h 0 0 Q = if ¬ x = 0 then AW sv 42 6 [v0, v1, v2] r h 0 0 Q else AW sv 42 29 [v0, v1, v2] r h 0 0 Q := e_z_ne am_h42 dX6_readHouse_26 rfl
theorem x42_29 : AW sv 42 29 [.ref a, v1, v2] r h 0 0 Q = AW sv 42 30 [.ref a, v1, v2] (.ref a :: r) h 0 0 Q := e_pv am_h42 dX6_readHouse_29 rfl rfl rfl rfl
theorem x42_30 : AW sv 42 30 [v0, v1, .int x] r h 0 0 Q = AW sv 42 31 [v0, v1, .int x] (.int x :: r) h 0 0 Q := e_pv am_h42 dX6_readHouse_30 rfl rfl rfl rfl
theorem x42_31 (h8 : am_cs r ≤ 8) : AW sv 42 31 [v0, v1, v2] (.int x0 :: .ref 65 :: r) (am_toH σ) 0 0 Q = AM sv 44 [.ref 65, .int x0] (am_toH σ) (fun v h1 => AW sv 42 34 [v0, v1, v2] (v.toList ++ r) h1 0 0 Q) := e_cV (as := [.int x0]) am_h42 dX6_readHouse_31 ml_6_36 (by decide) am_h44 rfl is6 rfl rfl ⟨by decide, Nat.le_of_ble_eq_true rfl, am_rc_of (by decide) h8⟩
theorem x42_34 : AW sv 42 34 [v0, v1, v2] [.int x] h 0 0 Q = Q (some (.int x)) h := e_iret am_h42 dX6_readHouse_34 rfl ⟨rfl, rfl⟩
theorem n42 : AM sv 42 [.ref a, .ref b0] h Q = AW sv 42 0 [.ref a, .ref b0, .null] [] h 0 0 Q := rfl
theorem x43_0 : AW sv 43 0 [.ref a] r h 0 0 Q = AW sv 43 1 [.ref a] (.ref a :: r) h 0 0 Q := e_pv am_h43 dX6_rewind_0 rfl rfl rfl rfl
theorem x43_1 : AW sv 43 1 [v0] r h 0 0 Q = AW sv 43 2 [v0] (.int (0) :: r) h 0 0 Q := e_iconstv am_h43 dX6_rewind_1 c_iconst_0
theorem x43_2 : AW sv 43 2 [v0] (.int x :: .ref 65 :: r) (am_toH σ) 0 0 Q = AW sv 43 5 [v0] r (am_toH (am_wr σ 65 (upd (σ.1 65) 2 x))) 0 0 Q := e_putI am_h43 dX6_rewind_2 fl_6_44 is6 rfl rfl rfl
theorem x43_5 : AW sv 43 5 [.ref a] r h 0 0 Q = AW sv 43 6 [.ref a] (.ref a :: r) h 0 0 Q := e_pv am_h43 dX6_rewind_5 rfl rfl rfl rfl
theorem x43_6 : AW sv 43 6 [v0] r h 0 0 Q = AW sv 43 7 [v0] (.int (0) :: r) h 0 0 Q := e_iconstv am_h43 dX6_rewind_6 c_iconst_0
theorem x43_7 (hz : x = 0 ∨ x = 1) : AW sv 43 7 [v0] (.int x :: .ref 65 :: r) (am_toH σ) 0 0 Q = AW sv 43 10 [v0] r (am_toH (am_wr σ 65 (upd (σ.1 65) 3 x))) 0 0 Q := e_putI am_h43 dX6_rewind_7 fl_6_47 is6 rfl rfl (am_vz_bool hz)
theorem x43_10 : AW sv 43 10 [v0] [] h 0 0 Q = Q none h := e_vret am_h43 dX6_rewind_10 rfl ⟨rfl, rfl⟩
theorem n43 : AM sv 43 [.ref a] h Q = AW sv 43 0 [.ref a] [] h 0 0 Q := rfl
theorem x44_0 : AW sv 44 0 [.ref a, v1] r h 0 0 Q = AW sv 44 1 [.ref a, v1] (.ref a :: r) h 0 0 Q := e_pv am_h44 dX6_answer_0 rfl rfl rfl rfl
theorem x44_1 : AW sv 44 1 [v0, v1] (.ref 65 :: r) (am_toH σ) 0 0 Q = AW sv 44 4 [v0, v1] (.int (σ.1 65 3) :: r) (am_toH σ) 0 0 Q := e_getI am_h44 dX6_answer_1 fl_6_47 is6 rfl
theorem x44_4 : AW sv 44 4 [v0, v1] (.int x :: r) h 0 0 Q = if ¬ x = 0 then AW sv 44 19 [v0, v1] r h 0 0 Q else AW sv 44 7 [v0, v1] r h 0 0 Q := e_z_ne am_h44 dX6_answer_4 rfl
theorem x44_7 : AW sv 44 7 [.ref a, v1] r h 0 0 Q = AW sv 44 8 [.ref a, v1] (.ref a :: r) h 0 0 Q := e_pv am_h44 dX6_answer_7 rfl rfl rfl rfl
theorem x44_8 (h8 : am_cs r ≤ 8) : AW sv 44 8 [v0, v1] (.ref 65 :: r) (am_toH σ) 0 0 Q = AM sv 48 [.ref 65] (am_toH σ) (fun v h1 => AW sv 44 11 [v0, v1] (v.toList ++ r) h1 0 0 Q) := e_cV (as := []) am_h44 dX6_answer_8 ml_6_51 (by decide) am_h48 rfl is6 rfl rfl ⟨by decide, Nat.le_of_ble_eq_true rfl, am_rc_of (by decide) h8⟩
theorem x44_11 : AW sv 44 11 [v0, v1] r h 0 0 Q = AW sv 44 12 [v0, v1] (.int (-1) :: r) h 0 0 Q := e_iconstv am_h44 dX6_answer_11 c_iconst_m1
theorem x44_12 : AW sv 44 12 [v0, v1] (.int y :: .int x :: r) h 0 0 Q = if ¬ x = y then AW sv 44 19 [v0, v1] r h 0 0 Q else AW sv 44 15 [v0, v1] r h 0 0 Q := e_c_ne am_h44 dX6_answer_12 rfl
theorem x44_15 : AW sv 44 15 [v0, .int x] r h 0 0 Q = AW sv 44 16 [v0, .int x] (.int x :: r) h 0 0 Q := e_pv am_h44 dX6_answer_15 rfl rfl rfl rfl
theorem x44_16 : AW sv 44 16 [v0, v1] r h 0 0 Q = AW sv 44 26 [v0, v1] r h 0 0 Q := e_goto am_h44 dX6_answer_16 rfl
theorem x44_19 : AW sv 44 19 [v0, v1] r h 0 0 Q = AW sv 44 21 [v0, v1] (.int (-20) :: r) h 0 0 Q := e_bipushv am_h44 dX6_answer_19 c_bipush_m20
theorem x44_21 : AW sv 44 21 [.ref a, v1] r h 0 0 Q = AW sv 44 22 [.ref a, v1] (.ref a :: r) h 0 0 Q := e_pv am_h44 dX6_answer_21 rfl rfl rfl rfl
theorem x44_22 : AW sv 44 22 [v0, v1] (.ref 65 :: r) (am_toH σ) 0 0 Q = AW sv 44 25 [v0, v1] (.int (σ.1 65 2) :: r) (am_toH σ) 0 0 Q := e_getI am_h44 dX6_answer_22 fl_6_44 is6 rfl
theorem x44_25 : AW sv 44 25 [v0, v1] (.int y :: .int x :: r) h 0 0 Q = AW sv 44 26 [v0, v1] (.int (x - y) :: r) h 0 0 Q := e_isub am_h44 dX6_answer_25
theorem x44_26 : AW sv 44 26 [v0, v1] [.int x] h 0 0 Q = Q (some (.int x)) h := e_iret am_h44 dX6_answer_26 rfl ⟨rfl, rfl⟩
theorem n44 : AM sv 44 [.ref a, .int x0] h Q = AW sv 44 0 [.ref a, .int x0] [] h 0 0 Q := rfl
theorem x45_0 : AW sv 45 0 [.ref a, v1, v2] r h 0 0 Q = AW sv 45 1 [.ref a, v1, v2] (.ref a :: r) h 0 0 Q := e_pv am_h45 dX6_readClause_0 rfl rfl rfl rfl
theorem x45_1 : AW sv 45 1 [v0, v1, v2] r h 0 0 Q = AW sv 45 3 [v0, v1, v2] (.int (16) :: r) h 0 0 Q := e_bipushv am_h45 dX6_readClause_1 c_bipush_16
theorem x45_3 (h8 : am_cs r ≤ 8) : AW sv 45 3 [v0, v1, v2] (.int x0 :: .ref 65 :: r) (am_toH σ) 0 0 Q = AM sv 51 [.ref 65, .int x0] (am_toH σ) (fun v h1 => AW sv 45 6 [v0, v1, v2] (v.toList ++ r) h1 0 0 Q) := e_cV (as := [.int x0]) am_h45 dX6_readClause_3 ml_6_55 (by decide) am_h51 rfl is6 rfl rfl ⟨by decide, Nat.le_of_ble_eq_true rfl, am_rc_of (by decide) h8⟩
theorem x45_6 (hc : v1.category = 1) : AW sv 45 6 [v0, v1, v2] (.int x :: r) h 0 0 Q = AW sv 45 7 [v0, v1, .int x] r h 0 0 Q := e_pv am_h45 dX6_readClause_6 rfl rfl rfl (am_sti_of (Nat.le_of_ble_eq_true rfl) (am_c1_of rfl hc))
theorem x45_7 : AW sv 45 7 [.ref a, v1, v2] r h 0 0 Q = AW sv 45 8 [.ref a, v1, v2] (.ref a :: r) h 0 0 Q := e_pv am_h45 dX6_readClause_7 rfl rfl rfl rfl
theorem x45_8 : AW sv 45 8 [v0, v1, v2] r h 0 0 Q = AW sv 45 10 [v0, v1, v2] (.int (58) :: r) h 0 0 Q := e_bipushv am_h45 dX6_readClause_8 c_bipush_58
theorem x45_10 (h8 : am_cs r ≤ 8) : AW sv 45 10 [v0, v1, v2] (.int x0 :: .ref 65 :: r) (am_toH σ) 0 0 Q = AM sv 49 [.ref 65, .int x0] (am_toH σ) (fun v h1 => AW sv 45 13 [v0, v1, v2] (v.toList ++ r) h1 0 0 Q) := e_cV (as := [.int x0]) am_h45 dX6_readClause_10 ml_6_32 (by decide) am_h49 rfl is6 rfl rfl ⟨by decide, Nat.le_of_ble_eq_true rfl, am_rc_of (by decide) h8⟩
theorem x45_13 : AW sv 45 13 [v0, v1, v2] (.int x :: r) h 0 0 Q = if ¬ x = 0 then AW sv 45 22 [v0, v1, v2] r h 0 0 Q else AW sv 45 16 [v0, v1, v2] r h 0 0 Q := e_z_ne am_h45 dX6_readClause_13 rfl
theorem x45_16 : AW sv 45 16 [.ref a, v1, v2] r h 0 0 Q = AW sv 45 17 [.ref a, v1, v2] (.ref a :: r) h 0 0 Q := e_pv am_h45 dX6_readClause_16 rfl rfl rfl rfl
theorem x45_17 : AW sv 45 17 [v0, v1, v2] r h 0 0 Q = AW sv 45 18 [v0, v1, v2] (.int (1) :: r) h 0 0 Q := e_iconstv am_h45 dX6_readClause_17 c_iconst_1
theorem x45_18 (hz : x = 0 ∨ x = 1) : AW sv 45 18 [v0, v1, v2] (.int x :: .ref 65 :: r) (am_toH σ) 0 0 Q = AW sv 45 21 [v0, v1, v2] r (am_toH (am_wr σ 65 (upd (σ.1 65) 3 x))) 0 0 Q := e_putI am_h45 dX6_readClause_18 fl_6_47 is6 rfl rfl (am_vz_bool hz)
theorem x45_21 : AW sv 45 21 [v0, v1, v2] [] h 0 0 Q = Q none h := e_vret am_h45 dX6_readClause_21 rfl ⟨rfl, rfl⟩
theorem x45_22 : AW sv 45 22 [v0, .ref a, v2] r h 0 0 Q = AW sv 45 23 [v0, .ref a, v2] (.ref a :: r) h 0 0 Q := e_pv am_h45 dX6_readClause_22 rfl rfl rfl rfl
theorem x45_23 (hr : am_St a) : AW sv 45 23 [v0, v1, v2] (.ref (a + 1) :: r) (am_toH σ) 0 0 Q = AW sv 45 26 [v0, v1, v2] (.ref (a + 2) :: r) (am_toH σ) 0 0 Q := e_getR am_h45 dX6_readClause_23 fl_6_58 (is3 hr) rfl
theorem x45_26 : AW sv 45 26 [v0, v1, .int x] r h 0 0 Q = AW sv 45 27 [v0, v1, .int x] (.int x :: r) h 0 0 Q := e_pv am_h45 dX6_readClause_26 rfl rfl rfl rfl
theorem x45_27 : AW sv 45 27 [.ref a, v1, v2] r h 0 0 Q = AW sv 45 28 [.ref a, v1, v2] (.ref a :: r) h 0 0 Q := e_pv am_h45 dX6_readClause_27 rfl rfl rfl rfl
theorem x45_28 : AW sv 45 28 [v0, v1, v2] r h 0 0 Q = AW sv 45 30 [v0, v1, v2] (.int (109) :: r) h 0 0 Q := e_bipushv am_h45 dX6_readClause_28 c_bipush_109
theorem x45_30 (h8 : am_cs r ≤ 8) : AW sv 45 30 [v0, v1, v2] (.int x0 :: .ref 65 :: r) (am_toH σ) 0 0 Q = AM sv 49 [.ref 65, .int x0] (am_toH σ) (fun v h1 => AW sv 45 33 [v0, v1, v2] (v.toList ++ r) h1 0 0 Q) := e_cV (as := [.int x0]) am_h45 dX6_readClause_30 ml_6_32 (by decide) am_h49 rfl is6 rfl rfl ⟨by decide, Nat.le_of_ble_eq_true rfl, am_rc_of (by decide) h8⟩
theorem x45_33 : AW sv 45 33 [v0, v1, v2] (.int x :: r) h 0 0 Q = if x = 0 then AW sv 45 43 [v0, v1, v2] r h 0 0 Q else AW sv 45 36 [v0, v1, v2] r h 0 0 Q := e_z_eq am_h45 dX6_readClause_33 rfl
theorem x45_36 : AW sv 45 36 [.ref a, v1, v2] r h 0 0 Q = AW sv 45 37 [.ref a, v1, v2] (.ref a :: r) h 0 0 Q := e_pv am_h45 dX6_readClause_36 rfl rfl rfl rfl
theorem x45_37 (h8 : am_cs r ≤ 8) : AW sv 45 37 [v0, v1, v2] (.ref 65 :: r) (am_toH σ) 0 0 Q = AM sv 47 [.ref 65] (am_toH σ) (fun v h1 => AW sv 45 40 [v0, v1, v2] (v.toList ++ r) h1 0 0 Q) := e_cV (as := []) am_h45 dX6_readClause_37 ml_6_63 (by decide) am_h47 rfl is6 rfl rfl ⟨by decide, Nat.le_of_ble_eq_true rfl, am_rc_of (by decide) h8⟩
theorem x45_40 : AW sv 45 40 [v0, v1, v2] r h 0 0 Q = AW sv 45 44 [v0, v1, v2] r h 0 0 Q := e_goto am_h45 dX6_readClause_40 rfl
theorem x45_43 : AW sv 45 43 [v0, v1, v2] r h 0 0 Q = AW sv 45 44 [v0, v1, v2] (.int (0) :: r) h 0 0 Q := e_iconstv am_h45 dX6_readClause_43 c_iconst_0
theorem x45_44 (hi : am_in y (am_ln a) = true) : AW sv 45 44 [v0, v1, v2] (.int x :: .int y :: .ref a :: r) (am_toH σ) 0 0 Q = AW sv 45 45 [v0, v1, v2] r (am_toH (am_wr σ a (upd (σ.1 a) y.toNatClampNeg x))) 0 0 Q := e_iast am_h45 dX6_readClause_44 hi
theorem x45_45 : AW sv 45 45 [v0, .ref a, v2] r h 0 0 Q = AW sv 45 46 [v0, .ref a, v2] (.ref a :: r) h 0 0 Q := e_pv am_h45 dX6_readClause_45 rfl rfl rfl rfl
theorem x45_46 (hr : am_St a) : AW sv 45 46 [v0, v1, v2] (.ref (a + 1) :: r) (am_toH σ) 0 0 Q = AW sv 45 49 [v0, v1, v2] (.ref (a + 4) :: r) (am_toH σ) 0 0 Q := e_getR am_h45 dX6_readClause_46 fl_6_66 (is3 hr) rfl
theorem x45_49 : AW sv 45 49 [v0, v1, .int x] r h 0 0 Q = AW sv 45 50 [v0, v1, .int x] (.int x :: r) h 0 0 Q := e_pv am_h45 dX6_readClause_49 rfl rfl rfl rfl
theorem x45_50 : AW sv 45 50 [.ref a, v1, v2] r h 0 0 Q = AW sv 45 51 [.ref a, v1, v2] (.ref a :: r) h 0 0 Q := e_pv am_h45 dX6_readClause_50 rfl rfl rfl rfl
theorem x45_51 : AW sv 45 51 [v0, v1, v2] r h 0 0 Q = AW sv 45 53 [v0, v1, v2] (.int (108) :: r) h 0 0 Q := e_bipushv am_h45 dX6_readClause_51 c_bipush_108
theorem x45_53 (h8 : am_cs r ≤ 8) : AW sv 45 53 [v0, v1, v2] (.int x0 :: .ref 65 :: r) (am_toH σ) 0 0 Q = AM sv 49 [.ref 65, .int x0] (am_toH σ) (fun v h1 => AW sv 45 56 [v0, v1, v2] (v.toList ++ r) h1 0 0 Q) := e_cV (as := [.int x0]) am_h45 dX6_readClause_53 ml_6_32 (by decide) am_h49 rfl is6 rfl rfl ⟨by decide, Nat.le_of_ble_eq_true rfl, am_rc_of (by decide) h8⟩
theorem x45_56 : AW sv 45 56 [v0, v1, v2] (.int x :: r) h 0 0 Q = if x = 0 then AW sv 45 70 [v0, v1, v2] r h 0 0 Q else AW sv 45 59 [v0, v1, v2] r h 0 0 Q := e_z_eq am_h45 dX6_readClause_56 rfl
theorem x45_59 : AW sv 45 59 [v0, v1, v2] r h 0 0 Q = AW sv 45 60 [v0, v1, v2] (.int (1) :: r) h 0 0 Q := e_iconstv am_h45 dX6_readClause_59 c_iconst_1
theorem x45_60 : AW sv 45 60 [.ref a, v1, v2] r h 0 0 Q = AW sv 45 61 [.ref a, v1, v2] (.ref a :: r) h 0 0 Q := e_pv am_h45 dX6_readClause_60 rfl rfl rfl rfl
theorem x45_61 : AW sv 45 61 [v0, v1, v2] r h 0 0 Q = AW sv 45 62 [v0, v1, v2] (.int (0) :: r) h 0 0 Q := e_iconstv am_h45 dX6_readClause_61 c_iconst_0
theorem x45_62 : AW sv 45 62 [v0, v1, v2] r h 0 0 Q = AW sv 45 63 [v0, v1, v2] (.int (4) :: r) h 0 0 Q := e_iconstv am_h45 dX6_readClause_62 c_iconst_4
theorem x45_63 (h8 : am_cs r ≤ 8) : AW sv 45 63 [v0, v1, v2] (.int x1 :: .int x0 :: .ref 65 :: r) (am_toH σ) 0 0 Q = AM sv 50 [.ref 65, .int x0, .int x1] (am_toH σ) (fun v h1 => AW sv 45 66 [v0, v1, v2] (v.toList ++ r) h1 0 0 Q) := e_cV (as := [.int x0, .int x1]) am_h45 dX6_readClause_63 ml_6_69 (by decide) am_h50 rfl is6 rfl rfl ⟨by decide, Nat.le_of_ble_eq_true rfl, am_rc_of (by decide) h8⟩
theorem x45_66 : AW sv 45 66 [v0, v1, v2] (.int y :: .int x :: r) h 0 0 Q = AW sv 45 67 [v0, v1, v2] (.int (x + y) :: r) h 0 0 Q := e_iadd am_h45 dX6_readClause_66
theorem x45_67 : AW sv 45 67 [v0, v1, v2] r h 0 0 Q = AW sv 45 71 [v0, v1, v2] r h 0 0 Q := e_goto am_h45 dX6_readClause_67 rfl
theorem x45_70 : AW sv 45 70 [v0, v1, v2] r h 0 0 Q = AW sv 45 71 [v0, v1, v2] (.int (0) :: r) h 0 0 Q := e_iconstv am_h45 dX6_readClause_70 c_iconst_0
theorem x45_71 (hi : am_in y (am_ln a) = true) : AW sv 45 71 [v0, v1, v2] (.int x :: .int y :: .ref a :: r) (am_toH σ) 0 0 Q = AW sv 45 72 [v0, v1, v2] r (am_toH (am_wr σ a (upd (σ.1 a) y.toNatClampNeg x))) 0 0 Q := e_iast am_h45 dX6_readClause_71 hi
theorem x45_72 : AW sv 45 72 [v0, .ref a, v2] r h 0 0 Q = AW sv 45 73 [v0, .ref a, v2] (.ref a :: r) h 0 0 Q := e_pv am_h45 dX6_readClause_72 rfl rfl rfl rfl
theorem x45_73 (hr : am_St a) : AW sv 45 73 [v0, v1, v2] (.ref (a + 1) :: r) (am_toH σ) 0 0 Q = AW sv 45 76 [v0, v1, v2] (.ref (a + 5) :: r) (am_toH σ) 0 0 Q := e_getR am_h45 dX6_readClause_73 fl_6_73 (is3 hr) rfl
theorem x45_76 : AW sv 45 76 [v0, v1, .int x] r h 0 0 Q = AW sv 45 77 [v0, v1, .int x] (.int x :: r) h 0 0 Q := e_pv am_h45 dX6_readClause_76 rfl rfl rfl rfl
theorem x45_77 : AW sv 45 77 [.ref a, v1, v2] r h 0 0 Q = AW sv 45 78 [.ref a, v1, v2] (.ref a :: r) h 0 0 Q := e_pv am_h45 dX6_readClause_77 rfl rfl rfl rfl
theorem x45_78 : AW sv 45 78 [v0, v1, v2] r h 0 0 Q = AW sv 45 80 [v0, v1, v2] (.int (110) :: r) h 0 0 Q := e_bipushv am_h45 dX6_readClause_78 c_bipush_110
theorem x45_80 (h8 : am_cs r ≤ 8) : AW sv 45 80 [v0, v1, v2] (.int x0 :: .ref 65 :: r) (am_toH σ) 0 0 Q = AM sv 49 [.ref 65, .int x0] (am_toH σ) (fun v h1 => AW sv 45 83 [v0, v1, v2] (v.toList ++ r) h1 0 0 Q) := e_cV (as := [.int x0]) am_h45 dX6_readClause_80 ml_6_32 (by decide) am_h49 rfl is6 rfl rfl ⟨by decide, Nat.le_of_ble_eq_true rfl, am_rc_of (by decide) h8⟩
theorem x45_83 : AW sv 45 83 [v0, v1, v2] (.int x :: r) h 0 0 Q = if x = 0 then AW sv 45 97 [v0, v1, v2] r h 0 0 Q else AW sv 45 86 [v0, v1, v2] r h 0 0 Q := e_z_eq am_h45 dX6_readClause_83 rfl
theorem x45_86 : AW sv 45 86 [v0, v1, v2] r h 0 0 Q = AW sv 45 87 [v0, v1, v2] (.int (1) :: r) h 0 0 Q := e_iconstv am_h45 dX6_readClause_86 c_iconst_1
theorem x45_87 : AW sv 45 87 [.ref a, v1, v2] r h 0 0 Q = AW sv 45 88 [.ref a, v1, v2] (.ref a :: r) h 0 0 Q := e_pv am_h45 dX6_readClause_87 rfl rfl rfl rfl
theorem x45_88 : AW sv 45 88 [v0, v1, v2] r h 0 0 Q = AW sv 45 89 [v0, v1, v2] (.int (0) :: r) h 0 0 Q := e_iconstv am_h45 dX6_readClause_88 c_iconst_0
theorem x45_89 : AW sv 45 89 [v0, v1, v2] r h 0 0 Q = AW sv 45 90 [v0, v1, v2] (.int (4) :: r) h 0 0 Q := e_iconstv am_h45 dX6_readClause_89 c_iconst_4
theorem x45_90 (h8 : am_cs r ≤ 8) : AW sv 45 90 [v0, v1, v2] (.int x1 :: .int x0 :: .ref 65 :: r) (am_toH σ) 0 0 Q = AM sv 50 [.ref 65, .int x0, .int x1] (am_toH σ) (fun v h1 => AW sv 45 93 [v0, v1, v2] (v.toList ++ r) h1 0 0 Q) := e_cV (as := [.int x0, .int x1]) am_h45 dX6_readClause_90 ml_6_69 (by decide) am_h50 rfl is6 rfl rfl ⟨by decide, Nat.le_of_ble_eq_true rfl, am_rc_of (by decide) h8⟩
theorem x45_93 : AW sv 45 93 [v0, v1, v2] (.int y :: .int x :: r) h 0 0 Q = AW sv 45 94 [v0, v1, v2] (.int (x + y) :: r) h 0 0 Q := e_iadd am_h45 dX6_readClause_93
theorem x45_94 : AW sv 45 94 [v0, v1, v2] r h 0 0 Q = AW sv 45 98 [v0, v1, v2] r h 0 0 Q := e_goto am_h45 dX6_readClause_94 rfl
theorem x45_97 : AW sv 45 97 [v0, v1, v2] r h 0 0 Q = AW sv 45 98 [v0, v1, v2] (.int (0) :: r) h 0 0 Q := e_iconstv am_h45 dX6_readClause_97 c_iconst_0
theorem x45_98 (hi : am_in y (am_ln a) = true) : AW sv 45 98 [v0, v1, v2] (.int x :: .int y :: .ref a :: r) (am_toH σ) 0 0 Q = AW sv 45 99 [v0, v1, v2] r (am_toH (am_wr σ a (upd (σ.1 a) y.toNatClampNeg x))) 0 0 Q := e_iast am_h45 dX6_readClause_98 hi
theorem x45_99 : AW sv 45 99 [v0, .ref a, v2] r h 0 0 Q = AW sv 45 100 [v0, .ref a, v2] (.ref a :: r) h 0 0 Q := e_pv am_h45 dX6_readClause_99 rfl rfl rfl rfl
theorem x45_100 (hr : am_St a) : AW sv 45 100 [v0, v1, v2] (.ref (a + 1) :: r) (am_toH σ) 0 0 Q = AW sv 45 103 [v0, v1, v2] (.ref (a + 6) :: r) (am_toH σ) 0 0 Q := e_getR am_h45 dX6_readClause_100 fl_6_76 (is3 hr) rfl
theorem x45_103 : AW sv 45 103 [v0, v1, .int x] r h 0 0 Q = AW sv 45 104 [v0, v1, .int x] (.int x :: r) h 0 0 Q := e_pv am_h45 dX6_readClause_103 rfl rfl rfl rfl
theorem x45_104 : AW sv 45 104 [.ref a, v1, v2] r h 0 0 Q = AW sv 45 105 [.ref a, v1, v2] (.ref a :: r) h 0 0 Q := e_pv am_h45 dX6_readClause_104 rfl rfl rfl rfl
theorem x45_105 : AW sv 45 105 [v0, v1, v2] r h 0 0 Q = AW sv 45 107 [v0, v1, v2] (.int (106) :: r) h 0 0 Q := e_bipushv am_h45 dX6_readClause_105 c_bipush_106
theorem x45_107 (h8 : am_cs r ≤ 8) : AW sv 45 107 [v0, v1, v2] (.int x0 :: .ref 65 :: r) (am_toH σ) 0 0 Q = AM sv 49 [.ref 65, .int x0] (am_toH σ) (fun v h1 => AW sv 45 110 [v0, v1, v2] (v.toList ++ r) h1 0 0 Q) := e_cV (as := [.int x0]) am_h45 dX6_readClause_107 ml_6_32 (by decide) am_h49 rfl is6 rfl rfl ⟨by decide, Nat.le_of_ble_eq_true rfl, am_rc_of (by decide) h8⟩
theorem x45_110 : AW sv 45 110 [v0, v1, v2] (.int x :: r) h 0 0 Q = if x = 0 then AW sv 45 117 [v0, v1, v2] r h 0 0 Q else AW sv 45 113 [v0, v1, v2] r h 0 0 Q := e_z_eq am_h45 dX6_readClause_110 rfl
theorem x45_113 : AW sv 45 113 [v0, v1, v2] r h 0 0 Q = AW sv 45 114 [v0, v1, v2] (.int (1) :: r) h 0 0 Q := e_iconstv am_h45 dX6_readClause_113 c_iconst_1
theorem x45_114 : AW sv 45 114 [v0, v1, v2] r h 0 0 Q = AW sv 45 118 [v0, v1, v2] r h 0 0 Q := e_goto am_h45 dX6_readClause_114 rfl
theorem x45_117 : AW sv 45 117 [v0, v1, v2] r h 0 0 Q = AW sv 45 118 [v0, v1, v2] (.int (0) :: r) h 0 0 Q := e_iconstv am_h45 dX6_readClause_117 c_iconst_0
theorem x45_118 (hi : am_in y (am_ln a) = true) : AW sv 45 118 [v0, v1, v2] (.int x :: .int y :: .ref a :: r) (am_toH σ) 0 0 Q = AW sv 45 119 [v0, v1, v2] r (am_toH (am_wr σ a (upd (σ.1 a) y.toNatClampNeg x))) 0 0 Q := e_iast am_h45 dX6_readClause_118 hi
theorem x45_119 : AW sv 45 119 [v0, .ref a, v2] r h 0 0 Q = AW sv 45 120 [v0, .ref a, v2] (.ref a :: r) h 0 0 Q := e_pv am_h45 dX6_readClause_119 rfl rfl rfl rfl
theorem x45_120 (hr : am_St a) : AW sv 45 120 [v0, v1, v2] (.ref (a + 1) :: r) (am_toH σ) 0 0 Q = AW sv 45 123 [v0, v1, v2] (.ref (a + 3) :: r) (am_toH σ) 0 0 Q := e_getR am_h45 dX6_readClause_120 fl_6_79 (is3 hr) rfl
theorem x45_123 : AW sv 45 123 [v0, v1, .int x] r h 0 0 Q = AW sv 45 124 [v0, v1, .int x] (.int x :: r) h 0 0 Q := e_pv am_h45 dX6_readClause_123 rfl rfl rfl rfl
theorem x45_124 : AW sv 45 124 [.ref a, v1, v2] r h 0 0 Q = AW sv 45 125 [.ref a, v1, v2] (.ref a :: r) h 0 0 Q := e_pv am_h45 dX6_readClause_124 rfl rfl rfl rfl
theorem x45_125 : AW sv 45 125 [v0, v1, v2] r h 0 0 Q = AW sv 45 127 [v0, v1, v2] (.int (120) :: r) h 0 0 Q := e_bipushv am_h45 dX6_readClause_125 c_bipush_120
theorem x45_127 (h8 : am_cs r ≤ 8) : AW sv 45 127 [v0, v1, v2] (.int x0 :: .ref 65 :: r) (am_toH σ) 0 0 Q = AM sv 49 [.ref 65, .int x0] (am_toH σ) (fun v h1 => AW sv 45 130 [v0, v1, v2] (v.toList ++ r) h1 0 0 Q) := e_cV (as := [.int x0]) am_h45 dX6_readClause_127 ml_6_32 (by decide) am_h49 rfl is6 rfl rfl ⟨by decide, Nat.le_of_ble_eq_true rfl, am_rc_of (by decide) h8⟩
theorem x45_130 : AW sv 45 130 [v0, v1, v2] (.int x :: r) h 0 0 Q = if x = 0 then AW sv 45 140 [v0, v1, v2] r h 0 0 Q else AW sv 45 133 [v0, v1, v2] r h 0 0 Q := e_z_eq am_h45 dX6_readClause_130 rfl
theorem x45_133 : AW sv 45 133 [.ref a, v1, v2] r h 0 0 Q = AW sv 45 134 [.ref a, v1, v2] (.ref a :: r) h 0 0 Q := e_pv am_h45 dX6_readClause_133 rfl rfl rfl rfl
theorem x45_134 (h8 : am_cs r ≤ 8) : AW sv 45 134 [v0, v1, v2] (.ref 65 :: r) (am_toH σ) 0 0 Q = AM sv 47 [.ref 65] (am_toH σ) (fun v h1 => AW sv 45 137 [v0, v1, v2] (v.toList ++ r) h1 0 0 Q) := e_cV (as := []) am_h45 dX6_readClause_134 ml_6_63 (by decide) am_h47 rfl is6 rfl rfl ⟨by decide, Nat.le_of_ble_eq_true rfl, am_rc_of (by decide) h8⟩
theorem x45_137 : AW sv 45 137 [v0, v1, v2] r h 0 0 Q = AW sv 45 141 [v0, v1, v2] r h 0 0 Q := e_goto am_h45 dX6_readClause_137 rfl
theorem x45_140 : AW sv 45 140 [v0, v1, v2] r h 0 0 Q = AW sv 45 141 [v0, v1, v2] (.int (0) :: r) h 0 0 Q := e_iconstv am_h45 dX6_readClause_140 c_iconst_0
theorem x45_141 (hi : am_in y (am_ln a) = true) : AW sv 45 141 [v0, v1, v2] (.int x :: .int y :: .ref a :: r) (am_toH σ) 0 0 Q = AW sv 45 142 [v0, v1, v2] r (am_toH (am_wr σ a (upd (σ.1 a) y.toNatClampNeg x))) 0 0 Q := e_iast am_h45 dX6_readClause_141 hi
theorem x45_142 : AW sv 45 142 [v0, v1, v2] [] h 0 0 Q = Q none h := e_vret am_h45 dX6_readClause_142 rfl ⟨rfl, rfl⟩
theorem n45 : AM sv 45 [.ref a, .ref b0] h Q = AW sv 45 0 [.ref a, .ref b0, .null] [] h 0 0 Q := rfl
theorem x46_0 : AW sv 46 0 [.ref a, v1, v2, v3, v4] r h 0 0 Q = AW sv 46 1 [.ref a, v1, v2, v3, v4] (.ref a :: r) h 0 0 Q := e_pv am_h46 dX6_readWatcher_0 rfl rfl rfl rfl
theorem x46_1 (h8 : am_cs r ≤ 8) : AW sv 46 1 [v0, v1, v2, v3, v4] (.ref 65 :: r) (am_toH σ) 0 0 Q = AM sv 48 [.ref 65] (am_toH σ) (fun v h1 => AW sv 46 4 [v0, v1, v2, v3, v4] (v.toList ++ r) h1 0 0 Q) := e_cV (as := []) am_h46 dX6_readWatcher_1 ml_6_51 (by decide) am_h48 rfl is6 rfl rfl ⟨by decide, Nat.le_of_ble_eq_true rfl, am_rc_of (by decide) h8⟩
theorem x46_4 (hc : v.category = 1) : AW sv 46 4 [v0, v1, v2, v3, v4] (v :: r) h 0 0 Q = AW sv 46 5 [v0, v1, v2, v3, v4] r h 0 0 Q := e_pop am_h46 dX6_readWatcher_4 hc
theorem x46_5 : AW sv 46 5 [.ref a, v1, v2, v3, v4] r h 0 0 Q = AW sv 46 6 [.ref a, v1, v2, v3, v4] (.ref a :: r) h 0 0 Q := e_pv am_h46 dX6_readWatcher_5 rfl rfl rfl rfl
theorem x46_6 : AW sv 46 6 [v0, v1, v2, v3, v4] (.ref 65 :: r) (am_toH σ) 0 0 Q = AW sv 46 9 [v0, v1, v2, v3, v4] (.int (σ.1 65 2) :: r) (am_toH σ) 0 0 Q := e_getI am_h46 dX6_readWatcher_6 fl_6_44 is6 rfl
theorem x46_9 (hc : v1.category = 1) : AW sv 46 9 [v0, v1, v2, v3, v4] (.int x :: r) h 0 0 Q = AW sv 46 10 [v0, v1, .int x, v3, v4] r h 0 0 Q := e_pv am_h46 dX6_readWatcher_9 rfl rfl rfl (am_sti_of (Nat.le_of_ble_eq_true rfl) (am_c1_of rfl hc))
theorem x46_10 : AW sv 46 10 [.ref a, v1, v2, v3, v4] r h 0 0 Q = AW sv 46 11 [.ref a, v1, v2, v3, v4] (.ref a :: r) h 0 0 Q := e_pv am_h46 dX6_readWatcher_10 rfl rfl rfl rfl
theorem x46_11 : AW sv 46 11 [v0, v1, v2, v3, v4] r h 0 0 Q = AW sv 46 13 [v0, v1, v2, v3, v4] (.int (12) :: r) h 0 0 Q := e_bipushv am_h46 dX6_readWatcher_11 c_bipush_12
theorem x46_13 (h8 : am_cs r ≤ 8) : AW sv 46 13 [v0, v1, v2, v3, v4] (.int x0 :: .ref 65 :: r) (am_toH σ) 0 0 Q = AM sv 51 [.ref 65, .int x0] (am_toH σ) (fun v h1 => AW sv 46 16 [v0, v1, v2, v3, v4] (v.toList ++ r) h1 0 0 Q) := e_cV (as := [.int x0]) am_h46 dX6_readWatcher_13 ml_6_55 (by decide) am_h51 rfl is6 rfl rfl ⟨by decide, Nat.le_of_ble_eq_true rfl, am_rc_of (by decide) h8⟩
theorem x46_16 (hc : v2.category = 1) : AW sv 46 16 [v0, v1, v2, v3, v4] (.int x :: r) h 0 0 Q = AW sv 46 17 [v0, v1, v2, .int x, v4] r h 0 0 Q := e_pv am_h46 dX6_readWatcher_16 rfl rfl rfl (am_sti_of (Nat.le_of_ble_eq_true rfl) (am_c1_of rfl hc))
theorem x46_17 : AW sv 46 17 [.ref a, v1, v2, v3, v4] r h 0 0 Q = AW sv 46 18 [.ref a, v1, v2, v3, v4] (.ref a :: r) h 0 0 Q := e_pv am_h46 dX6_readWatcher_17 rfl rfl rfl rfl
theorem x46_18 : AW sv 46 18 [v0, v1, v2, v3, v4] (.ref 65 :: r) (am_toH σ) 0 0 Q = AW sv 46 21 [v0, v1, v2, v3, v4] (.int (σ.1 65 3) :: r) (am_toH σ) 0 0 Q := e_getI am_h46 dX6_readWatcher_18 fl_6_47 is6 rfl
theorem x46_21 : AW sv 46 21 [v0, v1, v2, v3, v4] (.int x :: r) h 0 0 Q = if ¬ x = 0 then AW sv 46 42 [v0, v1, v2, v3, v4] r h 0 0 Q else AW sv 46 24 [v0, v1, v2, v3, v4] r h 0 0 Q := e_z_ne am_h46 dX6_readWatcher_21 rfl
theorem x46_24 : AW sv 46 24 [v0, .ref a, v2, v3, v4] r h 0 0 Q = AW sv 46 25 [v0, .ref a, v2, v3, v4] (.ref a :: r) h 0 0 Q := e_pv am_h46 dX6_readWatcher_24 rfl rfl rfl rfl
theorem x46_25 : AW sv 46 25 [v0, v1, v2, .int x, v4] r h 0 0 Q = AW sv 46 26 [v0, v1, v2, .int x, v4] (.int x :: r) h 0 0 Q := e_pv am_h46 dX6_readWatcher_25 rfl rfl rfl rfl
theorem x46_26 (hr : am_St a) (h8 : am_cs r ≤ 8) : AW sv 46 26 [v0, v1, v2, v3, v4] (.int x0 :: .ref (a + 7) :: r) (am_toH σ) 0 0 Q = AM sv 7 [.ref (a + 7), .int x0] (am_toH σ) (fun v h1 => AW sv 46 29 [v0, v1, v2, v3, v4] (v.toList ++ r) h1 0 0 Q) := e_cV (as := [.int x0]) am_h46 dX6_readWatcher_26 ml_6_82 (by decide) am_h7 rfl (is1 hr) rfl rfl ⟨by decide, Nat.le_of_ble_eq_true rfl, am_rc_of (by decide) h8⟩
theorem x46_29 : AW sv 46 29 [v0, v1, v2, v3, v4] (.int x :: r) h 0 0 Q = if x = 0 then AW sv 46 42 [v0, v1, v2, v3, v4] r h 0 0 Q else AW sv 46 32 [v0, v1, v2, v3, v4] r h 0 0 Q := e_z_eq am_h46 dX6_readWatcher_29 rfl
theorem x46_32 : AW sv 46 32 [.ref a, v1, v2, v3, v4] r h 0 0 Q = AW sv 46 33 [.ref a, v1, v2, v3, v4] (.ref a :: r) h 0 0 Q := e_pv am_h46 dX6_readWatcher_32 rfl rfl rfl rfl
theorem x46_33 : AW sv 46 33 [v0, v1, .int x, v3, v4] r h 0 0 Q = AW sv 46 34 [v0, v1, .int x, v3, v4] (.int x :: r) h 0 0 Q := e_pv am_h46 dX6_readWatcher_33 rfl rfl rfl rfl
theorem x46_34 : AW sv 46 34 [v0, v1, v2, v3, v4] (.int x :: .ref 65 :: r) (am_toH σ) 0 0 Q = AW sv 46 37 [v0, v1, v2, v3, v4] r (am_toH (am_wr σ 65 (upd (σ.1 65) 2 x))) 0 0 Q := e_putI am_h46 dX6_readWatcher_34 fl_6_44 is6 rfl rfl rfl
theorem x46_37 : AW sv 46 37 [.ref a, v1, v2, v3, v4] r h 0 0 Q = AW sv 46 38 [.ref a, v1, v2, v3, v4] (.ref a :: r) h 0 0 Q := e_pv am_h46 dX6_readWatcher_37 rfl rfl rfl rfl
theorem x46_38 : AW sv 46 38 [v0, v1, v2, v3, v4] r h 0 0 Q = AW sv 46 39 [v0, v1, v2, v3, v4] (.int (1) :: r) h 0 0 Q := e_iconstv am_h46 dX6_readWatcher_38 c_iconst_1
theorem x46_39 (hz : x = 0 ∨ x = 1) : AW sv 46 39 [v0, v1, v2, v3, v4] (.int x :: .ref 65 :: r) (am_toH σ) 0 0 Q = AW sv 46 42 [v0, v1, v2, v3, v4] r (am_toH (am_wr σ 65 (upd (σ.1 65) 3 x))) 0 0 Q := e_putI am_h46 dX6_readWatcher_39 fl_6_47 is6 rfl rfl (am_vz_bool hz)
theorem x46_42 : AW sv 46 42 [v0, v1, v2, v3, v4] r h 0 0 Q = AW sv 46 43 [v0, v1, v2, v3, v4] (.int (0) :: r) h 0 0 Q := e_iconstv am_h46 dX6_readWatcher_42 c_iconst_0
theorem x46_43 (hc : v3.category = 1) : AW sv 46 43 [v0, v1, v2, v3, v4] (.int x :: r) h 0 0 Q = AW sv 46 45 [v0, v1, v2, v3, .int x] r h 0 0 Q := e_pv am_h46 dX6_readWatcher_43 rfl rfl rfl (am_sti_of (Nat.le_of_ble_eq_true rfl) (am_c1_of rfl hc))
theorem x46_45 : AW sv 46 45 [v0, v1, v2, v3, .int x] r h 0 0 Q = AW sv 46 47 [v0, v1, v2, v3, .int x] (.int x :: r) h 0 0 Q := e_pv am_h46 dX6_readWatcher_45 rfl rfl rfl rfl
theorem x46_47 : AW sv 46 47 [v0, v1, v2, v3, v4] r h 0 0 Q = AW sv 46 48 [v0, v1, v2, v3, v4] (.int (4) :: r) h 0 0 Q := e_iconstv am_h46 dX6_readWatcher_47 c_iconst_4
theorem x46_48 : AW sv 46 48 [v0, v1, v2, v3, v4] (.int y :: .int x :: r) h 0 0 Q = if y ≤ x then AW sv 46 78 [v0, v1, v2, v3, v4] r h 0 0 Q else AW sv 46 51 [v0, v1, v2, v3, v4] r h 0 0 Q := e_c_ge am_h46 dX6_readWatcher_48 rfl
theorem x46_51 : AW sv 46 51 [.ref a, v1, v2, v3, v4] r h 0 0 Q = AW sv 46 52 [.ref a, v1, v2, v3, v4] (.ref a :: r) h 0 0 Q := e_pv am_h46 dX6_readWatcher_51 rfl rfl rfl rfl
theorem x46_52 : AW sv 46 52 [v0, v1, v2, v3, v4] r h 0 0 Q = AW sv 46 55 [v0, v1, v2, v3, v4] (.float 1 :: r) h 0 0 Q := e_gets am_h46 dX6_readWatcher_52 (t := 1) (by decide +kernel) rfl
theorem x46_55 : AW sv 46 55 [v0, v1, v2, v3, .int x] r h 0 0 Q = AW sv 46 57 [v0, v1, v2, v3, .int x] (.int x :: r) h 0 0 Q := e_pv am_h46 dX6_readWatcher_55 rfl rfl rfl rfl
theorem x46_57 (hi : am_in x (sv 1).1 = true) : AW sv 46 57 [v0, v1, v2, v3, v4] (.int x :: .float 1 :: r) h 0 0 Q = AW sv 46 58 [v0, v1, v2, v3, v4] (.int ((sv 1).2 x.toNatClampNeg) :: r) h 0 0 Q := e_cald am_h46 dX6_readWatcher_57 hi
theorem x46_58 (h8 : am_cs r ≤ 8) : AW sv 46 58 [v0, v1, v2, v3, v4] (.int x0 :: .ref 65 :: r) (am_toH σ) 0 0 Q = AM sv 49 [.ref 65, .int x0] (am_toH σ) (fun v h1 => AW sv 46 61 [v0, v1, v2, v3, v4] (v.toList ++ r) h1 0 0 Q) := e_cV (as := [.int x0]) am_h46 dX6_readWatcher_58 ml_6_32 (by decide) am_h49 rfl is6 rfl rfl ⟨by decide, Nat.le_of_ble_eq_true rfl, am_rc_of (by decide) h8⟩
theorem x46_61 : AW sv 46 61 [v0, v1, v2, v3, v4] (.int x :: r) h 0 0 Q = if x = 0 then AW sv 46 72 [v0, v1, v2, v3, v4] r h 0 0 Q else AW sv 46 64 [v0, v1, v2, v3, v4] r h 0 0 Q := e_z_eq am_h46 dX6_readWatcher_61 rfl
theorem x46_64 : AW sv 46 64 [v0, .ref a, v2, v3, v4] r h 0 0 Q = AW sv 46 65 [v0, .ref a, v2, v3, v4] (.ref a :: r) h 0 0 Q := e_pv am_h46 dX6_readWatcher_64 rfl rfl rfl rfl
theorem x46_65 : AW sv 46 65 [v0, v1, v2, .int x, v4] r h 0 0 Q = AW sv 46 66 [v0, v1, v2, .int x, v4] (.int x :: r) h 0 0 Q := e_pv am_h46 dX6_readWatcher_65 rfl rfl rfl rfl
theorem x46_66 : AW sv 46 66 [v0, v1, v2, v3, .int x] r h 0 0 Q = AW sv 46 68 [v0, v1, v2, v3, .int x] (.int x :: r) h 0 0 Q := e_pv am_h46 dX6_readWatcher_66 rfl rfl rfl rfl
theorem x46_68 (hr : am_St a) (h8 : am_cs r ≤ 8) : AW sv 46 68 [v0, v1, v2, v3, v4] (.int x1 :: .int x0 :: .ref (a + 7) :: r) (am_toH σ) 0 0 Q = AM sv 8 [.ref (a + 7), .int x0, .int x1] (am_toH σ) (fun v h1 => AW sv 46 71 [v0, v1, v2, v3, v4] (v.toList ++ r) h1 0 0 Q) := e_cV (as := [.int x0, .int x1]) am_h46 dX6_readWatcher_68 ml_6_92 (by decide) am_h8 rfl (is1 hr) rfl rfl ⟨by decide, Nat.le_of_ble_eq_true rfl, am_rc_of (by decide) h8⟩
theorem x46_71 : AW sv 46 71 [v0, v1, v2, v3, v4] [] h 0 0 Q = Q none h := e_vret am_h46 dX6_readWatcher_71 rfl ⟨rfl, rfl⟩
theorem x46_72 (hc : v3.category = 1) : AW sv 46 72 [v0, v1, v2, v3, .int x] r h 0 0 Q = AW sv 46 75 [v0, v1, v2, v3, .int (x + (1))] r h 0 0 Q := e_pv am_h46 dX6_readWatcher_72 rfl rfl rfl (am_inc_of (ls := [v0, v1, v2, v3, .int x]) (k := 4) rfl c_iconst_1 (am_c1_of (ls := [v0, v1, v2, v3, .int x]) (k := 3) (v := v3) rfl hc))
theorem x46_75 : AW sv 46 75 [v0, v1, v2, v3, v4] r h 0 0 Q = AW sv 46 45 [v0, v1, v2, v3, v4] r h 0 0 Q := e_goto am_h46 dX6_readWatcher_75 rfl
theorem x46_78 : AW sv 46 78 [.ref a, v1, v2, v3, v4] r h 0 0 Q = AW sv 46 79 [.ref a, v1, v2, v3, v4] (.ref a :: r) h 0 0 Q := e_pv am_h46 dX6_readWatcher_78 rfl rfl rfl rfl
theorem x46_79 : AW sv 46 79 [v0, v1, v2, v3, v4] r h 0 0 Q = AW sv 46 80 [v0, v1, v2, v3, v4] (.int (1) :: r) h 0 0 Q := e_iconstv am_h46 dX6_readWatcher_79 c_iconst_1
theorem x46_80 (hz : x = 0 ∨ x = 1) : AW sv 46 80 [v0, v1, v2, v3, v4] (.int x :: .ref 65 :: r) (am_toH σ) 0 0 Q = AW sv 46 83 [v0, v1, v2, v3, v4] r (am_toH (am_wr σ 65 (upd (σ.1 65) 3 x))) 0 0 Q := e_putI am_h46 dX6_readWatcher_80 fl_6_47 is6 rfl rfl (am_vz_bool hz)
theorem x46_83 : AW sv 46 83 [v0, v1, v2, v3, v4] [] h 0 0 Q = Q none h := e_vret am_h46 dX6_readWatcher_83 rfl ⟨rfl, rfl⟩
theorem n46 : AM sv 46 [.ref a, .ref b0] h Q = AW sv 46 0 [.ref a, .ref b0, .null, .null, .null] [] h 0 0 Q := rfl
theorem x47_0 : AW sv 47 0 [.ref a, v1] r h 0 0 Q = AW sv 47 1 [.ref a, v1] (.ref a :: r) h 0 0 Q := e_pv am_h47 dX6_placeAndSize_0 rfl rfl rfl rfl
theorem x47_1 : AW sv 47 1 [v0, v1] r h 0 0 Q = AW sv 47 2 [v0, v1] (.int (0) :: r) h 0 0 Q := e_iconstv am_h47 dX6_placeAndSize_1 c_iconst_0
theorem x47_2 : AW sv 47 2 [v0, v1] r h 0 0 Q = AW sv 47 3 [v0, v1] (.int (4) :: r) h 0 0 Q := e_iconstv am_h47 dX6_placeAndSize_2 c_iconst_4
theorem x47_3 (h8 : am_cs r ≤ 8) : AW sv 47 3 [v0, v1] (.int x1 :: .int x0 :: .ref 65 :: r) (am_toH σ) 0 0 Q = AM sv 50 [.ref 65, .int x0, .int x1] (am_toH σ) (fun v h1 => AW sv 47 6 [v0, v1] (v.toList ++ r) h1 0 0 Q) := e_cV (as := [.int x0, .int x1]) am_h47 dX6_placeAndSize_3 ml_6_69 (by decide) am_h50 rfl is6 rfl rfl ⟨by decide, Nat.le_of_ble_eq_true rfl, am_rc_of (by decide) h8⟩
theorem x47_6 (hc : v0.category = 1) : AW sv 47 6 [v0, v1] (.int x :: r) h 0 0 Q = AW sv 47 7 [v0, .int x] r h 0 0 Q := e_pv am_h47 dX6_placeAndSize_6 rfl rfl rfl (am_sti_of (Nat.le_of_ble_eq_true rfl) (am_c1_of rfl hc))
theorem x47_7 : AW sv 47 7 [v0, v1] r h 0 0 Q = AW sv 47 9 [v0, v1] (.int (10) :: r) h 0 0 Q := e_bipushv am_h47 dX6_placeAndSize_7 c_bipush_10
theorem x47_9 : AW sv 47 9 [v0, .int x] r h 0 0 Q = AW sv 47 10 [v0, .int x] (.int x :: r) h 0 0 Q := e_pv am_h47 dX6_placeAndSize_9 rfl rfl rfl rfl
theorem x47_10 : AW sv 47 10 [v0, v1] (.int y :: .int x :: r) h 0 0 Q = AW sv 47 11 [v0, v1] (.int (x * y) :: r) h 0 0 Q := e_imul am_h47 dX6_placeAndSize_10
theorem x47_11 : AW sv 47 11 [.ref a, v1] r h 0 0 Q = AW sv 47 12 [.ref a, v1] (.ref a :: r) h 0 0 Q := e_pv am_h47 dX6_placeAndSize_11 rfl rfl rfl rfl
theorem x47_12 : AW sv 47 12 [v0, v1] r h 0 0 Q = AW sv 47 13 [v0, v1] (.int (1) :: r) h 0 0 Q := e_iconstv am_h47 dX6_placeAndSize_12 c_iconst_1
theorem x47_13 : AW sv 47 13 [v0, v1] r h 0 0 Q = AW sv 47 15 [v0, v1] (.int (10) :: r) h 0 0 Q := e_bipushv am_h47 dX6_placeAndSize_13 c_bipush_10
theorem x47_15 (h8 : am_cs r ≤ 8) : AW sv 47 15 [v0, v1] (.int x1 :: .int x0 :: .ref 65 :: r) (am_toH σ) 0 0 Q = AM sv 50 [.ref 65, .int x0, .int x1] (am_toH σ) (fun v h1 => AW sv 47 18 [v0, v1] (v.toList ++ r) h1 0 0 Q) := e_cV (as := [.int x0, .int x1]) am_h47 dX6_placeAndSize_15 ml_6_69 (by decide) am_h50 rfl is6 rfl rfl ⟨by decide, Nat.le_of_ble_eq_true rfl, am_rc_of (by decide) h8⟩
theorem x47_18 : AW sv 47 18 [v0, v1] (.int y :: .int x :: r) h 0 0 Q = AW sv 47 19 [v0, v1] (.int (x + y) :: r) h 0 0 Q := e_iadd am_h47 dX6_placeAndSize_18
theorem x47_19 : AW sv 47 19 [v0, v1] [.int x] h 0 0 Q = Q (some (.int x)) h := e_iret am_h47 dX6_placeAndSize_19 rfl ⟨rfl, rfl⟩
theorem n47 : AM sv 47 [.ref a] h Q = AW sv 47 0 [.ref a, .null] [] h 0 0 Q := rfl
theorem x48_0 : AW sv 48 0 [.ref a] r h 0 0 Q = AW sv 48 1 [.ref a] (.ref a :: r) h 0 0 Q := e_pv am_h48 dX6_next_0 rfl rfl rfl rfl
theorem x48_1 : AW sv 48 1 [v0] (.ref 65 :: r) (am_toH σ) 0 0 Q = AW sv 48 4 [v0] (.int (σ.1 65 2) :: r) (am_toH σ) 0 0 Q := e_getI am_h48 dX6_next_1 fl_6_44 is6 rfl
theorem x48_4 : AW sv 48 4 [.ref a] r h 0 0 Q = AW sv 48 5 [.ref a] (.ref a :: r) h 0 0 Q := e_pv am_h48 dX6_next_4 rfl rfl rfl rfl
theorem x48_5 : AW sv 48 5 [v0] (.ref 65 :: r) (am_toH σ) 0 0 Q = AW sv 48 8 [v0] (.int (σ.1 65 1) :: r) (am_toH σ) 0 0 Q := e_getI am_h48 dX6_next_5 fl_6_21 is6 rfl
theorem x48_8 : AW sv 48 8 [v0] (.int y :: .int x :: r) h 0 0 Q = if y ≤ x then AW sv 48 38 [v0] r h 0 0 Q else AW sv 48 11 [v0] r h 0 0 Q := e_c_ge am_h48 dX6_next_8 rfl
theorem x48_11 : AW sv 48 11 [.ref a] r h 0 0 Q = AW sv 48 12 [.ref a] (.ref a :: r) h 0 0 Q := e_pv am_h48 dX6_next_11 rfl rfl rfl rfl
theorem x48_12 : AW sv 48 12 [v0] (.ref 65 :: r) (am_toH σ) 0 0 Q = AW sv 48 15 [v0] (.ref 66 :: r) (am_toH σ) 0 0 Q := e_getR am_h48 dX6_next_12 fl_6_9 is6 rfl
theorem x48_15 : AW sv 48 15 [.ref a] r h 0 0 Q = AW sv 48 16 [.ref a] (.ref a :: r) h 0 0 Q := e_pv am_h48 dX6_next_15 rfl rfl rfl rfl
theorem x48_16 : AW sv 48 16 [v0] (.ref 65 :: r) (am_toH σ) 0 0 Q = AW sv 48 19 [v0] (.int (σ.1 65 2) :: r) (am_toH σ) 0 0 Q := e_getI am_h48 dX6_next_16 fl_6_44 is6 rfl
theorem x48_19 (hi : am_in x (am_ln a) = true) : AW sv 48 19 [v0] (.int x :: .ref a :: r) (am_toH σ) 0 0 Q = AW sv 48 20 [v0] (.int (σ.1 a x.toNatClampNeg) :: r) (am_toH σ) 0 0 Q := e_iald am_h48 dX6_next_19 hi
theorem x48_20 : AW sv 48 20 [v0] r h 0 0 Q = AW sv 48 22 [v0] (.int (32) :: r) h 0 0 Q := e_bipushv am_h48 dX6_next_20 c_bipush_32
theorem x48_22 : AW sv 48 22 [v0] (.int y :: .int x :: r) h 0 0 Q = if ¬ x = y then AW sv 48 38 [v0] r h 0 0 Q else AW sv 48 25 [v0] r h 0 0 Q := e_c_ne am_h48 dX6_next_22 rfl
theorem x48_25 : AW sv 48 25 [.ref a] r h 0 0 Q = AW sv 48 26 [.ref a] (.ref a :: r) h 0 0 Q := e_pv am_h48 dX6_next_25 rfl rfl rfl rfl
theorem x48_26 (hc : v.category = 1) : AW sv 48 26 [v0] (v :: r) h 0 0 Q = AW sv 48 27 [v0] (v :: v :: r) h 0 0 Q := e_dup am_h48 dX6_next_26 hc
theorem x48_27 : AW sv 48 27 [v0] (.ref 65 :: r) (am_toH σ) 0 0 Q = AW sv 48 30 [v0] (.int (σ.1 65 2) :: r) (am_toH σ) 0 0 Q := e_getI am_h48 dX6_next_27 fl_6_44 is6 rfl
theorem x48_30 : AW sv 48 30 [v0] r h 0 0 Q = AW sv 48 31 [v0] (.int (1) :: r) h 0 0 Q := e_iconstv am_h48 dX6_next_30 c_iconst_1
theorem x48_31 : AW sv 48 31 [v0] (.int y :: .int x :: r) h 0 0 Q = AW sv 48 32 [v0] (.int (x + y) :: r) h 0 0 Q := e_iadd am_h48 dX6_next_31
theorem x48_32 : AW sv 48 32 [v0] (.int x :: .ref 65 :: r) (am_toH σ) 0 0 Q = AW sv 48 35 [v0] r (am_toH (am_wr σ 65 (upd (σ.1 65) 2 x))) 0 0 Q := e_putI am_h48 dX6_next_32 fl_6_44 is6 rfl rfl rfl
theorem x48_35 : AW sv 48 35 [v0] r h 0 0 Q = AW sv 48 0 [v0] r h 0 0 Q := e_goto am_h48 dX6_next_35 rfl
theorem x48_38 : AW sv 48 38 [.ref a] r h 0 0 Q = AW sv 48 39 [.ref a] (.ref a :: r) h 0 0 Q := e_pv am_h48 dX6_next_38 rfl rfl rfl rfl
theorem x48_39 : AW sv 48 39 [v0] (.ref 65 :: r) (am_toH σ) 0 0 Q = AW sv 48 42 [v0] (.int (σ.1 65 2) :: r) (am_toH σ) 0 0 Q := e_getI am_h48 dX6_next_39 fl_6_44 is6 rfl
theorem x48_42 : AW sv 48 42 [.ref a] r h 0 0 Q = AW sv 48 43 [.ref a] (.ref a :: r) h 0 0 Q := e_pv am_h48 dX6_next_42 rfl rfl rfl rfl
theorem x48_43 : AW sv 48 43 [v0] (.ref 65 :: r) (am_toH σ) 0 0 Q = AW sv 48 46 [v0] (.int (σ.1 65 1) :: r) (am_toH σ) 0 0 Q := e_getI am_h48 dX6_next_43 fl_6_21 is6 rfl
theorem x48_46 : AW sv 48 46 [v0] (.int y :: .int x :: r) h 0 0 Q = if y ≤ x then AW sv 48 61 [v0] r h 0 0 Q else AW sv 48 49 [v0] r h 0 0 Q := e_c_ge am_h48 dX6_next_46 rfl
theorem x48_49 : AW sv 48 49 [.ref a] r h 0 0 Q = AW sv 48 50 [.ref a] (.ref a :: r) h 0 0 Q := e_pv am_h48 dX6_next_49 rfl rfl rfl rfl
theorem x48_50 : AW sv 48 50 [v0] (.ref 65 :: r) (am_toH σ) 0 0 Q = AW sv 48 53 [v0] (.ref 66 :: r) (am_toH σ) 0 0 Q := e_getR am_h48 dX6_next_50 fl_6_9 is6 rfl
theorem x48_53 : AW sv 48 53 [.ref a] r h 0 0 Q = AW sv 48 54 [.ref a] (.ref a :: r) h 0 0 Q := e_pv am_h48 dX6_next_53 rfl rfl rfl rfl
theorem x48_54 : AW sv 48 54 [v0] (.ref 65 :: r) (am_toH σ) 0 0 Q = AW sv 48 57 [v0] (.int (σ.1 65 2) :: r) (am_toH σ) 0 0 Q := e_getI am_h48 dX6_next_54 fl_6_44 is6 rfl
theorem x48_57 (hi : am_in x (am_ln a) = true) : AW sv 48 57 [v0] (.int x :: .ref a :: r) (am_toH σ) 0 0 Q = AW sv 48 58 [v0] (.int (σ.1 a x.toNatClampNeg) :: r) (am_toH σ) 0 0 Q := e_iald am_h48 dX6_next_57 hi
theorem x48_58 : AW sv 48 58 [v0] r h 0 0 Q = AW sv 48 62 [v0] r h 0 0 Q := e_goto am_h48 dX6_next_58 rfl
theorem x48_61 : AW sv 48 61 [v0] r h 0 0 Q = AW sv 48 62 [v0] (.int (-1) :: r) h 0 0 Q := e_iconstv am_h48 dX6_next_61 c_iconst_m1
theorem x48_62 : AW sv 48 62 [v0] [.int x] h 0 0 Q = Q (some (.int x)) h := e_iret am_h48 dX6_next_62 rfl ⟨rfl, rfl⟩
theorem n48 : AM sv 48 [.ref a] h Q = AW sv 48 0 [.ref a] [] h 0 0 Q := rfl
theorem x49_0 : AW sv 49 0 [.ref a, v1] r h 0 0 Q = AW sv 49 1 [.ref a, v1] (.ref a :: r) h 0 0 Q := e_pv am_h49 dX6_accepts_0 rfl rfl rfl rfl
theorem x49_1 : AW sv 49 1 [v0, v1] (.ref 65 :: r) (am_toH σ) 0 0 Q = AW sv 49 4 [v0, v1] (.int (σ.1 65 3) :: r) (am_toH σ) 0 0 Q := e_getI am_h49 dX6_accepts_1 fl_6_47 is6 rfl
theorem x49_4 : AW sv 49 4 [v0, v1] (.int x :: r) h 0 0 Q = if ¬ x = 0 then AW sv 49 15 [v0, v1] r h 0 0 Q else AW sv 49 7 [v0, v1] r h 0 0 Q := e_z_ne am_h49 dX6_accepts_4 rfl
theorem x49_7 : AW sv 49 7 [.ref a, v1] r h 0 0 Q = AW sv 49 8 [.ref a, v1] (.ref a :: r) h 0 0 Q := e_pv am_h49 dX6_accepts_7 rfl rfl rfl rfl
theorem x49_8 (h8 : am_cs r ≤ 8) : AW sv 49 8 [v0, v1] (.ref 65 :: r) (am_toH σ) 0 0 Q = AM sv 48 [.ref 65] (am_toH σ) (fun v h1 => AW sv 49 11 [v0, v1] (v.toList ++ r) h1 0 0 Q) := e_cV (as := []) am_h49 dX6_accepts_8 ml_6_51 (by decide) am_h48 rfl is6 rfl rfl ⟨by decide, Nat.le_of_ble_eq_true rfl, am_rc_of (by decide) h8⟩
theorem x49_11 : AW sv 49 11 [v0, .int x] r h 0 0 Q = AW sv 49 12 [v0, .int x] (.int x :: r) h 0 0 Q := e_pv am_h49 dX6_accepts_11 rfl rfl rfl rfl
theorem x49_12 : AW sv 49 12 [v0, v1] (.int y :: .int x :: r) h 0 0 Q = if x = y then AW sv 49 17 [v0, v1] r h 0 0 Q else AW sv 49 15 [v0, v1] r h 0 0 Q := e_c_eq am_h49 dX6_accepts_12 rfl
theorem x49_15 : AW sv 49 15 [v0, v1] r h 0 0 Q = AW sv 49 16 [v0, v1] (.int (0) :: r) h 0 0 Q := e_iconstv am_h49 dX6_accepts_15 c_iconst_0
theorem x49_16 (hz : x = 0 ∨ x = 1) : AW sv 49 16 [v0, v1] [.int x] h 0 0 Q = Q (some (.int x)) h := e_zret am_h49 dX6_accepts_16 rfl ⟨rfl, rfl⟩ hz
theorem x49_17 : AW sv 49 17 [.ref a, v1] r h 0 0 Q = AW sv 49 18 [.ref a, v1] (.ref a :: r) h 0 0 Q := e_pv am_h49 dX6_accepts_17 rfl rfl rfl rfl
theorem x49_18 (hc : v.category = 1) : AW sv 49 18 [v0, v1] (v :: r) h 0 0 Q = AW sv 49 19 [v0, v1] (v :: v :: r) h 0 0 Q := e_dup am_h49 dX6_accepts_18 hc
theorem x49_19 : AW sv 49 19 [v0, v1] (.ref 65 :: r) (am_toH σ) 0 0 Q = AW sv 49 22 [v0, v1] (.int (σ.1 65 2) :: r) (am_toH σ) 0 0 Q := e_getI am_h49 dX6_accepts_19 fl_6_44 is6 rfl
theorem x49_22 : AW sv 49 22 [v0, v1] r h 0 0 Q = AW sv 49 23 [v0, v1] (.int (1) :: r) h 0 0 Q := e_iconstv am_h49 dX6_accepts_22 c_iconst_1
theorem x49_23 : AW sv 49 23 [v0, v1] (.int y :: .int x :: r) h 0 0 Q = AW sv 49 24 [v0, v1] (.int (x + y) :: r) h 0 0 Q := e_iadd am_h49 dX6_accepts_23
theorem x49_24 : AW sv 49 24 [v0, v1] (.int x :: .ref 65 :: r) (am_toH σ) 0 0 Q = AW sv 49 27 [v0, v1] r (am_toH (am_wr σ 65 (upd (σ.1 65) 2 x))) 0 0 Q := e_putI am_h49 dX6_accepts_24 fl_6_44 is6 rfl rfl rfl
theorem x49_27 : AW sv 49 27 [v0, v1] r h 0 0 Q = AW sv 49 28 [v0, v1] (.int (1) :: r) h 0 0 Q := e_iconstv am_h49 dX6_accepts_27 c_iconst_1
theorem x49_28 (hz : x = 0 ∨ x = 1) : AW sv 49 28 [v0, v1] [.int x] h 0 0 Q = Q (some (.int x)) h := e_zret am_h49 dX6_accepts_28 rfl ⟨rfl, rfl⟩ hz
theorem n49 : AM sv 49 [.ref a, .int x0] h Q = AW sv 49 0 [.ref a, .int x0] [] h 0 0 Q := rfl
theorem x50_0 : AW sv 50 0 [.ref a, v1, v2, v3] r h 0 0 Q = AW sv 50 1 [.ref a, v1, v2, v3] (.ref a :: r) h 0 0 Q := e_pv am_h50 dX6_digit_0 rfl rfl rfl rfl
theorem x50_1 (h8 : am_cs r ≤ 8) : AW sv 50 1 [v0, v1, v2, v3] (.ref 65 :: r) (am_toH σ) 0 0 Q = AM sv 48 [.ref 65] (am_toH σ) (fun v h1 => AW sv 50 4 [v0, v1, v2, v3] (v.toList ++ r) h1 0 0 Q) := e_cV (as := []) am_h50 dX6_digit_1 ml_6_51 (by decide) am_h48 rfl is6 rfl rfl ⟨by decide, Nat.le_of_ble_eq_true rfl, am_rc_of (by decide) h8⟩
theorem x50_4 : AW sv 50 4 [v0, v1, v2, v3] r h 0 0 Q = AW sv 50 6 [v0, v1, v2, v3] (.int (48) :: r) h 0 0 Q := e_bipushv am_h50 dX6_digit_4 c_bipush_48
theorem x50_6 : AW sv 50 6 [v0, v1, v2, v3] (.int y :: .int x :: r) h 0 0 Q = AW sv 50 7 [v0, v1, v2, v3] (.int (x - y) :: r) h 0 0 Q := e_isub am_h50 dX6_digit_6
theorem x50_7 (hc : v2.category = 1) : AW sv 50 7 [v0, v1, v2, v3] (.int x :: r) h 0 0 Q = AW sv 50 8 [v0, v1, v2, .int x] r h 0 0 Q := e_pv am_h50 dX6_digit_7 rfl rfl rfl (am_sti_of (Nat.le_of_ble_eq_true rfl) (am_c1_of rfl hc))
theorem x50_8 : AW sv 50 8 [.ref a, v1, v2, v3] r h 0 0 Q = AW sv 50 9 [.ref a, v1, v2, v3] (.ref a :: r) h 0 0 Q := e_pv am_h50 dX6_digit_8 rfl rfl rfl rfl
theorem x50_9 : AW sv 50 9 [v0, v1, v2, v3] (.ref 65 :: r) (am_toH σ) 0 0 Q = AW sv 50 12 [v0, v1, v2, v3] (.int (σ.1 65 3) :: r) (am_toH σ) 0 0 Q := e_getI am_h50 dX6_digit_9 fl_6_47 is6 rfl
theorem x50_12 : AW sv 50 12 [v0, v1, v2, v3] (.int x :: r) h 0 0 Q = if ¬ x = 0 then AW sv 50 25 [v0, v1, v2, v3] r h 0 0 Q else AW sv 50 15 [v0, v1, v2, v3] r h 0 0 Q := e_z_ne am_h50 dX6_digit_12 rfl
theorem x50_15 : AW sv 50 15 [v0, v1, v2, .int x] r h 0 0 Q = AW sv 50 16 [v0, v1, v2, .int x] (.int x :: r) h 0 0 Q := e_pv am_h50 dX6_digit_15 rfl rfl rfl rfl
theorem x50_16 : AW sv 50 16 [v0, .int x, v2, v3] r h 0 0 Q = AW sv 50 17 [v0, .int x, v2, v3] (.int x :: r) h 0 0 Q := e_pv am_h50 dX6_digit_16 rfl rfl rfl rfl
theorem x50_17 : AW sv 50 17 [v0, v1, v2, v3] (.int y :: .int x :: r) h 0 0 Q = if x < y then AW sv 50 25 [v0, v1, v2, v3] r h 0 0 Q else AW sv 50 20 [v0, v1, v2, v3] r h 0 0 Q := e_c_lt am_h50 dX6_digit_17 rfl
theorem x50_20 : AW sv 50 20 [v0, v1, v2, .int x] r h 0 0 Q = AW sv 50 21 [v0, v1, v2, .int x] (.int x :: r) h 0 0 Q := e_pv am_h50 dX6_digit_20 rfl rfl rfl rfl
theorem x50_21 : AW sv 50 21 [v0, v1, .int x, v3] r h 0 0 Q = AW sv 50 22 [v0, v1, .int x, v3] (.int x :: r) h 0 0 Q := e_pv am_h50 dX6_digit_21 rfl rfl rfl rfl
theorem x50_22 : AW sv 50 22 [v0, v1, v2, v3] (.int y :: .int x :: r) h 0 0 Q = if x < y then AW sv 50 32 [v0, v1, v2, v3] r h 0 0 Q else AW sv 50 25 [v0, v1, v2, v3] r h 0 0 Q := e_c_lt am_h50 dX6_digit_22 rfl
theorem x50_25 : AW sv 50 25 [.ref a, v1, v2, v3] r h 0 0 Q = AW sv 50 26 [.ref a, v1, v2, v3] (.ref a :: r) h 0 0 Q := e_pv am_h50 dX6_digit_25 rfl rfl rfl rfl
theorem x50_26 : AW sv 50 26 [v0, v1, v2, v3] r h 0 0 Q = AW sv 50 27 [v0, v1, v2, v3] (.int (1) :: r) h 0 0 Q := e_iconstv am_h50 dX6_digit_26 c_iconst_1
theorem x50_27 (hz : x = 0 ∨ x = 1) : AW sv 50 27 [v0, v1, v2, v3] (.int x :: .ref 65 :: r) (am_toH σ) 0 0 Q = AW sv 50 30 [v0, v1, v2, v3] r (am_toH (am_wr σ 65 (upd (σ.1 65) 3 x))) 0 0 Q := e_putI am_h50 dX6_digit_27 fl_6_47 is6 rfl rfl (am_vz_bool hz)
theorem x50_30 : AW sv 50 30 [v0, v1, v2, v3] r h 0 0 Q = AW sv 50 31 [v0, v1, v2, v3] (.int (0) :: r) h 0 0 Q := e_iconstv am_h50 dX6_digit_30 c_iconst_0
theorem x50_31 : AW sv 50 31 [v0, v1, v2, v3] [.int x] h 0 0 Q = Q (some (.int x)) h := e_iret am_h50 dX6_digit_31 rfl ⟨rfl, rfl⟩
theorem x50_32 : AW sv 50 32 [.ref a, v1, v2, v3] r h 0 0 Q = AW sv 50 33 [.ref a, v1, v2, v3] (.ref a :: r) h 0 0 Q := e_pv am_h50 dX6_digit_32 rfl rfl rfl rfl
theorem x50_33 (hc : v.category = 1) : AW sv 50 33 [v0, v1, v2, v3] (v :: r) h 0 0 Q = AW sv 50 34 [v0, v1, v2, v3] (v :: v :: r) h 0 0 Q := e_dup am_h50 dX6_digit_33 hc
theorem x50_34 : AW sv 50 34 [v0, v1, v2, v3] (.ref 65 :: r) (am_toH σ) 0 0 Q = AW sv 50 37 [v0, v1, v2, v3] (.int (σ.1 65 2) :: r) (am_toH σ) 0 0 Q := e_getI am_h50 dX6_digit_34 fl_6_44 is6 rfl
theorem x50_37 : AW sv 50 37 [v0, v1, v2, v3] r h 0 0 Q = AW sv 50 38 [v0, v1, v2, v3] (.int (1) :: r) h 0 0 Q := e_iconstv am_h50 dX6_digit_37 c_iconst_1
theorem x50_38 : AW sv 50 38 [v0, v1, v2, v3] (.int y :: .int x :: r) h 0 0 Q = AW sv 50 39 [v0, v1, v2, v3] (.int (x + y) :: r) h 0 0 Q := e_iadd am_h50 dX6_digit_38
theorem x50_39 : AW sv 50 39 [v0, v1, v2, v3] (.int x :: .ref 65 :: r) (am_toH σ) 0 0 Q = AW sv 50 42 [v0, v1, v2, v3] r (am_toH (am_wr σ 65 (upd (σ.1 65) 2 x))) 0 0 Q := e_putI am_h50 dX6_digit_39 fl_6_44 is6 rfl rfl rfl
theorem x50_42 : AW sv 50 42 [v0, v1, v2, .int x] r h 0 0 Q = AW sv 50 43 [v0, v1, v2, .int x] (.int x :: r) h 0 0 Q := e_pv am_h50 dX6_digit_42 rfl rfl rfl rfl
theorem x50_43 : AW sv 50 43 [v0, v1, v2, v3] [.int x] h 0 0 Q = Q (some (.int x)) h := e_iret am_h50 dX6_digit_43 rfl ⟨rfl, rfl⟩
theorem n50 : AM sv 50 [.ref a, .int x0, .int x1] h Q = AW sv 50 0 [.ref a, .int x0, .int x1, .null] [] h 0 0 Q := rfl
theorem x51_0 : AW sv 51 0 [.ref a, v1, v2, v3] r h 0 0 Q = AW sv 51 1 [.ref a, v1, v2, v3] (.ref a :: r) h 0 0 Q := e_pv am_h51 dX6_number_0 rfl rfl rfl rfl
theorem x51_1 (h8 : am_cs r ≤ 8) : AW sv 51 1 [v0, v1, v2, v3] (.ref 65 :: r) (am_toH σ) 0 0 Q = AM sv 48 [.ref 65] (am_toH σ) (fun v h1 => AW sv 51 4 [v0, v1, v2, v3] (v.toList ++ r) h1 0 0 Q) := e_cV (as := []) am_h51 dX6_number_1 ml_6_51 (by decide) am_h48 rfl is6 rfl rfl ⟨by decide, Nat.le_of_ble_eq_true rfl, am_rc_of (by decide) h8⟩
theorem x51_4 (hc : v.category = 1) : AW sv 51 4 [v0, v1, v2, v3] (v :: r) h 0 0 Q = AW sv 51 5 [v0, v1, v2, v3] r h 0 0 Q := e_pop am_h51 dX6_number_4 hc
theorem x51_5 : AW sv 51 5 [.ref a, v1, v2, v3] r h 0 0 Q = AW sv 51 6 [.ref a, v1, v2, v3] (.ref a :: r) h 0 0 Q := e_pv am_h51 dX6_number_5 rfl rfl rfl rfl
theorem x51_6 : AW sv 51 6 [v0, v1, v2, v3] (.ref 65 :: r) (am_toH σ) 0 0 Q = AW sv 51 9 [v0, v1, v2, v3] (.int (σ.1 65 2) :: r) (am_toH σ) 0 0 Q := e_getI am_h51 dX6_number_6 fl_6_44 is6 rfl
theorem x51_9 (hc : v1.category = 1) : AW sv 51 9 [v0, v1, v2, v3] (.int x :: r) h 0 0 Q = AW sv 51 10 [v0, v1, .int x, v3] r h 0 0 Q := e_pv am_h51 dX6_number_9 rfl rfl rfl (am_sti_of (Nat.le_of_ble_eq_true rfl) (am_c1_of rfl hc))
theorem x51_10 : AW sv 51 10 [.ref a, v1, v2, v3] r h 0 0 Q = AW sv 51 11 [.ref a, v1, v2, v3] (.ref a :: r) h 0 0 Q := e_pv am_h51 dX6_number_10 rfl rfl rfl rfl
theorem x51_11 : AW sv 51 11 [v0, v1, v2, v3] r h 0 0 Q = AW sv 51 12 [v0, v1, v2, v3] (.int (0) :: r) h 0 0 Q := e_iconstv am_h51 dX6_number_11 c_iconst_0
theorem x51_12 : AW sv 51 12 [v0, v1, v2, v3] r h 0 0 Q = AW sv 51 14 [v0, v1, v2, v3] (.int (10) :: r) h 0 0 Q := e_bipushv am_h51 dX6_number_12 c_bipush_10
theorem x51_14 (h8 : am_cs r ≤ 8) : AW sv 51 14 [v0, v1, v2, v3] (.int x1 :: .int x0 :: .ref 65 :: r) (am_toH σ) 0 0 Q = AM sv 50 [.ref 65, .int x0, .int x1] (am_toH σ) (fun v h1 => AW sv 51 17 [v0, v1, v2, v3] (v.toList ++ r) h1 0 0 Q) := e_cV (as := [.int x0, .int x1]) am_h51 dX6_number_14 ml_6_69 (by decide) am_h50 rfl is6 rfl rfl ⟨by decide, Nat.le_of_ble_eq_true rfl, am_rc_of (by decide) h8⟩
theorem x51_17 (hc : v2.category = 1) : AW sv 51 17 [v0, v1, v2, v3] (.int x :: r) h 0 0 Q = AW sv 51 18 [v0, v1, v2, .int x] r h 0 0 Q := e_pv am_h51 dX6_number_17 rfl rfl rfl (am_sti_of (Nat.le_of_ble_eq_true rfl) (am_c1_of rfl hc))
theorem x51_18 : AW sv 51 18 [.ref a, v1, v2, v3] r h 0 0 Q = AW sv 51 19 [.ref a, v1, v2, v3] (.ref a :: r) h 0 0 Q := e_pv am_h51 dX6_number_18 rfl rfl rfl rfl
theorem x51_19 : AW sv 51 19 [v0, v1, v2, v3] (.ref 65 :: r) (am_toH σ) 0 0 Q = AW sv 51 22 [v0, v1, v2, v3] (.int (σ.1 65 3) :: r) (am_toH σ) 0 0 Q := e_getI am_h51 dX6_number_19 fl_6_47 is6 rfl
theorem x51_22 : AW sv 51 22 [v0, v1, v2, v3] (.int x :: r) h 0 0 Q = if ¬ x = 0 then AW sv 51 99 [v0, v1, v2, v3] r h 0 0 Q else AW sv 51 25 [v0, v1, v2, v3] r h 0 0 Q := e_z_ne am_h51 dX6_number_22 rfl
theorem x51_25 : AW sv 51 25 [.ref a, v1, v2, v3] r h 0 0 Q = AW sv 51 26 [.ref a, v1, v2, v3] (.ref a :: r) h 0 0 Q := e_pv am_h51 dX6_number_25 rfl rfl rfl rfl
theorem x51_26 : AW sv 51 26 [v0, v1, v2, v3] (.ref 65 :: r) (am_toH σ) 0 0 Q = AW sv 51 29 [v0, v1, v2, v3] (.int (σ.1 65 2) :: r) (am_toH σ) 0 0 Q := e_getI am_h51 dX6_number_26 fl_6_44 is6 rfl
theorem x51_29 : AW sv 51 29 [.ref a, v1, v2, v3] r h 0 0 Q = AW sv 51 30 [.ref a, v1, v2, v3] (.ref a :: r) h 0 0 Q := e_pv am_h51 dX6_number_29 rfl rfl rfl rfl
theorem x51_30 : AW sv 51 30 [v0, v1, v2, v3] (.ref 65 :: r) (am_toH σ) 0 0 Q = AW sv 51 33 [v0, v1, v2, v3] (.int (σ.1 65 1) :: r) (am_toH σ) 0 0 Q := e_getI am_h51 dX6_number_30 fl_6_21 is6 rfl
theorem x51_33 : AW sv 51 33 [v0, v1, v2, v3] (.int y :: .int x :: r) h 0 0 Q = if y ≤ x then AW sv 51 99 [v0, v1, v2, v3] r h 0 0 Q else AW sv 51 36 [v0, v1, v2, v3] r h 0 0 Q := e_c_ge am_h51 dX6_number_33 rfl
theorem x51_36 : AW sv 51 36 [.ref a, v1, v2, v3] r h 0 0 Q = AW sv 51 37 [.ref a, v1, v2, v3] (.ref a :: r) h 0 0 Q := e_pv am_h51 dX6_number_36 rfl rfl rfl rfl
theorem x51_37 : AW sv 51 37 [v0, v1, v2, v3] (.ref 65 :: r) (am_toH σ) 0 0 Q = AW sv 51 40 [v0, v1, v2, v3] (.ref 66 :: r) (am_toH σ) 0 0 Q := e_getR am_h51 dX6_number_37 fl_6_9 is6 rfl
theorem x51_40 : AW sv 51 40 [.ref a, v1, v2, v3] r h 0 0 Q = AW sv 51 41 [.ref a, v1, v2, v3] (.ref a :: r) h 0 0 Q := e_pv am_h51 dX6_number_40 rfl rfl rfl rfl
theorem x51_41 : AW sv 51 41 [v0, v1, v2, v3] (.ref 65 :: r) (am_toH σ) 0 0 Q = AW sv 51 44 [v0, v1, v2, v3] (.int (σ.1 65 2) :: r) (am_toH σ) 0 0 Q := e_getI am_h51 dX6_number_41 fl_6_44 is6 rfl
theorem x51_44 (hi : am_in x (am_ln a) = true) : AW sv 51 44 [v0, v1, v2, v3] (.int x :: .ref a :: r) (am_toH σ) 0 0 Q = AW sv 51 45 [v0, v1, v2, v3] (.int (σ.1 a x.toNatClampNeg) :: r) (am_toH σ) 0 0 Q := e_iald am_h51 dX6_number_44 hi
theorem x51_45 : AW sv 51 45 [v0, v1, v2, v3] r h 0 0 Q = AW sv 51 47 [v0, v1, v2, v3] (.int (48) :: r) h 0 0 Q := e_bipushv am_h51 dX6_number_45 c_bipush_48
theorem x51_47 : AW sv 51 47 [v0, v1, v2, v3] (.int y :: .int x :: r) h 0 0 Q = if x < y then AW sv 51 99 [v0, v1, v2, v3] r h 0 0 Q else AW sv 51 50 [v0, v1, v2, v3] r h 0 0 Q := e_c_lt am_h51 dX6_number_47 rfl
theorem x51_50 : AW sv 51 50 [.ref a, v1, v2, v3] r h 0 0 Q = AW sv 51 51 [.ref a, v1, v2, v3] (.ref a :: r) h 0 0 Q := e_pv am_h51 dX6_number_50 rfl rfl rfl rfl
theorem x51_51 : AW sv 51 51 [v0, v1, v2, v3] (.ref 65 :: r) (am_toH σ) 0 0 Q = AW sv 51 54 [v0, v1, v2, v3] (.ref 66 :: r) (am_toH σ) 0 0 Q := e_getR am_h51 dX6_number_51 fl_6_9 is6 rfl
theorem x51_54 : AW sv 51 54 [.ref a, v1, v2, v3] r h 0 0 Q = AW sv 51 55 [.ref a, v1, v2, v3] (.ref a :: r) h 0 0 Q := e_pv am_h51 dX6_number_54 rfl rfl rfl rfl
theorem x51_55 : AW sv 51 55 [v0, v1, v2, v3] (.ref 65 :: r) (am_toH σ) 0 0 Q = AW sv 51 58 [v0, v1, v2, v3] (.int (σ.1 65 2) :: r) (am_toH σ) 0 0 Q := e_getI am_h51 dX6_number_55 fl_6_44 is6 rfl
theorem x51_58 (hi : am_in x (am_ln a) = true) : AW sv 51 58 [v0, v1, v2, v3] (.int x :: .ref a :: r) (am_toH σ) 0 0 Q = AW sv 51 59 [v0, v1, v2, v3] (.int (σ.1 a x.toNatClampNeg) :: r) (am_toH σ) 0 0 Q := e_iald am_h51 dX6_number_58 hi
theorem x51_59 : AW sv 51 59 [v0, v1, v2, v3] r h 0 0 Q = AW sv 51 61 [v0, v1, v2, v3] (.int (57) :: r) h 0 0 Q := e_bipushv am_h51 dX6_number_59 c_bipush_57
theorem x51_61 : AW sv 51 61 [v0, v1, v2, v3] (.int y :: .int x :: r) h 0 0 Q = if y < x then AW sv 51 99 [v0, v1, v2, v3] r h 0 0 Q else AW sv 51 64 [v0, v1, v2, v3] r h 0 0 Q := e_c_gt am_h51 dX6_number_61 rfl
theorem x51_64 : AW sv 51 64 [v0, .int x, v2, v3] r h 0 0 Q = AW sv 51 65 [v0, .int x, v2, v3] (.int x :: r) h 0 0 Q := e_pv am_h51 dX6_number_64 rfl rfl rfl rfl
theorem x51_65 : AW sv 51 65 [v0, v1, v2, v3] r h 0 0 Q = AW sv 51 67 [v0, v1, v2, v3] (.int (10) :: r) h 0 0 Q := e_bipushv am_h51 dX6_number_65 c_bipush_10
theorem x51_67 : AW sv 51 67 [v0, v1, v2, .int x] r h 0 0 Q = AW sv 51 68 [v0, v1, v2, .int x] (.int x :: r) h 0 0 Q := e_pv am_h51 dX6_number_67 rfl rfl rfl rfl
theorem x51_68 : AW sv 51 68 [v0, v1, v2, v3] (.int y :: .int x :: r) h 0 0 Q = AW sv 51 69 [v0, v1, v2, v3] (.int (x * y) :: r) h 0 0 Q := e_imul am_h51 dX6_number_68
theorem x51_69 : AW sv 51 69 [.ref a, v1, v2, v3] r h 0 0 Q = AW sv 51 70 [.ref a, v1, v2, v3] (.ref a :: r) h 0 0 Q := e_pv am_h51 dX6_number_69 rfl rfl rfl rfl
theorem x51_70 : AW sv 51 70 [v0, v1, v2, v3] (.ref 65 :: r) (am_toH σ) 0 0 Q = AW sv 51 73 [v0, v1, v2, v3] (.ref 66 :: r) (am_toH σ) 0 0 Q := e_getR am_h51 dX6_number_70 fl_6_9 is6 rfl
theorem x51_73 : AW sv 51 73 [.ref a, v1, v2, v3] r h 0 0 Q = AW sv 51 74 [.ref a, v1, v2, v3] (.ref a :: r) h 0 0 Q := e_pv am_h51 dX6_number_73 rfl rfl rfl rfl
theorem x51_74 : AW sv 51 74 [v0, v1, v2, v3] (.ref 65 :: r) (am_toH σ) 0 0 Q = AW sv 51 77 [v0, v1, v2, v3] (.int (σ.1 65 2) :: r) (am_toH σ) 0 0 Q := e_getI am_h51 dX6_number_74 fl_6_44 is6 rfl
theorem x51_77 (hi : am_in x (am_ln a) = true) : AW sv 51 77 [v0, v1, v2, v3] (.int x :: .ref a :: r) (am_toH σ) 0 0 Q = AW sv 51 78 [v0, v1, v2, v3] (.int (σ.1 a x.toNatClampNeg) :: r) (am_toH σ) 0 0 Q := e_iald am_h51 dX6_number_77 hi
theorem x51_78 : AW sv 51 78 [v0, v1, v2, v3] (.int y :: .int x :: r) h 0 0 Q = AW sv 51 79 [v0, v1, v2, v3] (.int (x + y) :: r) h 0 0 Q := e_iadd am_h51 dX6_number_78
theorem x51_79 : AW sv 51 79 [v0, v1, v2, v3] r h 0 0 Q = AW sv 51 81 [v0, v1, v2, v3] (.int (48) :: r) h 0 0 Q := e_bipushv am_h51 dX6_number_79 c_bipush_48
theorem x51_81 : AW sv 51 81 [v0, v1, v2, v3] (.int y :: .int x :: r) h 0 0 Q = AW sv 51 82 [v0, v1, v2, v3] (.int (x - y) :: r) h 0 0 Q := e_isub am_h51 dX6_number_81
theorem x51_82 (h8 : am_cs r ≤ 8) : AW sv 51 82 [v0, v1, v2, v3] (.int y :: .int x :: r) h 0 0 Q = AW sv 51 85 [v0, v1, v2, v3] (.int (if y < x then y else x) :: r) h 0 0 Q := e_mmin am_h51 dX6_number_82 ml_6_96 (am_rj13 (by decide) h8)
theorem x51_85 (hc : v2.category = 1) : AW sv 51 85 [v0, v1, v2, v3] (.int x :: r) h 0 0 Q = AW sv 51 86 [v0, v1, v2, .int x] r h 0 0 Q := e_pv am_h51 dX6_number_85 rfl rfl rfl (am_sti_of (Nat.le_of_ble_eq_true rfl) (am_c1_of rfl hc))
theorem x51_86 : AW sv 51 86 [.ref a, v1, v2, v3] r h 0 0 Q = AW sv 51 87 [.ref a, v1, v2, v3] (.ref a :: r) h 0 0 Q := e_pv am_h51 dX6_number_86 rfl rfl rfl rfl
theorem x51_87 (hc : v.category = 1) : AW sv 51 87 [v0, v1, v2, v3] (v :: r) h 0 0 Q = AW sv 51 88 [v0, v1, v2, v3] (v :: v :: r) h 0 0 Q := e_dup am_h51 dX6_number_87 hc
theorem x51_88 : AW sv 51 88 [v0, v1, v2, v3] (.ref 65 :: r) (am_toH σ) 0 0 Q = AW sv 51 91 [v0, v1, v2, v3] (.int (σ.1 65 2) :: r) (am_toH σ) 0 0 Q := e_getI am_h51 dX6_number_88 fl_6_44 is6 rfl
theorem x51_91 : AW sv 51 91 [v0, v1, v2, v3] r h 0 0 Q = AW sv 51 92 [v0, v1, v2, v3] (.int (1) :: r) h 0 0 Q := e_iconstv am_h51 dX6_number_91 c_iconst_1
theorem x51_92 : AW sv 51 92 [v0, v1, v2, v3] (.int y :: .int x :: r) h 0 0 Q = AW sv 51 93 [v0, v1, v2, v3] (.int (x + y) :: r) h 0 0 Q := e_iadd am_h51 dX6_number_92
theorem x51_93 : AW sv 51 93 [v0, v1, v2, v3] (.int x :: .ref 65 :: r) (am_toH σ) 0 0 Q = AW sv 51 96 [v0, v1, v2, v3] r (am_toH (am_wr σ 65 (upd (σ.1 65) 2 x))) 0 0 Q := e_putI am_h51 dX6_number_93 fl_6_44 is6 rfl rfl rfl
theorem x51_96 : AW sv 51 96 [v0, v1, v2, v3] r h 0 0 Q = AW sv 51 18 [v0, v1, v2, v3] r h 0 0 Q := e_goto am_h51 dX6_number_96 rfl
theorem x51_99 : AW sv 51 99 [v0, v1, v2, .int x] r h 0 0 Q = AW sv 51 100 [v0, v1, v2, .int x] (.int x :: r) h 0 0 Q := e_pv am_h51 dX6_number_99 rfl rfl rfl rfl
theorem x51_100 : AW sv 51 100 [v0, .int x, v2, v3] r h 0 0 Q = AW sv 51 101 [v0, .int x, v2, v3] (.int x :: r) h 0 0 Q := e_pv am_h51 dX6_number_100 rfl rfl rfl rfl
theorem x51_101 : AW sv 51 101 [v0, v1, v2, v3] (.int y :: .int x :: r) h 0 0 Q = if x < y then AW sv 51 114 [v0, v1, v2, v3] r h 0 0 Q else AW sv 51 104 [v0, v1, v2, v3] r h 0 0 Q := e_c_lt am_h51 dX6_number_101 rfl
theorem x51_104 : AW sv 51 104 [.ref a, v1, v2, v3] r h 0 0 Q = AW sv 51 105 [.ref a, v1, v2, v3] (.ref a :: r) h 0 0 Q := e_pv am_h51 dX6_number_104 rfl rfl rfl rfl
theorem x51_105 : AW sv 51 105 [v0, v1, .int x, v3] r h 0 0 Q = AW sv 51 106 [v0, v1, .int x, v3] (.int x :: r) h 0 0 Q := e_pv am_h51 dX6_number_105 rfl rfl rfl rfl
theorem x51_106 : AW sv 51 106 [v0, v1, v2, v3] (.int x :: .ref 65 :: r) (am_toH σ) 0 0 Q = AW sv 51 109 [v0, v1, v2, v3] r (am_toH (am_wr σ 65 (upd (σ.1 65) 2 x))) 0 0 Q := e_putI am_h51 dX6_number_106 fl_6_44 is6 rfl rfl rfl
theorem x51_109 : AW sv 51 109 [.ref a, v1, v2, v3] r h 0 0 Q = AW sv 51 110 [.ref a, v1, v2, v3] (.ref a :: r) h 0 0 Q := e_pv am_h51 dX6_number_109 rfl rfl rfl rfl
theorem x51_110 : AW sv 51 110 [v0, v1, v2, v3] r h 0 0 Q = AW sv 51 111 [v0, v1, v2, v3] (.int (1) :: r) h 0 0 Q := e_iconstv am_h51 dX6_number_110 c_iconst_1
theorem x51_111 (hz : x = 0 ∨ x = 1) : AW sv 51 111 [v0, v1, v2, v3] (.int x :: .ref 65 :: r) (am_toH σ) 0 0 Q = AW sv 51 114 [v0, v1, v2, v3] r (am_toH (am_wr σ 65 (upd (σ.1 65) 3 x))) 0 0 Q := e_putI am_h51 dX6_number_111 fl_6_47 is6 rfl rfl (am_vz_bool hz)
theorem x51_114 : AW sv 51 114 [.ref a, v1, v2, v3] r h 0 0 Q = AW sv 51 115 [.ref a, v1, v2, v3] (.ref a :: r) h 0 0 Q := e_pv am_h51 dX6_number_114 rfl rfl rfl rfl
theorem x51_115 : AW sv 51 115 [v0, v1, v2, v3] (.ref 65 :: r) (am_toH σ) 0 0 Q = AW sv 51 118 [v0, v1, v2, v3] (.int (σ.1 65 3) :: r) (am_toH σ) 0 0 Q := e_getI am_h51 dX6_number_115 fl_6_47 is6 rfl
theorem x51_118 : AW sv 51 118 [v0, v1, v2, v3] (.int x :: r) h 0 0 Q = if x = 0 then AW sv 51 125 [v0, v1, v2, v3] r h 0 0 Q else AW sv 51 121 [v0, v1, v2, v3] r h 0 0 Q := e_z_eq am_h51 dX6_number_118 rfl
theorem x51_121 : AW sv 51 121 [v0, v1, v2, v3] r h 0 0 Q = AW sv 51 122 [v0, v1, v2, v3] (.int (0) :: r) h 0 0 Q := e_iconstv am_h51 dX6_number_121 c_iconst_0
theorem x51_122 : AW sv 51 122 [v0, v1, v2, v3] r h 0 0 Q = AW sv 51 126 [v0, v1, v2, v3] r h 0 0 Q := e_goto am_h51 dX6_number_122 rfl
theorem x51_125 : AW sv 51 125 [v0, v1, v2, .int x] r h 0 0 Q = AW sv 51 126 [v0, v1, v2, .int x] (.int x :: r) h 0 0 Q := e_pv am_h51 dX6_number_125 rfl rfl rfl rfl
theorem x51_126 : AW sv 51 126 [v0, v1, v2, v3] [.int x] h 0 0 Q = Q (some (.int x)) h := e_iret am_h51 dX6_number_126 rfl ⟨rfl, rfl⟩
theorem n51 : AM sv 51 [.ref a, .int x0] h Q = AW sv 51 0 [.ref a, .int x0, .null, .null] [] h 0 0 Q := rfl
theorem x53_0 : AW sv 53 0 [.ref a, v1, v2, v3] r h 0 0 Q = AW sv 53 1 [.ref a, v1, v2, v3] (.ref a :: r) h 0 0 Q := e_pv am_h53 dX7_seesMoved_0 rfl rfl rfl rfl
theorem x53_1 : AW sv 53 1 [v0, v1, v2, v3] (.ref 43 :: r) (am_toH σ) 0 0 Q = AW sv 53 4 [v0, v1, v2, v3] (.ref 44 :: r) (am_toH σ) 0 0 Q := e_getR am_h53 dX7_seesMoved_1 fl_7_12 is7 rfl
theorem x53_4 : AW sv 53 4 [v0, .ref a, v2, v3] r h 0 0 Q = AW sv 53 5 [v0, .ref a, v2, v3] (.ref a :: r) h 0 0 Q := e_pv am_h53 dX7_seesMoved_4 rfl rfl rfl rfl
theorem x53_5 (hr : am_St a) (h8 : am_cs r ≤ 8) : AW sv 53 5 [v0, v1, v2, v3] (.ref b0 :: .ref a :: r) (am_toH σ) 0 0 Q = AM sv 28 [.ref a, .ref b0] (am_toH σ) (fun v h1 => AW sv 53 8 [v0, v1, v2, v3] (v.toList ++ r) h1 0 0 Q) := e_cV (as := [.ref b0]) am_h53 dX7_seesMoved_5 ml_7_18 (by decide) am_h28 rfl (is5 hr) rfl rfl ⟨by decide, Nat.le_of_ble_eq_true rfl, am_rc_of (by decide) h8⟩
theorem x53_8 : AW sv 53 8 [.ref a, v1, v2, v3] r h 0 0 Q = AW sv 53 9 [.ref a, v1, v2, v3] (.ref a :: r) h 0 0 Q := e_pv am_h53 dX7_seesMoved_8 rfl rfl rfl rfl
theorem x53_9 : AW sv 53 9 [v0, v1, v2, v3] (.ref 43 :: r) (am_toH σ) 0 0 Q = AW sv 53 12 [v0, v1, v2, v3] (.ref 44 :: r) (am_toH σ) 0 0 Q := e_getR am_h53 dX7_seesMoved_9 fl_7_12 is7 rfl
theorem x53_12 (hr : am_St a) : AW sv 53 12 [v0, v1, v2, v3] (.ref a :: r) (am_toH σ) 0 0 Q = AW sv 53 15 [v0, v1, v2, v3] (.ref (a + 1) :: r) (am_toH σ) 0 0 Q := e_getR am_h53 dX7_seesMoved_12 fl_7_22 (is5 hr) rfl
theorem x53_15 (hr : am_St a) : AW sv 53 15 [v0, v1, v2, v3] (.ref (a + 1) :: r) (am_toH σ) 0 0 Q = AW sv 53 18 [v0, v1, v2, v3] (.ref (a + 3) :: r) (am_toH σ) 0 0 Q := e_getR am_h53 dX7_seesMoved_15 fl_7_26 (is3 hr) rfl
theorem x53_18 : AW sv 53 18 [v0, v1, .int x, v3] r h 0 0 Q = AW sv 53 19 [v0, v1, .int x, v3] (.int x :: r) h 0 0 Q := e_pv am_h53 dX7_seesMoved_18 rfl rfl rfl rfl
theorem x53_19 : AW sv 53 19 [v0, v1, v2, v3] r h 0 0 Q = AW sv 53 20 [v0, v1, v2, v3] (.int (0) :: r) h 0 0 Q := e_iconstv am_h53 dX7_seesMoved_19 c_iconst_0
theorem x53_20 (hi : am_in y (am_ln a) = true) : AW sv 53 20 [v0, v1, v2, v3] (.int x :: .int y :: .ref a :: r) (am_toH σ) 0 0 Q = AW sv 53 21 [v0, v1, v2, v3] r (am_toH (am_wr σ a (upd (σ.1 a) y.toNatClampNeg x))) 0 0 Q := e_iast am_h53 dX7_seesMoved_20 hi
theorem x53_21 : AW sv 53 21 [.ref a, v1, v2, v3] r h 0 0 Q = AW sv 53 22 [.ref a, v1, v2, v3] (.ref a :: r) h 0 0 Q := e_pv am_h53 dX7_seesMoved_21 rfl rfl rfl rfl
theorem x53_22 : AW sv 53 22 [v0, v1, v2, v3] (.ref 43 :: r) (am_toH σ) 0 0 Q = AW sv 53 25 [v0, v1, v2, v3] (.ref 44 :: r) (am_toH σ) 0 0 Q := e_getR am_h53 dX7_seesMoved_22 fl_7_12 is7 rfl
theorem x53_25 (hr : am_St a) : AW sv 53 25 [v0, v1, v2, v3] (.ref a :: r) (am_toH σ) 0 0 Q = AW sv 53 28 [v0, v1, v2, v3] (.ref (a + 1) :: r) (am_toH σ) 0 0 Q := e_getR am_h53 dX7_seesMoved_25 fl_7_22 (is5 hr) rfl
theorem x53_28 (hr : am_St a) : AW sv 53 28 [v0, v1, v2, v3] (.ref (a + 1) :: r) (am_toH σ) 0 0 Q = AW sv 53 31 [v0, v1, v2, v3] (.ref (a + 3) :: r) (am_toH σ) 0 0 Q := e_getR am_h53 dX7_seesMoved_28 fl_7_26 (is3 hr) rfl
theorem x53_31 : AW sv 53 31 [v0, v1, v2, .int x] r h 0 0 Q = AW sv 53 32 [v0, v1, v2, .int x] (.int x :: r) h 0 0 Q := e_pv am_h53 dX7_seesMoved_31 rfl rfl rfl rfl
theorem x53_32 : AW sv 53 32 [v0, .ref a, v2, v3] r h 0 0 Q = AW sv 53 33 [v0, .ref a, v2, v3] (.ref a :: r) h 0 0 Q := e_pv am_h53 dX7_seesMoved_32 rfl rfl rfl rfl
theorem x53_33 (hr : am_St a) : AW sv 53 33 [v0, v1, v2, v3] (.ref a :: r) (am_toH σ) 0 0 Q = AW sv 53 36 [v0, v1, v2, v3] (.ref (a + 1) :: r) (am_toH σ) 0 0 Q := e_getR am_h53 dX7_seesMoved_33 fl_7_22 (is5 hr) rfl
theorem x53_36 (hr : am_St a) : AW sv 53 36 [v0, v1, v2, v3] (.ref (a + 1) :: r) (am_toH σ) 0 0 Q = AW sv 53 39 [v0, v1, v2, v3] (.ref (a + 3) :: r) (am_toH σ) 0 0 Q := e_getR am_h53 dX7_seesMoved_36 fl_7_26 (is3 hr) rfl
theorem x53_39 : AW sv 53 39 [v0, v1, .int x, v3] r h 0 0 Q = AW sv 53 40 [v0, v1, .int x, v3] (.int x :: r) h 0 0 Q := e_pv am_h53 dX7_seesMoved_39 rfl rfl rfl rfl
theorem x53_40 (hi : am_in x (am_ln a) = true) : AW sv 53 40 [v0, v1, v2, v3] (.int x :: .ref a :: r) (am_toH σ) 0 0 Q = AW sv 53 41 [v0, v1, v2, v3] (.int (σ.1 a x.toNatClampNeg) :: r) (am_toH σ) 0 0 Q := e_iald am_h53 dX7_seesMoved_40 hi
theorem x53_41 (hi : am_in y (am_ln a) = true) : AW sv 53 41 [v0, v1, v2, v3] (.int x :: .int y :: .ref a :: r) (am_toH σ) 0 0 Q = AW sv 53 42 [v0, v1, v2, v3] r (am_toH (am_wr σ a (upd (σ.1 a) y.toNatClampNeg x))) 0 0 Q := e_iast am_h53 dX7_seesMoved_41 hi
theorem x53_42 : AW sv 53 42 [.ref a, v1, v2, v3] r h 0 0 Q = AW sv 53 43 [.ref a, v1, v2, v3] (.ref a :: r) h 0 0 Q := e_pv am_h53 dX7_seesMoved_42 rfl rfl rfl rfl
theorem x53_43 : AW sv 53 43 [v0, v1, v2, v3] (.ref 43 :: r) (am_toH σ) 0 0 Q = AW sv 53 46 [v0, v1, v2, v3] (.ref 44 :: r) (am_toH σ) 0 0 Q := e_getR am_h53 dX7_seesMoved_43 fl_7_12 is7 rfl
theorem x53_46 : AW sv 53 46 [v0, v1, v2, .int x] r h 0 0 Q = AW sv 53 47 [v0, v1, v2, .int x] (.int x :: r) h 0 0 Q := e_pv am_h53 dX7_seesMoved_46 rfl rfl rfl rfl
theorem x53_47 : AW sv 53 47 [v0, v1, v2, v3] r h 0 0 Q = AW sv 53 48 [v0, v1, v2, v3] (.int (1) :: r) h 0 0 Q := e_iconstv am_h53 dX7_seesMoved_47 c_iconst_1
theorem x53_48 (hr : am_St a) (h8 : am_cs r ≤ 8) : AW sv 53 48 [v0, v1, v2, v3] (.int x1 :: .int x0 :: .ref a :: r) (am_toH σ) 0 0 Q = AM sv 31 [.ref a, .int x0, .int x1] (am_toH σ) (fun v h1 => AW sv 53 51 [v0, v1, v2, v3] (v.toList ++ r) h1 0 0 Q) := e_cV (as := [.int x0, .int x1]) am_h53 dX7_seesMoved_48 ml_7_32 (by decide) am_h31 rfl (is5 hr) rfl rfl ⟨by decide, Nat.le_of_ble_eq_true rfl, am_rc_of (by decide) h8⟩
theorem x53_51 : AW sv 53 51 [v0, v1, v2, v3] [.int x] h 0 0 Q = Q (some (.int x)) h := e_iret am_h53 dX7_seesMoved_51 rfl ⟨rfl, rfl⟩
theorem n53 : AM sv 53 [.ref a, .ref b0, .int x1, .int x2] h Q = AW sv 53 0 [.ref a, .ref b0, .int x1, .int x2] [] h 0 0 Q := rfl
theorem x54_0 : AW sv 54 0 [v0, v1, v2, v3, v4, v5, v6] r h 0 0 Q = AW sv 54 1 [v0, v1, v2, v3, v4, v5, v6] (.int (-1) :: r) h 0 0 Q := e_iconstv am_h54 dX7_quietestBeat_0 c_iconst_m1
theorem x54_1 (hc : v2.category = 1) : AW sv 54 1 [v0, v1, v2, v3, v4, v5, v6] (.int x :: r) h 0 0 Q = AW sv 54 2 [v0, v1, v2, .int x, v4, v5, v6] r h 0 0 Q := e_pv am_h54 dX7_quietestBeat_1 rfl rfl rfl (am_sti_of (Nat.le_of_ble_eq_true rfl) (am_c1_of rfl hc))
theorem x54_2 : AW sv 54 2 [v0, v1, v2, v3, v4, v5, v6] r h 0 0 Q = AW sv 54 3 [v0, v1, v2, v3, v4, v5, v6] (.int (0) :: r) h 0 0 Q := e_iconstv am_h54 dX7_quietestBeat_2 c_iconst_0
theorem x54_3 (hc : v3.category = 1) : AW sv 54 3 [v0, v1, v2, v3, v4, v5, v6] (.int x :: r) h 0 0 Q = AW sv 54 5 [v0, v1, v2, v3, .int x, v5, v6] r h 0 0 Q := e_pv am_h54 dX7_quietestBeat_3 rfl rfl rfl (am_sti_of (Nat.le_of_ble_eq_true rfl) (am_c1_of rfl hc))
theorem x54_5 : AW sv 54 5 [v0, v1, v2, v3, v4, v5, v6] r h 0 0 Q = AW sv 54 6 [v0, v1, v2, v3, v4, v5, v6] (.int (0) :: r) h 0 0 Q := e_iconstv am_h54 dX7_quietestBeat_5 c_iconst_0
theorem x54_6 (hc : v4.category = 1) : AW sv 54 6 [v0, v1, v2, v3, v4, v5, v6] (.int x :: r) h 0 0 Q = AW sv 54 8 [v0, v1, v2, v3, v4, .int x, v6] r h 0 0 Q := e_pv am_h54 dX7_quietestBeat_6 rfl rfl rfl (am_sti_of (Nat.le_of_ble_eq_true rfl) (am_c1_of rfl hc))
theorem x54_8 : AW sv 54 8 [v0, v1, v2, v3, v4, .int x, v6] r h 0 0 Q = AW sv 54 10 [v0, v1, v2, v3, v4, .int x, v6] (.int x :: r) h 0 0 Q := e_pv am_h54 dX7_quietestBeat_8 rfl rfl rfl rfl
theorem x54_10 : AW sv 54 10 [v0, v1, v2, v3, v4, v5, v6] r h 0 0 Q = AW sv 54 12 [v0, v1, v2, v3, v4, v5, v6] (.int (16) :: r) h 0 0 Q := e_bipushv am_h54 dX7_quietestBeat_10 c_bipush_16
theorem x54_12 : AW sv 54 12 [v0, v1, v2, v3, v4, v5, v6] (.int y :: .int x :: r) h 0 0 Q = if y ≤ x then AW sv 54 72 [v0, v1, v2, v3, v4, v5, v6] r h 0 0 Q else AW sv 54 15 [v0, v1, v2, v3, v4, v5, v6] r h 0 0 Q := e_c_ge am_h54 dX7_quietestBeat_12 rfl
theorem x54_15 : AW sv 54 15 [v0, v1, v2, v3, v4, .int x, v6] r h 0 0 Q = AW sv 54 17 [v0, v1, v2, v3, v4, .int x, v6] (.int x :: r) h 0 0 Q := e_pv am_h54 dX7_quietestBeat_15 rfl rfl rfl rfl
theorem x54_17 : AW sv 54 17 [v0, v1, .int x, v3, v4, v5, v6] r h 0 0 Q = AW sv 54 18 [v0, v1, .int x, v3, v4, v5, v6] (.int x :: r) h 0 0 Q := e_pv am_h54 dX7_quietestBeat_17 rfl rfl rfl rfl
theorem x54_18 : AW sv 54 18 [v0, v1, v2, v3, v4, v5, v6] (.int y :: .int x :: r) h 0 0 Q = if x = y then AW sv 54 37 [v0, v1, v2, v3, v4, v5, v6] r h 0 0 Q else AW sv 54 21 [v0, v1, v2, v3, v4, v5, v6] r h 0 0 Q := e_c_eq am_h54 dX7_quietestBeat_18 rfl
theorem x54_21 : AW sv 54 21 [v0, .ref a, v2, v3, v4, v5, v6] r h 0 0 Q = AW sv 54 22 [v0, .ref a, v2, v3, v4, v5, v6] (.ref a :: r) h 0 0 Q := e_pv am_h54 dX7_quietestBeat_21 rfl rfl rfl rfl
theorem x54_22 (hr : am_St a) : AW sv 54 22 [v0, v1, v2, v3, v4, v5, v6] (.ref a :: r) (am_toH σ) 0 0 Q = AW sv 54 25 [v0, v1, v2, v3, v4, v5, v6] (.ref (a + 1) :: r) (am_toH σ) 0 0 Q := e_getR am_h54 dX7_quietestBeat_22 fl_7_22 (is5 hr) rfl
theorem x54_25 (hr : am_St a) : AW sv 54 25 [v0, v1, v2, v3, v4, v5, v6] (.ref (a + 1) :: r) (am_toH σ) 0 0 Q = AW sv 54 28 [v0, v1, v2, v3, v4, v5, v6] (.ref (a + 3) :: r) (am_toH σ) 0 0 Q := e_getR am_h54 dX7_quietestBeat_25 fl_7_26 (is3 hr) rfl
theorem x54_28 : AW sv 54 28 [v0, v1, v2, v3, v4, .int x, v6] r h 0 0 Q = AW sv 54 30 [v0, v1, v2, v3, v4, .int x, v6] (.int x :: r) h 0 0 Q := e_pv am_h54 dX7_quietestBeat_28 rfl rfl rfl rfl
theorem x54_30 (hi : am_in x (am_ln a) = true) : AW sv 54 30 [v0, v1, v2, v3, v4, v5, v6] (.int x :: .ref a :: r) (am_toH σ) 0 0 Q = AW sv 54 31 [v0, v1, v2, v3, v4, v5, v6] (.int (σ.1 a x.toNatClampNeg) :: r) (am_toH σ) 0 0 Q := e_iald am_h54 dX7_quietestBeat_30 hi
theorem x54_31 : AW sv 54 31 [v0, v1, v2, v3, v4, v5, v6] (.int x :: r) h 0 0 Q = if x = 0 then AW sv 54 37 [v0, v1, v2, v3, v4, v5, v6] r h 0 0 Q else AW sv 54 34 [v0, v1, v2, v3, v4, v5, v6] r h 0 0 Q := e_z_eq am_h54 dX7_quietestBeat_31 rfl
theorem x54_34 : AW sv 54 34 [v0, v1, v2, v3, v4, v5, v6] r h 0 0 Q = AW sv 54 66 [v0, v1, v2, v3, v4, v5, v6] r h 0 0 Q := e_goto am_h54 dX7_quietestBeat_34 rfl
theorem x54_37 : AW sv 54 37 [.ref a, v1, v2, v3, v4, v5, v6] r h 0 0 Q = AW sv 54 38 [.ref a, v1, v2, v3, v4, v5, v6] (.ref a :: r) h 0 0 Q := e_pv am_h54 dX7_quietestBeat_37 rfl rfl rfl rfl
theorem x54_38 : AW sv 54 38 [v0, .ref a, v2, v3, v4, v5, v6] r h 0 0 Q = AW sv 54 39 [v0, .ref a, v2, v3, v4, v5, v6] (.ref a :: r) h 0 0 Q := e_pv am_h54 dX7_quietestBeat_38 rfl rfl rfl rfl
theorem x54_39 : AW sv 54 39 [v0, v1, .int x, v3, v4, v5, v6] r h 0 0 Q = AW sv 54 40 [v0, v1, .int x, v3, v4, v5, v6] (.int x :: r) h 0 0 Q := e_pv am_h54 dX7_quietestBeat_39 rfl rfl rfl rfl
theorem x54_40 : AW sv 54 40 [v0, v1, v2, v3, v4, .int x, v6] r h 0 0 Q = AW sv 54 42 [v0, v1, v2, v3, v4, .int x, v6] (.int x :: r) h 0 0 Q := e_pv am_h54 dX7_quietestBeat_40 rfl rfl rfl rfl
theorem x54_42 (h8 : am_cs r ≤ 8) : AW sv 54 42 [v0, v1, v2, v3, v4, v5, v6] (.int x2 :: .int x1 :: .ref b0 :: .ref 43 :: r) (am_toH σ) 0 0 Q = AM sv 53 [.ref 43, .ref b0, .int x1, .int x2] (am_toH σ) (fun v h1 => AW sv 54 45 [v0, v1, v2, v3, v4, v5, v6] (v.toList ++ r) h1 0 0 Q) := e_cV (as := [.ref b0, .int x1, .int x2]) am_h54 dX7_quietestBeat_42 ml_7_36 (by decide) am_h53 rfl is7 rfl rfl ⟨by decide, Nat.le_of_ble_eq_true rfl, am_rc_of (by decide) h8⟩
theorem x54_45 (hc : v5.category = 1) : AW sv 54 45 [v0, v1, v2, v3, v4, v5, v6] (.int x :: r) h 0 0 Q = AW sv 54 47 [v0, v1, v2, v3, v4, v5, .int x] r h 0 0 Q := e_pv am_h54 dX7_quietestBeat_45 rfl rfl rfl (am_sti_of (Nat.le_of_ble_eq_true rfl) (am_c1_of rfl hc))
theorem x54_47 : AW sv 54 47 [v0, v1, v2, .int x, v4, v5, v6] r h 0 0 Q = AW sv 54 48 [v0, v1, v2, .int x, v4, v5, v6] (.int x :: r) h 0 0 Q := e_pv am_h54 dX7_quietestBeat_47 rfl rfl rfl rfl
theorem x54_48 : AW sv 54 48 [v0, v1, v2, v3, v4, v5, v6] r h 0 0 Q = AW sv 54 49 [v0, v1, v2, v3, v4, v5, v6] (.int (-1) :: r) h 0 0 Q := e_iconstv am_h54 dX7_quietestBeat_48 c_iconst_m1
theorem x54_49 : AW sv 54 49 [v0, v1, v2, v3, v4, v5, v6] (.int y :: .int x :: r) h 0 0 Q = if x = y then AW sv 54 59 [v0, v1, v2, v3, v4, v5, v6] r h 0 0 Q else AW sv 54 52 [v0, v1, v2, v3, v4, v5, v6] r h 0 0 Q := e_c_eq am_h54 dX7_quietestBeat_49 rfl
theorem x54_52 : AW sv 54 52 [v0, v1, v2, v3, v4, v5, .int x] r h 0 0 Q = AW sv 54 54 [v0, v1, v2, v3, v4, v5, .int x] (.int x :: r) h 0 0 Q := e_pv am_h54 dX7_quietestBeat_52 rfl rfl rfl rfl
theorem x54_54 : AW sv 54 54 [v0, v1, v2, v3, .int x, v5, v6] r h 0 0 Q = AW sv 54 56 [v0, v1, v2, v3, .int x, v5, v6] (.int x :: r) h 0 0 Q := e_pv am_h54 dX7_quietestBeat_54 rfl rfl rfl rfl
theorem x54_56 : AW sv 54 56 [v0, v1, v2, v3, v4, v5, v6] (.int y :: .int x :: r) h 0 0 Q = if y ≤ x then AW sv 54 66 [v0, v1, v2, v3, v4, v5, v6] r h 0 0 Q else AW sv 54 59 [v0, v1, v2, v3, v4, v5, v6] r h 0 0 Q := e_c_ge am_h54 dX7_quietestBeat_56 rfl
theorem x54_59 : AW sv 54 59 [v0, v1, v2, v3, v4, .int x, v6] r h 0 0 Q = AW sv 54 61 [v0, v1, v2, v3, v4, .int x, v6] (.int x :: r) h 0 0 Q := e_pv am_h54 dX7_quietestBeat_59 rfl rfl rfl rfl
theorem x54_61 (hc : v2.category = 1) : AW sv 54 61 [v0, v1, v2, v3, v4, v5, v6] (.int x :: r) h 0 0 Q = AW sv 54 62 [v0, v1, v2, .int x, v4, v5, v6] r h 0 0 Q := e_pv am_h54 dX7_quietestBeat_61 rfl rfl rfl (am_sti_of (Nat.le_of_ble_eq_true rfl) (am_c1_of rfl hc))
theorem x54_62 : AW sv 54 62 [v0, v1, v2, v3, v4, v5, .int x] r h 0 0 Q = AW sv 54 64 [v0, v1, v2, v3, v4, v5, .int x] (.int x :: r) h 0 0 Q := e_pv am_h54 dX7_quietestBeat_62 rfl rfl rfl rfl
theorem x54_64 (hc : v3.category = 1) : AW sv 54 64 [v0, v1, v2, v3, v4, v5, v6] (.int x :: r) h 0 0 Q = AW sv 54 66 [v0, v1, v2, v3, .int x, v5, v6] r h 0 0 Q := e_pv am_h54 dX7_quietestBeat_64 rfl rfl rfl (am_sti_of (Nat.le_of_ble_eq_true rfl) (am_c1_of rfl hc))
theorem x54_66 (hc : v4.category = 1) : AW sv 54 66 [v0, v1, v2, v3, v4, .int x, v6] r h 0 0 Q = AW sv 54 69 [v0, v1, v2, v3, v4, .int (x + (1)), v6] r h 0 0 Q := e_pv am_h54 dX7_quietestBeat_66 rfl rfl rfl (am_inc_of (ls := [v0, v1, v2, v3, v4, .int x, v6]) (k := 5) rfl c_iconst_1 (am_c1_of (ls := [v0, v1, v2, v3, v4, .int x, v6]) (k := 4) (v := v4) rfl hc))
theorem x54_69 : AW sv 54 69 [v0, v1, v2, v3, v4, v5, v6] r h 0 0 Q = AW sv 54 8 [v0, v1, v2, v3, v4, v5, v6] r h 0 0 Q := e_goto am_h54 dX7_quietestBeat_69 rfl
theorem x54_72 : AW sv 54 72 [v0, v1, v2, .int x, v4, v5, v6] r h 0 0 Q = AW sv 54 73 [v0, v1, v2, .int x, v4, v5, v6] (.int x :: r) h 0 0 Q := e_pv am_h54 dX7_quietestBeat_72 rfl rfl rfl rfl
theorem x54_73 : AW sv 54 73 [v0, v1, v2, v3, v4, v5, v6] [.int x] h 0 0 Q = Q (some (.int x)) h := e_iret am_h54 dX7_quietestBeat_73 rfl ⟨rfl, rfl⟩
theorem n54 : AM sv 54 [.ref a, .ref b0, .int x1] h Q = AW sv 54 0 [.ref a, .ref b0, .int x1, .null, .null, .null, .null] [] h 0 0 Q := rfl
theorem x55_0 : AW sv 55 0 [.ref a, v1, v2] r h 0 0 Q = AW sv 55 1 [.ref a, v1, v2] (.ref a :: r) h 0 0 Q := e_pv am_h55 dX7_seesCovered_0 rfl rfl rfl rfl
theorem x55_1 : AW sv 55 1 [v0, v1, v2] (.ref 43 :: r) (am_toH σ) 0 0 Q = AW sv 55 4 [v0, v1, v2] (.ref 44 :: r) (am_toH σ) 0 0 Q := e_getR am_h55 dX7_seesCovered_1 fl_7_12 is7 rfl
theorem x55_4 : AW sv 55 4 [v0, .ref a, v2] r h 0 0 Q = AW sv 55 5 [v0, .ref a, v2] (.ref a :: r) h 0 0 Q := e_pv am_h55 dX7_seesCovered_4 rfl rfl rfl rfl
theorem x55_5 (hr : am_St a) (h8 : am_cs r ≤ 8) : AW sv 55 5 [v0, v1, v2] (.ref b0 :: .ref a :: r) (am_toH σ) 0 0 Q = AM sv 28 [.ref a, .ref b0] (am_toH σ) (fun v h1 => AW sv 55 8 [v0, v1, v2] (v.toList ++ r) h1 0 0 Q) := e_cV (as := [.ref b0]) am_h55 dX7_seesCovered_5 ml_7_18 (by decide) am_h28 rfl (is5 hr) rfl rfl ⟨by decide, Nat.le_of_ble_eq_true rfl, am_rc_of (by decide) h8⟩
theorem x55_8 : AW sv 55 8 [v0, .ref a, v2] r h 0 0 Q = AW sv 55 9 [v0, .ref a, v2] (.ref a :: r) h 0 0 Q := e_pv am_h55 dX7_seesCovered_8 rfl rfl rfl rfl
theorem x55_9 (hr : am_St a) : AW sv 55 9 [v0, v1, v2] (.ref a :: r) (am_toH σ) 0 0 Q = AW sv 55 12 [v0, v1, v2] (.ref (a + 11) :: r) (am_toH σ) 0 0 Q := e_getR am_h55 dX7_seesCovered_9 fl_7_40 (is5 hr) rfl
theorem x55_12 : AW sv 55 12 [.ref a, v1, v2] r h 0 0 Q = AW sv 55 13 [.ref a, v1, v2] (.ref a :: r) h 0 0 Q := e_pv am_h55 dX7_seesCovered_12 rfl rfl rfl rfl
theorem x55_13 : AW sv 55 13 [v0, v1, v2] (.ref 43 :: r) (am_toH σ) 0 0 Q = AW sv 55 16 [v0, v1, v2] (.ref 44 :: r) (am_toH σ) 0 0 Q := e_getR am_h55 dX7_seesCovered_13 fl_7_12 is7 rfl
theorem x55_16 (hr : am_St a) : AW sv 55 16 [v0, v1, v2] (.ref a :: r) (am_toH σ) 0 0 Q = AW sv 55 19 [v0, v1, v2] (.ref (a + 1) :: r) (am_toH σ) 0 0 Q := e_getR am_h55 dX7_seesCovered_16 fl_7_22 (is5 hr) rfl
theorem x55_19 : AW sv 55 19 [v0, v1, .int x] r h 0 0 Q = AW sv 55 20 [v0, v1, .int x] (.int x :: r) h 0 0 Q := e_pv am_h55 dX7_seesCovered_19 rfl rfl rfl rfl
theorem x55_20 (hr : am_St a) (h8 : am_cs r ≤ 8) : AW sv 55 20 [v0, v1, v2] (.int x1 :: .ref b0 :: .ref (a + 11) :: r) (am_toH σ) 0 0 Q = AM sv 4 [.ref (a + 11), .ref b0, .int x1] (am_toH σ) (fun v h1 => AW sv 55 23 [v0, v1, v2] (v.toList ++ r) h1 0 0 Q) := e_cV (as := [.ref b0, .int x1]) am_h55 dX7_seesCovered_20 ml_7_44 (by decide) am_h4 rfl (is0 hr) rfl rfl ⟨by decide, Nat.le_of_ble_eq_true rfl, am_rc_of (by decide) h8⟩
theorem x55_23 : AW sv 55 23 [.ref a, v1, v2] r h 0 0 Q = AW sv 55 24 [.ref a, v1, v2] (.ref a :: r) h 0 0 Q := e_pv am_h55 dX7_seesCovered_23 rfl rfl rfl rfl
theorem x55_24 : AW sv 55 24 [v0, v1, v2] (.ref 43 :: r) (am_toH σ) 0 0 Q = AW sv 55 27 [v0, v1, v2] (.ref 44 :: r) (am_toH σ) 0 0 Q := e_getR am_h55 dX7_seesCovered_24 fl_7_12 is7 rfl
theorem x55_27 : AW sv 55 27 [v0, v1, v2] r h 0 0 Q = AW sv 55 28 [v0, v1, v2] (.int (1) :: r) h 0 0 Q := e_iconstv am_h55 dX7_seesCovered_27 c_iconst_1
theorem x55_28 (hr : am_St a) (h8 : am_cs r ≤ 8) : AW sv 55 28 [v0, v1, v2] (.int x0 :: .ref a :: r) (am_toH σ) 0 0 Q = AM sv 32 [.ref a, .int x0] (am_toH σ) (fun v h1 => AW sv 55 31 [v0, v1, v2] (v.toList ++ r) h1 0 0 Q) := e_cV (as := [.int x0]) am_h55 dX7_seesCovered_28 ml_7_50 (by decide) am_h32 rfl (is5 hr) rfl rfl ⟨by decide, Nat.le_of_ble_eq_true rfl, am_rc_of (by decide) h8⟩
theorem x55_31 : AW sv 55 31 [v0, v1, v2] [.int x] h 0 0 Q = Q (some (.int x)) h := e_iret am_h55 dX7_seesCovered_31 rfl ⟨rfl, rfl⟩
theorem n55 : AM sv 55 [.ref a, .ref b0, .int x1] h Q = AW sv 55 0 [.ref a, .ref b0, .int x1] [] h 0 0 Q := rfl
theorem x56_0 : AW sv 56 0 [v0, v1, v2, v3, v4, v5, v6, v7, v8] r h 0 0 Q = AW sv 56 1 [v0, v1, v2, v3, v4, v5, v6, v7, v8] (.int (0) :: r) h 0 0 Q := e_iconstv am_h56 dX7_bestCovers_0 c_iconst_0
theorem x56_1 (hc : v2.category = 1) : AW sv 56 1 [v0, v1, v2, v3, v4, v5, v6, v7, v8] (.int x :: r) h 0 0 Q = AW sv 56 2 [v0, v1, v2, .int x, v4, v5, v6, v7, v8] r h 0 0 Q := e_pv am_h56 dX7_bestCovers_1 rfl rfl rfl (am_sti_of (Nat.le_of_ble_eq_true rfl) (am_c1_of rfl hc))
theorem x56_2 : AW sv 56 2 [v0, .ref a, v2, v3, v4, v5, v6, v7, v8] r h 0 0 Q = AW sv 56 3 [v0, .ref a, v2, v3, v4, v5, v6, v7, v8] (.ref a :: r) h 0 0 Q := e_pv am_h56 dX7_bestCovers_2 rfl rfl rfl rfl
theorem x56_3 : AW sv 56 3 [v0, v1, v2, v3, v4, v5, v6, v7, v8] r h 0 0 Q = AW sv 56 4 [v0, v1, v2, v3, v4, v5, v6, v7, v8] (.int (1) :: r) h 0 0 Q := e_iconstv am_h56 dX7_bestCovers_3 c_iconst_1
theorem x56_4 (hr : am_St a) (h8 : am_cs r ≤ 8) : AW sv 56 4 [v0, v1, v2, v3, v4, v5, v6, v7, v8] (.int x0 :: .ref a :: r) (am_toH σ) 0 0 Q = AM sv 32 [.ref a, .int x0] (am_toH σ) (fun v h1 => AW sv 56 7 [v0, v1, v2, v3, v4, v5, v6, v7, v8] (v.toList ++ r) h1 0 0 Q) := e_cV (as := [.int x0]) am_h56 dX7_bestCovers_4 ml_7_50 (by decide) am_h32 rfl (is5 hr) rfl rfl ⟨by decide, Nat.le_of_ble_eq_true rfl, am_rc_of (by decide) h8⟩
theorem x56_7 (hc : v3.category = 1) : AW sv 56 7 [v0, v1, v2, v3, v4, v5, v6, v7, v8] (.int x :: r) h 0 0 Q = AW sv 56 9 [v0, v1, v2, v3, .int x, v5, v6, v7, v8] r h 0 0 Q := e_pv am_h56 dX7_bestCovers_7 rfl rfl rfl (am_sti_of (Nat.le_of_ble_eq_true rfl) (am_c1_of rfl hc))
theorem x56_9 : AW sv 56 9 [v0, v1, v2, v3, v4, v5, v6, v7, v8] r h 0 0 Q = AW sv 56 10 [v0, v1, v2, v3, v4, v5, v6, v7, v8] (.int (0) :: r) h 0 0 Q := e_iconstv am_h56 dX7_bestCovers_9 c_iconst_0
theorem x56_10 (hc : v4.category = 1) : AW sv 56 10 [v0, v1, v2, v3, v4, v5, v6, v7, v8] (.int x :: r) h 0 0 Q = AW sv 56 12 [v0, v1, v2, v3, v4, .int x, v6, v7, v8] r h 0 0 Q := e_pv am_h56 dX7_bestCovers_10 rfl rfl rfl (am_sti_of (Nat.le_of_ble_eq_true rfl) (am_c1_of rfl hc))
theorem x56_12 : AW sv 56 12 [v0, v1, v2, v3, v4, v5, v6, v7, v8] r h 0 0 Q = AW sv 56 13 [v0, v1, v2, v3, v4, v5, v6, v7, v8] (.int (1) :: r) h 0 0 Q := e_iconstv am_h56 dX7_bestCovers_12 c_iconst_1
theorem x56_13 (hc : v5.category = 1) : AW sv 56 13 [v0, v1, v2, v3, v4, v5, v6, v7, v8] (.int x :: r) h 0 0 Q = AW sv 56 15 [v0, v1, v2, v3, v4, v5, .int x, v7, v8] r h 0 0 Q := e_pv am_h56 dX7_bestCovers_13 rfl rfl rfl (am_sti_of (Nat.le_of_ble_eq_true rfl) (am_c1_of rfl hc))
theorem x56_15 : AW sv 56 15 [v0, v1, v2, v3, v4, v5, .int x, v7, v8] r h 0 0 Q = AW sv 56 17 [v0, v1, v2, v3, v4, v5, .int x, v7, v8] (.int x :: r) h 0 0 Q := e_pv am_h56 dX7_bestCovers_15 rfl rfl rfl rfl
theorem x56_17 : AW sv 56 17 [v0, v1, v2, v3, v4, v5, v6, v7, v8] r h 0 0 Q = AW sv 56 18 [v0, v1, v2, v3, v4, v5, v6, v7, v8] (.int (1) :: r) h 0 0 Q := e_iconstv am_h56 dX7_bestCovers_17 c_iconst_1
theorem x56_18 : AW sv 56 18 [v0, .ref a, v2, v3, v4, v5, v6, v7, v8] r h 0 0 Q = AW sv 56 19 [v0, .ref a, v2, v3, v4, v5, v6, v7, v8] (.ref a :: r) h 0 0 Q := e_pv am_h56 dX7_bestCovers_18 rfl rfl rfl rfl
theorem x56_19 (hr : am_St a) : AW sv 56 19 [v0, v1, v2, v3, v4, v5, v6, v7, v8] (.ref a :: r) (am_toH σ) 0 0 Q = AW sv 56 22 [v0, v1, v2, v3, v4, v5, v6, v7, v8] (.ref (a + 11) :: r) (am_toH σ) 0 0 Q := e_getR am_h56 dX7_bestCovers_19 fl_7_40 (is5 hr) rfl
theorem x56_22 (hr : am_St a) : AW sv 56 22 [v0, v1, v2, v3, v4, v5, v6, v7, v8] (.ref (a + 11) :: r) (am_toH σ) 0 0 Q = AW sv 56 25 [v0, v1, v2, v3, v4, v5, v6, v7, v8] (.int (σ.1 (a + 11) 4) :: r) (am_toH σ) 0 0 Q := e_getI am_h56 dX7_bestCovers_22 fl_7_54 (is0 hr) rfl
theorem x56_25 : AW sv 56 25 [v0, v1, v2, v3, v4, v5, v6, v7, v8] (.int y :: .int x :: r) h 0 0 Q = AW sv 56 26 [v0, v1, v2, v3, v4, v5, v6, v7, v8] (.int (x <<< (y &&& 31)) :: r) h 0 0 Q := e_ishl am_h56 dX7_bestCovers_25
theorem x56_26 : AW sv 56 26 [v0, v1, v2, v3, v4, v5, v6, v7, v8] (.int y :: .int x :: r) h 0 0 Q = if y ≤ x then AW sv 56 96 [v0, v1, v2, v3, v4, v5, v6, v7, v8] r h 0 0 Q else AW sv 56 29 [v0, v1, v2, v3, v4, v5, v6, v7, v8] r h 0 0 Q := e_c_ge am_h56 dX7_bestCovers_26 rfl
theorem x56_29 : AW sv 56 29 [v0, .ref a, v2, v3, v4, v5, v6, v7, v8] r h 0 0 Q = AW sv 56 30 [v0, .ref a, v2, v3, v4, v5, v6, v7, v8] (.ref a :: r) h 0 0 Q := e_pv am_h56 dX7_bestCovers_29 rfl rfl rfl rfl
theorem x56_30 (hr : am_St a) : AW sv 56 30 [v0, v1, v2, v3, v4, v5, v6, v7, v8] (.ref a :: r) (am_toH σ) 0 0 Q = AW sv 56 33 [v0, v1, v2, v3, v4, v5, v6, v7, v8] (.ref (a + 11) :: r) (am_toH σ) 0 0 Q := e_getR am_h56 dX7_bestCovers_30 fl_7_40 (is5 hr) rfl
theorem x56_33 : AW sv 56 33 [v0, v1, v2, v3, v4, v5, .int x, v7, v8] r h 0 0 Q = AW sv 56 35 [v0, v1, v2, v3, v4, v5, .int x, v7, v8] (.int x :: r) h 0 0 Q := e_pv am_h56 dX7_bestCovers_33 rfl rfl rfl rfl
theorem x56_35 (hr : am_St a) (h8 : am_cs r ≤ 8) : AW sv 56 35 [v0, v1, v2, v3, v4, v5, v6, v7, v8] (.int x0 :: .ref (a + 11) :: r) (am_toH σ) 0 0 Q = AM sv 3 [.ref (a + 11), .int x0] (am_toH σ) (fun v h1 => AW sv 56 38 [v0, v1, v2, v3, v4, v5, v6, v7, v8] (v.toList ++ r) h1 0 0 Q) := e_cV (as := [.int x0]) am_h56 dX7_bestCovers_35 ml_7_58 (by decide) am_h3 rfl (is0 hr) rfl rfl ⟨by decide, Nat.le_of_ble_eq_true rfl, am_rc_of (by decide) h8⟩
theorem x56_38 (hc : v6.category = 1) : AW sv 56 38 [v0, v1, v2, v3, v4, v5, v6, v7, v8] (.int x :: r) h 0 0 Q = AW sv 56 40 [v0, v1, v2, v3, v4, v5, v6, .int x, v8] r h 0 0 Q := e_pv am_h56 dX7_bestCovers_38 rfl rfl rfl (am_sti_of (Nat.le_of_ble_eq_true rfl) (am_c1_of rfl hc))
theorem x56_40 : AW sv 56 40 [v0, v1, v2, v3, v4, v5, v6, .int x, v8] r h 0 0 Q = AW sv 56 42 [v0, v1, v2, v3, v4, v5, v6, .int x, v8] (.int x :: r) h 0 0 Q := e_pv am_h56 dX7_bestCovers_40 rfl rfl rfl rfl
theorem x56_42 : AW sv 56 42 [v0, v1, .int x, v3, v4, v5, v6, v7, v8] r h 0 0 Q = AW sv 56 43 [v0, v1, .int x, v3, v4, v5, v6, v7, v8] (.int x :: r) h 0 0 Q := e_pv am_h56 dX7_bestCovers_42 rfl rfl rfl rfl
theorem x56_43 : AW sv 56 43 [v0, v1, v2, v3, v4, v5, v6, v7, v8] (.int y :: .int x :: r) h 0 0 Q = if x ≤ y then AW sv 56 49 [v0, v1, v2, v3, v4, v5, v6, v7, v8] r h 0 0 Q else AW sv 56 46 [v0, v1, v2, v3, v4, v5, v6, v7, v8] r h 0 0 Q := e_c_le am_h56 dX7_bestCovers_43 rfl
theorem x56_46 : AW sv 56 46 [v0, v1, v2, v3, v4, v5, v6, v7, v8] r h 0 0 Q = AW sv 56 90 [v0, v1, v2, v3, v4, v5, v6, v7, v8] r h 0 0 Q := e_goto am_h56 dX7_bestCovers_46 rfl
theorem x56_49 : AW sv 56 49 [.ref a, v1, v2, v3, v4, v5, v6, v7, v8] r h 0 0 Q = AW sv 56 50 [.ref a, v1, v2, v3, v4, v5, v6, v7, v8] (.ref a :: r) h 0 0 Q := e_pv am_h56 dX7_bestCovers_49 rfl rfl rfl rfl
theorem x56_50 : AW sv 56 50 [v0, .ref a, v2, v3, v4, v5, v6, v7, v8] r h 0 0 Q = AW sv 56 51 [v0, .ref a, v2, v3, v4, v5, v6, v7, v8] (.ref a :: r) h 0 0 Q := e_pv am_h56 dX7_bestCovers_50 rfl rfl rfl rfl
theorem x56_51 : AW sv 56 51 [v0, v1, v2, v3, v4, v5, .int x, v7, v8] r h 0 0 Q = AW sv 56 53 [v0, v1, v2, v3, v4, v5, .int x, v7, v8] (.int x :: r) h 0 0 Q := e_pv am_h56 dX7_bestCovers_51 rfl rfl rfl rfl
theorem x56_53 (h8 : am_cs r ≤ 8) : AW sv 56 53 [v0, v1, v2, v3, v4, v5, v6, v7, v8] (.int x1 :: .ref b0 :: .ref 43 :: r) (am_toH σ) 0 0 Q = AM sv 55 [.ref 43, .ref b0, .int x1] (am_toH σ) (fun v h1 => AW sv 56 56 [v0, v1, v2, v3, v4, v5, v6, v7, v8] (v.toList ++ r) h1 0 0 Q) := e_cV (as := [.ref b0, .int x1]) am_h56 dX7_bestCovers_53 ml_7_61 (by decide) am_h55 rfl is7 rfl rfl ⟨by decide, Nat.le_of_ble_eq_true rfl, am_rc_of (by decide) h8⟩
theorem x56_56 (hc : v7.category = 1) : AW sv 56 56 [v0, v1, v2, v3, v4, v5, v6, v7, v8] (.int x :: r) h 0 0 Q = AW sv 56 58 [v0, v1, v2, v3, v4, v5, v6, v7, .int x] r h 0 0 Q := e_pv am_h56 dX7_bestCovers_56 rfl rfl rfl (am_sti_of (Nat.le_of_ble_eq_true rfl) (am_c1_of rfl hc))
theorem x56_58 : AW sv 56 58 [v0, v1, v2, v3, v4, v5, v6, v7, .int x] r h 0 0 Q = AW sv 56 60 [v0, v1, v2, v3, v4, v5, v6, v7, .int x] (.int x :: r) h 0 0 Q := e_pv am_h56 dX7_bestCovers_58 rfl rfl rfl rfl
theorem x56_60 : AW sv 56 60 [v0, v1, v2, v3, .int x, v5, v6, v7, v8] r h 0 0 Q = AW sv 56 62 [v0, v1, v2, v3, .int x, v5, v6, v7, v8] (.int x :: r) h 0 0 Q := e_pv am_h56 dX7_bestCovers_60 rfl rfl rfl rfl
theorem x56_62 : AW sv 56 62 [v0, v1, v2, v3, v4, v5, v6, v7, v8] (.int y :: .int x :: r) h 0 0 Q = if x < y then AW sv 56 79 [v0, v1, v2, v3, v4, v5, v6, v7, v8] r h 0 0 Q else AW sv 56 65 [v0, v1, v2, v3, v4, v5, v6, v7, v8] r h 0 0 Q := e_c_lt am_h56 dX7_bestCovers_62 rfl
theorem x56_65 : AW sv 56 65 [v0, v1, v2, v3, v4, v5, v6, v7, .int x] r h 0 0 Q = AW sv 56 67 [v0, v1, v2, v3, v4, v5, v6, v7, .int x] (.int x :: r) h 0 0 Q := e_pv am_h56 dX7_bestCovers_65 rfl rfl rfl rfl
theorem x56_67 : AW sv 56 67 [v0, v1, v2, v3, .int x, v5, v6, v7, v8] r h 0 0 Q = AW sv 56 69 [v0, v1, v2, v3, .int x, v5, v6, v7, v8] (.int x :: r) h 0 0 Q := e_pv am_h56 dX7_bestCovers_67 rfl rfl rfl rfl
theorem x56_69 : AW sv 56 69 [v0, v1, v2, v3, v4, v5, v6, v7, v8] (.int y :: .int x :: r) h 0 0 Q = if ¬ x = y then AW sv 56 90 [v0, v1, v2, v3, v4, v5, v6, v7, v8] r h 0 0 Q else AW sv 56 72 [v0, v1, v2, v3, v4, v5, v6, v7, v8] r h 0 0 Q := e_c_ne am_h56 dX7_bestCovers_69 rfl
theorem x56_72 : AW sv 56 72 [v0, v1, v2, v3, v4, v5, v6, .int x, v8] r h 0 0 Q = AW sv 56 74 [v0, v1, v2, v3, v4, v5, v6, .int x, v8] (.int x :: r) h 0 0 Q := e_pv am_h56 dX7_bestCovers_72 rfl rfl rfl rfl
theorem x56_74 : AW sv 56 74 [v0, v1, v2, v3, v4, .int x, v6, v7, v8] r h 0 0 Q = AW sv 56 76 [v0, v1, v2, v3, v4, .int x, v6, v7, v8] (.int x :: r) h 0 0 Q := e_pv am_h56 dX7_bestCovers_74 rfl rfl rfl rfl
theorem x56_76 : AW sv 56 76 [v0, v1, v2, v3, v4, v5, v6, v7, v8] (.int y :: .int x :: r) h 0 0 Q = if y ≤ x then AW sv 56 90 [v0, v1, v2, v3, v4, v5, v6, v7, v8] r h 0 0 Q else AW sv 56 79 [v0, v1, v2, v3, v4, v5, v6, v7, v8] r h 0 0 Q := e_c_ge am_h56 dX7_bestCovers_76 rfl
theorem x56_79 : AW sv 56 79 [v0, v1, v2, v3, v4, v5, .int x, v7, v8] r h 0 0 Q = AW sv 56 81 [v0, v1, v2, v3, v4, v5, .int x, v7, v8] (.int x :: r) h 0 0 Q := e_pv am_h56 dX7_bestCovers_79 rfl rfl rfl rfl
theorem x56_81 (hc : v2.category = 1) : AW sv 56 81 [v0, v1, v2, v3, v4, v5, v6, v7, v8] (.int x :: r) h 0 0 Q = AW sv 56 82 [v0, v1, v2, .int x, v4, v5, v6, v7, v8] r h 0 0 Q := e_pv am_h56 dX7_bestCovers_81 rfl rfl rfl (am_sti_of (Nat.le_of_ble_eq_true rfl) (am_c1_of rfl hc))
theorem x56_82 : AW sv 56 82 [v0, v1, v2, v3, v4, v5, v6, v7, .int x] r h 0 0 Q = AW sv 56 84 [v0, v1, v2, v3, v4, v5, v6, v7, .int x] (.int x :: r) h 0 0 Q := e_pv am_h56 dX7_bestCovers_82 rfl rfl rfl rfl
theorem x56_84 (hc : v3.category = 1) : AW sv 56 84 [v0, v1, v2, v3, v4, v5, v6, v7, v8] (.int x :: r) h 0 0 Q = AW sv 56 86 [v0, v1, v2, v3, .int x, v5, v6, v7, v8] r h 0 0 Q := e_pv am_h56 dX7_bestCovers_84 rfl rfl rfl (am_sti_of (Nat.le_of_ble_eq_true rfl) (am_c1_of rfl hc))
theorem x56_86 : AW sv 56 86 [v0, v1, v2, v3, v4, v5, v6, .int x, v8] r h 0 0 Q = AW sv 56 88 [v0, v1, v2, v3, v4, v5, v6, .int x, v8] (.int x :: r) h 0 0 Q := e_pv am_h56 dX7_bestCovers_86 rfl rfl rfl rfl
theorem x56_88 (hc : v4.category = 1) : AW sv 56 88 [v0, v1, v2, v3, v4, v5, v6, v7, v8] (.int x :: r) h 0 0 Q = AW sv 56 90 [v0, v1, v2, v3, v4, .int x, v6, v7, v8] r h 0 0 Q := e_pv am_h56 dX7_bestCovers_88 rfl rfl rfl (am_sti_of (Nat.le_of_ble_eq_true rfl) (am_c1_of rfl hc))
theorem x56_90 (hc : v5.category = 1) : AW sv 56 90 [v0, v1, v2, v3, v4, v5, .int x, v7, v8] r h 0 0 Q = AW sv 56 93 [v0, v1, v2, v3, v4, v5, .int (x + (1)), v7, v8] r h 0 0 Q := e_pv am_h56 dX7_bestCovers_90 rfl rfl rfl (am_inc_of (ls := [v0, v1, v2, v3, v4, v5, .int x, v7, v8]) (k := 6) rfl c_iconst_1 (am_c1_of (ls := [v0, v1, v2, v3, v4, v5, .int x, v7, v8]) (k := 5) (v := v5) rfl hc))
theorem x56_93 : AW sv 56 93 [v0, v1, v2, v3, v4, v5, v6, v7, v8] r h 0 0 Q = AW sv 56 15 [v0, v1, v2, v3, v4, v5, v6, v7, v8] r h 0 0 Q := e_goto am_h56 dX7_bestCovers_93 rfl
theorem x56_96 : AW sv 56 96 [v0, v1, v2, .int x, v4, v5, v6, v7, v8] r h 0 0 Q = AW sv 56 97 [v0, v1, v2, .int x, v4, v5, v6, v7, v8] (.int x :: r) h 0 0 Q := e_pv am_h56 dX7_bestCovers_96 rfl rfl rfl rfl
theorem x56_97 : AW sv 56 97 [v0, v1, v2, v3, v4, v5, v6, v7, v8] [.int x] h 0 0 Q = Q (some (.int x)) h := e_iret am_h56 dX7_bestCovers_97 rfl ⟨rfl, rfl⟩
theorem n56 : AM sv 56 [.ref a, .ref b0, .int x1] h Q = AW sv 56 0 [.ref a, .ref b0, .int x1, .null, .null, .null, .null, .null, .null] [] h 0 0 Q := rfl
theorem x57_0 : AW sv 57 0 [.ref a, v1] r h 0 0 Q = AW sv 57 1 [.ref a, v1] (.ref a :: r) h 0 0 Q := e_pv am_h57 dX7_seesWarned_0 rfl rfl rfl rfl
theorem x57_1 : AW sv 57 1 [v0, v1] (.ref 43 :: r) (am_toH σ) 0 0 Q = AW sv 57 4 [v0, v1] (.ref 44 :: r) (am_toH σ) 0 0 Q := e_getR am_h57 dX7_seesWarned_1 fl_7_12 is7 rfl
theorem x57_4 : AW sv 57 4 [v0, .ref a] r h 0 0 Q = AW sv 57 5 [v0, .ref a] (.ref a :: r) h 0 0 Q := e_pv am_h57 dX7_seesWarned_4 rfl rfl rfl rfl
theorem x57_5 (hr : am_St a) (h8 : am_cs r ≤ 8) : AW sv 57 5 [v0, v1] (.ref b0 :: .ref a :: r) (am_toH σ) 0 0 Q = AM sv 28 [.ref a, .ref b0] (am_toH σ) (fun v h1 => AW sv 57 8 [v0, v1] (v.toList ++ r) h1 0 0 Q) := e_cV (as := [.ref b0]) am_h57 dX7_seesWarned_5 ml_7_18 (by decide) am_h28 rfl (is5 hr) rfl rfl ⟨by decide, Nat.le_of_ble_eq_true rfl, am_rc_of (by decide) h8⟩
theorem x57_8 : AW sv 57 8 [.ref a, v1] r h 0 0 Q = AW sv 57 9 [.ref a, v1] (.ref a :: r) h 0 0 Q := e_pv am_h57 dX7_seesWarned_8 rfl rfl rfl rfl
theorem x57_9 : AW sv 57 9 [v0, v1] (.ref 43 :: r) (am_toH σ) 0 0 Q = AW sv 57 12 [v0, v1] (.ref 44 :: r) (am_toH σ) 0 0 Q := e_getR am_h57 dX7_seesWarned_9 fl_7_12 is7 rfl
theorem x57_12 (hr : am_St a) : AW sv 57 12 [v0, v1] (.ref a :: r) (am_toH σ) 0 0 Q = AW sv 57 15 [v0, v1] (.ref (a + 7) :: r) (am_toH σ) 0 0 Q := e_getR am_h57 dX7_seesWarned_12 fl_7_65 (is5 hr) rfl
theorem x57_15 (hr : am_St a) (h8 : am_cs r ≤ 8) : AW sv 57 15 [v0, v1] (.ref (a + 7) :: r) (am_toH σ) 0 0 Q = AM sv 10 [.ref (a + 7)] (am_toH σ) (fun v h1 => AW sv 57 18 [v0, v1] (v.toList ++ r) h1 0 0 Q) := e_cV (as := []) am_h57 dX7_seesWarned_15 ml_7_69 (by decide) am_h10 rfl (is1 hr) rfl rfl ⟨by decide, Nat.le_of_ble_eq_true rfl, am_rc_of (by decide) h8⟩
theorem x57_18 : AW sv 57 18 [.ref a, v1] r h 0 0 Q = AW sv 57 19 [.ref a, v1] (.ref a :: r) h 0 0 Q := e_pv am_h57 dX7_seesWarned_18 rfl rfl rfl rfl
theorem x57_19 : AW sv 57 19 [v0, v1] (.ref 43 :: r) (am_toH σ) 0 0 Q = AW sv 57 22 [v0, v1] (.ref 44 :: r) (am_toH σ) 0 0 Q := e_getR am_h57 dX7_seesWarned_19 fl_7_12 is7 rfl
theorem x57_22 : AW sv 57 22 [v0, v1] r h 0 0 Q = AW sv 57 23 [v0, v1] (.int (1) :: r) h 0 0 Q := e_iconstv am_h57 dX7_seesWarned_22 c_iconst_1
theorem x57_23 (hr : am_St a) (h8 : am_cs r ≤ 8) : AW sv 57 23 [v0, v1] (.int x0 :: .ref a :: r) (am_toH σ) 0 0 Q = AM sv 32 [.ref a, .int x0] (am_toH σ) (fun v h1 => AW sv 57 26 [v0, v1] (v.toList ++ r) h1 0 0 Q) := e_cV (as := [.int x0]) am_h57 dX7_seesWarned_23 ml_7_50 (by decide) am_h32 rfl (is5 hr) rfl rfl ⟨by decide, Nat.le_of_ble_eq_true rfl, am_rc_of (by decide) h8⟩
theorem x57_26 : AW sv 57 26 [v0, v1] [.int x] h 0 0 Q = Q (some (.int x)) h := e_iret am_h57 dX7_seesWarned_26 rfl ⟨rfl, rfl⟩
theorem n57 : AM sv 57 [.ref a, .ref b0] h Q = AW sv 57 0 [.ref a, .ref b0] [] h 0 0 Q := rfl
theorem x58_0 : AW sv 58 0 [.ref a, v1, v2] r h 0 0 Q = AW sv 58 1 [.ref a, v1, v2] (.ref a :: r) h 0 0 Q := e_pv am_h58 dX7_fittingPoints_0 rfl rfl rfl rfl
theorem x58_1 : AW sv 58 1 [v0, v1, v2] (.ref 43 :: r) (am_toH σ) 0 0 Q = AW sv 58 4 [v0, v1, v2] (.ref 44 :: r) (am_toH σ) 0 0 Q := e_getR am_h58 dX7_fittingPoints_1 fl_7_12 is7 rfl
theorem x58_4 : AW sv 58 4 [v0, .ref a, v2] r h 0 0 Q = AW sv 58 5 [v0, .ref a, v2] (.ref a :: r) h 0 0 Q := e_pv am_h58 dX7_fittingPoints_4 rfl rfl rfl rfl
theorem x58_5 (hr : am_St a) (h8 : am_cs r ≤ 8) : AW sv 58 5 [v0, v1, v2] (.ref b0 :: .ref a :: r) (am_toH σ) 0 0 Q = AM sv 28 [.ref a, .ref b0] (am_toH σ) (fun v h1 => AW sv 58 8 [v0, v1, v2] (v.toList ++ r) h1 0 0 Q) := e_cV (as := [.ref b0]) am_h58 dX7_fittingPoints_5 ml_7_18 (by decide) am_h28 rfl (is5 hr) rfl rfl ⟨by decide, Nat.le_of_ble_eq_true rfl, am_rc_of (by decide) h8⟩
theorem x58_8 : AW sv 58 8 [.ref a, v1, v2] r h 0 0 Q = AW sv 58 9 [.ref a, v1, v2] (.ref a :: r) h 0 0 Q := e_pv am_h58 dX7_fittingPoints_8 rfl rfl rfl rfl
theorem x58_9 : AW sv 58 9 [v0, v1, v2] (.ref 43 :: r) (am_toH σ) 0 0 Q = AW sv 58 12 [v0, v1, v2] (.ref 44 :: r) (am_toH σ) 0 0 Q := e_getR am_h58 dX7_fittingPoints_9 fl_7_12 is7 rfl
theorem x58_12 (hr : am_St a) : AW sv 58 12 [v0, v1, v2] (.ref a :: r) (am_toH σ) 0 0 Q = AW sv 58 15 [v0, v1, v2] (.ref (a + 19) :: r) (am_toH σ) 0 0 Q := e_getR am_h58 dX7_fittingPoints_12 fl_7_74 (is5 hr) rfl
theorem x58_15 : AW sv 58 15 [v0, v1, v2] r h 0 0 Q = AW sv 58 16 [v0, v1, v2] (.int (0) :: r) h 0 0 Q := e_iconstv am_h58 dX7_fittingPoints_15 c_iconst_0
theorem x58_16 : AW sv 58 16 [v0, v1, .int x] r h 0 0 Q = AW sv 58 17 [v0, v1, .int x] (.int x :: r) h 0 0 Q := e_pv am_h58 dX7_fittingPoints_16 rfl rfl rfl rfl
theorem x58_17 (hi : am_in y (am_ln a) = true) : AW sv 58 17 [v0, v1, v2] (.int x :: .int y :: .ref a :: r) (am_toH σ) 0 0 Q = AW sv 58 18 [v0, v1, v2] r (am_toH (am_wr σ a (upd (σ.1 a) y.toNatClampNeg x))) 0 0 Q := e_iast am_h58 dX7_fittingPoints_17 hi
theorem x58_18 : AW sv 58 18 [.ref a, v1, v2] r h 0 0 Q = AW sv 58 19 [.ref a, v1, v2] (.ref a :: r) h 0 0 Q := e_pv am_h58 dX7_fittingPoints_18 rfl rfl rfl rfl
theorem x58_19 : AW sv 58 19 [v0, v1, v2] (.ref 43 :: r) (am_toH σ) 0 0 Q = AW sv 58 22 [v0, v1, v2] (.ref 44 :: r) (am_toH σ) 0 0 Q := e_getR am_h58 dX7_fittingPoints_19 fl_7_12 is7 rfl
theorem x58_22 (hr : am_St a) (h8 : am_cs r ≤ 8) : AW sv 58 22 [v0, v1, v2] (.ref a :: r) (am_toH σ) 0 0 Q = AM sv 36 [.ref a] (am_toH σ) (fun v h1 => AW sv 58 25 [v0, v1, v2] (v.toList ++ r) h1 0 0 Q) := e_cV (as := []) am_h58 dX7_fittingPoints_22 ml_7_77 (by decide) am_h36 rfl (is5 hr) rfl rfl ⟨by decide, Nat.le_of_ble_eq_true rfl, am_rc_of (by decide) h8⟩
theorem x58_25 : AW sv 58 25 [v0, v1, v2] [.int x] h 0 0 Q = Q (some (.int x)) h := e_iret am_h58 dX7_fittingPoints_25 rfl ⟨rfl, rfl⟩
theorem n58 : AM sv 58 [.ref a, .ref b0, .int x1] h Q = AW sv 58 0 [.ref a, .ref b0, .int x1] [] h 0 0 Q := rfl
theorem x59_0 : AW sv 59 0 [v0, v1, v2, v3, v4, v5] r h 0 0 Q = AW sv 59 1 [v0, v1, v2, v3, v4, v5] (.int (0) :: r) h 0 0 Q := e_iconstv am_h59 dX7_lookThatFits_0 c_iconst_0
theorem x59_1 (hc : v1.category = 1) : AW sv 59 1 [v0, v1, v2, v3, v4, v5] (.int x :: r) h 0 0 Q = AW sv 59 2 [v0, v1, .int x, v3, v4, v5] r h 0 0 Q := e_pv am_h59 dX7_lookThatFits_1 rfl rfl rfl (am_sti_of (Nat.le_of_ble_eq_true rfl) (am_c1_of rfl hc))
theorem x59_2 : AW sv 59 2 [.ref a, v1, v2, v3, v4, v5] r h 0 0 Q = AW sv 59 3 [.ref a, v1, v2, v3, v4, v5] (.ref a :: r) h 0 0 Q := e_pv am_h59 dX7_lookThatFits_2 rfl rfl rfl rfl
theorem x59_3 : AW sv 59 3 [v0, .ref a, v2, v3, v4, v5] r h 0 0 Q = AW sv 59 4 [v0, .ref a, v2, v3, v4, v5] (.ref a :: r) h 0 0 Q := e_pv am_h59 dX7_lookThatFits_3 rfl rfl rfl rfl
theorem x59_4 : AW sv 59 4 [v0, v1, v2, v3, v4, v5] r h 0 0 Q = AW sv 59 5 [v0, v1, v2, v3, v4, v5] (.int (0) :: r) h 0 0 Q := e_iconstv am_h59 dX7_lookThatFits_4 c_iconst_0
theorem x59_5 (h8 : am_cs r ≤ 8) : AW sv 59 5 [v0, v1, v2, v3, v4, v5] (.int x1 :: .ref b0 :: .ref 43 :: r) (am_toH σ) 0 0 Q = AM sv 58 [.ref 43, .ref b0, .int x1] (am_toH σ) (fun v h1 => AW sv 59 8 [v0, v1, v2, v3, v4, v5] (v.toList ++ r) h1 0 0 Q) := e_cV (as := [.ref b0, .int x1]) am_h59 dX7_lookThatFits_5 ml_7_81 (by decide) am_h58 rfl is7 rfl rfl ⟨by decide, Nat.le_of_ble_eq_true rfl, am_rc_of (by decide) h8⟩
theorem x59_8 (hc : v2.category = 1) : AW sv 59 8 [v0, v1, v2, v3, v4, v5] (.int x :: r) h 0 0 Q = AW sv 59 9 [v0, v1, v2, .int x, v4, v5] r h 0 0 Q := e_pv am_h59 dX7_lookThatFits_8 rfl rfl rfl (am_sti_of (Nat.le_of_ble_eq_true rfl) (am_c1_of rfl hc))
theorem x59_9 : AW sv 59 9 [v0, v1, v2, v3, v4, v5] r h 0 0 Q = AW sv 59 10 [v0, v1, v2, v3, v4, v5] (.int (1) :: r) h 0 0 Q := e_iconstv am_h59 dX7_lookThatFits_9 c_iconst_1
theorem x59_10 (hc : v3.category = 1) : AW sv 59 10 [v0, v1, v2, v3, v4, v5] (.int x :: r) h 0 0 Q = AW sv 59 12 [v0, v1, v2, v3, .int x, v5] r h 0 0 Q := e_pv am_h59 dX7_lookThatFits_10 rfl rfl rfl (am_sti_of (Nat.le_of_ble_eq_true rfl) (am_c1_of rfl hc))
theorem x59_12 : AW sv 59 12 [v0, v1, v2, v3, .int x, v5] r h 0 0 Q = AW sv 59 14 [v0, v1, v2, v3, .int x, v5] (.int x :: r) h 0 0 Q := e_pv am_h59 dX7_lookThatFits_12 rfl rfl rfl rfl
theorem x59_14 : AW sv 59 14 [v0, v1, v2, v3, v4, v5] r h 0 0 Q = AW sv 59 17 [v0, v1, v2, v3, v4, v5] (.float 0 :: r) h 0 0 Q := e_gets am_h59 dX7_lookThatFits_14 (t := 0) (by decide +kernel) rfl
theorem x59_17 : AW sv 59 17 [v0, v1, v2, v3, v4, v5] r h 0 0 Q = AW sv 59 18 [v0, v1, v2, v3, v4, v5] (.int (0) :: r) h 0 0 Q := e_iconstv am_h59 dX7_lookThatFits_17 c_iconst_0
theorem x59_18 (hi : am_in x (am_ln a) = true) : AW sv 59 18 [v0, v1, v2, v3, v4, v5] (.int x :: .ref a :: r) (am_toH σ) 0 0 Q = AW sv 59 19 [v0, v1, v2, v3, v4, v5] (.int (σ.1 a x.toNatClampNeg) :: r) (am_toH σ) 0 0 Q := e_iald am_h59 dX7_lookThatFits_18 hi
theorem x59_18s (hi : am_in x (sv 0).1 = true) : AW sv 59 18 [v0, v1, v2, v3, v4, v5] (.int x :: .float 0 :: r) h 0 0 Q = AW sv 59 19 [v0, v1, v2, v3, v4, v5] (.int ((sv 0).2 x.toNatClampNeg) :: r) h 0 0 Q := e_ials am_h59 dX7_lookThatFits_18 hi
theorem x59_19 : AW sv 59 19 [v0, v1, v2, v3, v4, v5] (.int y :: .int x :: r) h 0 0 Q = if y < x then AW sv 59 49 [v0, v1, v2, v3, v4, v5] r h 0 0 Q else AW sv 59 22 [v0, v1, v2, v3, v4, v5] r h 0 0 Q := e_c_gt am_h59 dX7_lookThatFits_19 rfl
theorem x59_22 : AW sv 59 22 [.ref a, v1, v2, v3, v4, v5] r h 0 0 Q = AW sv 59 23 [.ref a, v1, v2, v3, v4, v5] (.ref a :: r) h 0 0 Q := e_pv am_h59 dX7_lookThatFits_22 rfl rfl rfl rfl
theorem x59_23 : AW sv 59 23 [v0, .ref a, v2, v3, v4, v5] r h 0 0 Q = AW sv 59 24 [v0, .ref a, v2, v3, v4, v5] (.ref a :: r) h 0 0 Q := e_pv am_h59 dX7_lookThatFits_23 rfl rfl rfl rfl
theorem x59_24 : AW sv 59 24 [v0, v1, v2, v3, .int x, v5] r h 0 0 Q = AW sv 59 26 [v0, v1, v2, v3, .int x, v5] (.int x :: r) h 0 0 Q := e_pv am_h59 dX7_lookThatFits_24 rfl rfl rfl rfl
theorem x59_26 (h8 : am_cs r ≤ 8) : AW sv 59 26 [v0, v1, v2, v3, v4, v5] (.int x1 :: .ref b0 :: .ref 43 :: r) (am_toH σ) 0 0 Q = AM sv 58 [.ref 43, .ref b0, .int x1] (am_toH σ) (fun v h1 => AW sv 59 29 [v0, v1, v2, v3, v4, v5] (v.toList ++ r) h1 0 0 Q) := e_cV (as := [.ref b0, .int x1]) am_h59 dX7_lookThatFits_26 ml_7_81 (by decide) am_h58 rfl is7 rfl rfl ⟨by decide, Nat.le_of_ble_eq_true rfl, am_rc_of (by decide) h8⟩
theorem x59_29 (hc : v4.category = 1) : AW sv 59 29 [v0, v1, v2, v3, v4, v5] (.int x :: r) h 0 0 Q = AW sv 59 31 [v0, v1, v2, v3, v4, .int x] r h 0 0 Q := e_pv am_h59 dX7_lookThatFits_29 rfl rfl rfl (am_sti_of (Nat.le_of_ble_eq_true rfl) (am_c1_of rfl hc))
theorem x59_31 : AW sv 59 31 [v0, v1, v2, v3, v4, .int x] r h 0 0 Q = AW sv 59 33 [v0, v1, v2, v3, v4, .int x] (.int x :: r) h 0 0 Q := e_pv am_h59 dX7_lookThatFits_31 rfl rfl rfl rfl
theorem x59_33 : AW sv 59 33 [v0, v1, v2, .int x, v4, v5] r h 0 0 Q = AW sv 59 34 [v0, v1, v2, .int x, v4, v5] (.int x :: r) h 0 0 Q := e_pv am_h59 dX7_lookThatFits_33 rfl rfl rfl rfl
theorem x59_34 : AW sv 59 34 [v0, v1, v2, v3, v4, v5] (.int y :: .int x :: r) h 0 0 Q = if x ≤ y then AW sv 59 43 [v0, v1, v2, v3, v4, v5] r h 0 0 Q else AW sv 59 37 [v0, v1, v2, v3, v4, v5] r h 0 0 Q := e_c_le am_h59 dX7_lookThatFits_34 rfl
theorem x59_37 : AW sv 59 37 [v0, v1, v2, v3, v4, .int x] r h 0 0 Q = AW sv 59 39 [v0, v1, v2, v3, v4, .int x] (.int x :: r) h 0 0 Q := e_pv am_h59 dX7_lookThatFits_37 rfl rfl rfl rfl
theorem x59_39 (hc : v2.category = 1) : AW sv 59 39 [v0, v1, v2, v3, v4, v5] (.int x :: r) h 0 0 Q = AW sv 59 40 [v0, v1, v2, .int x, v4, v5] r h 0 0 Q := e_pv am_h59 dX7_lookThatFits_39 rfl rfl rfl (am_sti_of (Nat.le_of_ble_eq_true rfl) (am_c1_of rfl hc))
theorem x59_40 : AW sv 59 40 [v0, v1, v2, v3, .int x, v5] r h 0 0 Q = AW sv 59 42 [v0, v1, v2, v3, .int x, v5] (.int x :: r) h 0 0 Q := e_pv am_h59 dX7_lookThatFits_40 rfl rfl rfl rfl
theorem x59_42 (hc : v1.category = 1) : AW sv 59 42 [v0, v1, v2, v3, v4, v5] (.int x :: r) h 0 0 Q = AW sv 59 43 [v0, v1, .int x, v3, v4, v5] r h 0 0 Q := e_pv am_h59 dX7_lookThatFits_42 rfl rfl rfl (am_sti_of (Nat.le_of_ble_eq_true rfl) (am_c1_of rfl hc))
theorem x59_43 (hc : v3.category = 1) : AW sv 59 43 [v0, v1, v2, v3, .int x, v5] r h 0 0 Q = AW sv 59 46 [v0, v1, v2, v3, .int (x + (1)), v5] r h 0 0 Q := e_pv am_h59 dX7_lookThatFits_43 rfl rfl rfl (am_inc_of (ls := [v0, v1, v2, v3, .int x, v5]) (k := 4) rfl c_iconst_1 (am_c1_of (ls := [v0, v1, v2, v3, .int x, v5]) (k := 3) (v := v3) rfl hc))
theorem x59_46 : AW sv 59 46 [v0, v1, v2, v3, v4, v5] r h 0 0 Q = AW sv 59 12 [v0, v1, v2, v3, v4, v5] r h 0 0 Q := e_goto am_h59 dX7_lookThatFits_46 rfl
theorem x59_49 : AW sv 59 49 [v0, v1, .int x, v3, v4, v5] r h 0 0 Q = AW sv 59 50 [v0, v1, .int x, v3, v4, v5] (.int x :: r) h 0 0 Q := e_pv am_h59 dX7_lookThatFits_49 rfl rfl rfl rfl
theorem x59_50 : AW sv 59 50 [v0, v1, v2, v3, v4, v5] [.int x] h 0 0 Q = Q (some (.int x)) h := e_iret am_h59 dX7_lookThatFits_50 rfl ⟨rfl, rfl⟩
theorem n59 : AM sv 59 [.ref a, .ref b0] h Q = AW sv 59 0 [.ref a, .ref b0, .null, .null, .null, .null] [] h 0 0 Q := rfl
end XR
