/-! SIMULATIONS: can, apart, drop, sheet -/
/-- whether a SEAT sees a PLACE from a COLUMN -/
def canF (s p c : Int32) : Bool := decide (¬ ((p = 1 ∧ s - s / 4 * 4 - c < -1) ∨ (p = 0 ∧ 1 < s - s / 4 * 4 - c)))
theorem gt_m2 {x : Int32} : (-2 < x) = (¬ x < -1) := by
  apply propext
  constructor
  · intro h q
    have h1 := Int32.lt_iff_toInt_lt.mp h
    have h2 := Int32.lt_iff_toInt_lt.mp q
    rw [show (-2 : Int32).toInt = -2 by decide] at h1
    rw [show (-1 : Int32).toInt = -1 by decide] at h2
    omega
  · intro h
    have h1 := Int32.le_iff_toInt_le.mp (Int32.not_lt.mp h)
    apply Int32.lt_iff_toInt_lt.mpr
    rw [show (-1 : Int32).toInt = -1 by decide] at h1
    rw [show (-2 : Int32).toInt = -2 by decide]
    omega
theorem lt_2 {x : Int32} : (x < 2) = (¬ 1 < x) := by
  apply propext
  constructor
  · intro h q
    have h1 := Int32.lt_iff_toInt_lt.mp h
    have h2 := Int32.lt_iff_toInt_lt.mp q
    rw [show (2 : Int32).toInt = 2 by decide] at h1
    rw [show (1 : Int32).toInt = 1 by decide] at h2
    omega
  · intro h
    have h1 := Int32.le_iff_toInt_le.mp (Int32.not_lt.mp h)
    apply Int32.lt_iff_toInt_lt.mpr
    rw [show (1 : Int32).toInt = 1 by decide] at h1
    rw [show (2 : Int32).toInt = 2 by decide]
    omega
theorem le_m2 {x : Int32} : (x ≤ -2) = (x < -1) := by
  rw [← Int32.not_lt, gt_m2]
  simp
theorem ge_2 {x : Int32} : (2 ≤ x) = (1 < x) := by
  rw [← Int32.not_lt, lt_2]
  simp
theorem le_1 {x : Int32} : (x ≤ 1) = (¬ 1 < x) := by
  rw [Int32.not_lt]
theorem ge_m1 {x : Int32} : (-1 ≤ x) = (¬ x < -1) := by
  rw [Int32.not_lt]
theorem four_ne : ((4 : Int32) = 0) = False := by simp
section I45
variable {sv : am_V} {h : am_H} {σ : am_S} {Q : Option Value → am_H → Prop} {s p c x y : Int32}
theorem s103 : AM sv 103 [.int s, .int p, .int c] h Q = Q (some (.int (bI (canF s p c)))) h := by
  rw [n103]
  simp only [x103_0, x103_1, x103_2, x103_3, x103_4, x103_5, x103_6, x103_7, x103_8, x103_11, x103_12, x103_14, x103_17, x103_18, x103_21, x103_22, x103_23, x103_24, x103_27, x103_28, x103_29, x103_32, x103_33, x103_36, x103_37, Option.toList_some, Option.toList_none, List.cons_append, List.nil_append, cat_i, cat_r, cat_n, cat_f, cs_n, cs_i, cs_r, cs_l, cs_f, Nat.reduceAdd, Nat.reduceLeDiff, Nat.zero_le, if_true, if_false, true_or, or_true, am_wr_at, Nat.reduceEqDiff, not_true_eq_false, not_false_eq_true, i_one, ite_not, bI_z, bI_nz, bI_t, bI_f, bI_or, Bool.false_eq_true, Bool.true_eq_false, reduceCtorEq, four_ne, gt_m2, lt_2, le_m2, ge_2]
  by_cases h1 : p = 1
  · subst h1
    by_cases h2 : s - s / 4 * 4 - c < -1
    · simp [canF, h2, bI]
    · simp [canF, h2, bI]
  · by_cases h0 : p = 0
    · subst h0
      by_cases h2 : 1 < s - s / 4 * 4 - c
      · simp [canF, h2, bI]
      · simp [canF, h2, bI]
    · simp [canF, h1, h0, bI]
theorem s135 : AM sv 135 [.ref 71, .int s, .int p, .int c] h Q = Q (some (.int (bI (canF s p c)))) h := by
  rw [n135]
  simp only [x135_0, x135_1, x135_2, x135_3, x135_4, x135_5, x135_7, x135_8, x135_9, x135_12, x135_14, x135_15, x135_18, x135_19, x135_22, x135_24, x135_25, x135_28, x135_29, x135_32, x135_33, Option.toList_some, Option.toList_none, List.cons_append, List.nil_append, cat_i, cat_r, cat_n, cat_f, cs_n, cs_i, cs_r, cs_l, cs_f, Nat.reduceAdd, Nat.reduceLeDiff, Nat.zero_le, if_true, if_false, true_or, or_true, am_wr_at, Nat.reduceEqDiff, not_true_eq_false, not_false_eq_true, i_one, ite_not, bI_z, bI_nz, bI_t, bI_f, bI_or, Bool.false_eq_true, Bool.true_eq_false, reduceCtorEq, four_ne, gt_m2, lt_2, le_m2, ge_2, le_1, ge_m1]
  by_cases h1 : p = 1
  · subst h1
    by_cases h2 : s - s / 4 * 4 - c < -1
    · simp [canF, h2, bI]
    · simp [canF, h2, bI]
  · by_cases h0 : p = 0
    · subst h0
      by_cases h2 : 1 < s - s / 4 * 4 - c
      · simp [canF, h2, bI]
      · simp [canF, h2, bI]
    · simp [canF, h1, h0, bI]
/-- can -/
theorem sim14 : ∀ x0 x1 : Int32, SimOK sv Inv 75 136 [.int x0, .int x1] := by
  intro s p σ hI
  have e0 : σ.1 1 5 = σ.1 71 5 := congrFun (congrFun hI.1 9) 1
  by_cases h0 : am_in s 12 = true
  · by_cases h1 : am_in p 4 = true
    · refine ⟨bI (canF s p (σ.1 71 5)), σ, σ, fun Q => ?_, fun Q => ?_, hI⟩
      · rw [n75]
        cases hc : canF s p (σ.1 71 5) <;> simp only [x75_0, x75_1, x75_3, x75_6, x75_9, x75_10, x75_11, x75_14, x75_17, x75_18, x75_19, x75_20, x75_21, x75_22, x75_25, x75_28, x75_31, x75_34, x75_35, x75_38, x75_39, Option.toList_some, Option.toList_none, List.cons_append, List.nil_append, cat_i, cat_r, cat_n, cat_f, cs_n, cs_i, cs_r, cs_l, cs_f, Nat.reduceAdd, Nat.reduceLeDiff, Nat.zero_le, if_true, if_false, true_or, or_true, am_wr_at, Nat.reduceEqDiff, not_true_eq_false, not_false_eq_true, i_one, ite_not, bI_z, bI_nz, bI_t, bI_f, bI_or, Bool.false_eq_true, Bool.true_eq_false, reduceCtorEq, lt1, lt2, lt3, lt4, lt5, lt10, lt12, lt16, lt100, lt1000, bt1, bt2, bt3, bt4, bt5, bt10, bt12, bt16, bt100, bt1000, bt6, bt25, bt100000, st1, s97, s103, h0, h1, e0, hc]
      · rw [n136]
        cases hc : canF s p (σ.1 71 5) <;> simp only [x136_0, x136_1, x136_2, x136_3, x136_6, x136_9, x136_12, x136_13, x136_16, x136_19, x136_20, x136_21, x136_22, x136_23, x136_24, x136_25, x136_28, x136_31, x136_34, x136_35, x136_38, x136_39, Option.toList_some, Option.toList_none, List.cons_append, List.nil_append, cat_i, cat_r, cat_n, cat_f, cs_n, cs_i, cs_r, cs_l, cs_f, Nat.reduceAdd, Nat.reduceLeDiff, Nat.zero_le, if_true, if_false, true_or, or_true, am_wr_at, Nat.reduceEqDiff, not_true_eq_false, not_false_eq_true, i_one, ite_not, bI_z, bI_nz, bI_t, bI_f, bI_or, Bool.false_eq_true, Bool.true_eq_false, reduceCtorEq, lt1, lt2, lt3, lt4, lt5, lt10, lt12, lt16, lt100, lt1000, bt1, bt2, bt3, bt4, bt5, bt10, bt12, bt16, bt100, bt1000, bt6, bt25, bt100000, s104, s107, s135, h0, h1, hc]
    · have h1 : am_in p 4 = false := by simpa using h1
      exact ⟨-1, σ, σ, fun Q => by rw [n75]; simp only [x75_0, x75_1, x75_3, x75_6, x75_9, x75_10, x75_11, x75_14, x75_17, x75_18, x75_19, x75_20, x75_21, x75_22, x75_25, x75_28, x75_31, x75_34, x75_35, x75_38, x75_39, Option.toList_some, Option.toList_none, List.cons_append, List.nil_append, cat_i, cat_r, cat_n, cat_f, cs_n, cs_i, cs_r, cs_l, cs_f, Nat.reduceAdd, Nat.reduceLeDiff, Nat.zero_le, if_true, if_false, true_or, or_true, am_wr_at, Nat.reduceEqDiff, not_true_eq_false, not_false_eq_true, i_one, ite_not, bI_z, bI_nz, bI_t, bI_f, bI_or, Bool.false_eq_true, Bool.true_eq_false, reduceCtorEq, lt1, lt2, lt3, lt4, lt5, lt10, lt12, lt16, lt100, lt1000, bt1, bt2, bt3, bt4, bt5, bt10, bt12, bt16, bt100, bt1000, bt6, bt25, bt100000, s97, h0, h1], fun Q => by rw [n136]; simp only [x136_0, x136_1, x136_2, x136_3, x136_6, x136_9, x136_12, x136_13, x136_16, x136_19, x136_20, x136_21, x136_22, x136_23, x136_24, x136_25, x136_28, x136_31, x136_34, x136_35, x136_38, x136_39, Option.toList_some, Option.toList_none, List.cons_append, List.nil_append, cat_i, cat_r, cat_n, cat_f, cs_n, cs_i, cs_r, cs_l, cs_f, Nat.reduceAdd, Nat.reduceLeDiff, Nat.zero_le, if_true, if_false, true_or, or_true, am_wr_at, Nat.reduceEqDiff, not_true_eq_false, not_false_eq_true, i_one, ite_not, bI_z, bI_nz, bI_t, bI_f, bI_or, Bool.false_eq_true, Bool.true_eq_false, reduceCtorEq, lt1, lt2, lt3, lt4, lt5, lt10, lt12, lt16, lt100, lt1000, bt1, bt2, bt3, bt4, bt5, bt10, bt12, bt16, bt100, bt1000, bt6, bt25, bt100000, s104, s107, h0, h1], hI⟩
  · have h0 : am_in s 12 = false := by simpa using h0
    exact ⟨-1, σ, σ, fun Q => by rw [n75]; simp only [x75_0, x75_1, x75_3, x75_6, x75_9, x75_10, x75_11, x75_14, x75_17, x75_18, x75_19, x75_20, x75_21, x75_22, x75_25, x75_28, x75_31, x75_34, x75_35, x75_38, x75_39, Option.toList_some, Option.toList_none, List.cons_append, List.nil_append, cat_i, cat_r, cat_n, cat_f, cs_n, cs_i, cs_r, cs_l, cs_f, Nat.reduceAdd, Nat.reduceLeDiff, Nat.zero_le, if_true, if_false, true_or, or_true, am_wr_at, Nat.reduceEqDiff, not_true_eq_false, not_false_eq_true, i_one, ite_not, bI_z, bI_nz, bI_t, bI_f, bI_or, Bool.false_eq_true, Bool.true_eq_false, reduceCtorEq, lt1, lt2, lt3, lt4, lt5, lt10, lt12, lt16, lt100, lt1000, bt1, bt2, bt3, bt4, bt5, bt10, bt12, bt16, bt100, bt1000, bt6, bt25, bt100000, s97, h0], fun Q => by rw [n136]; simp only [x136_0, x136_1, x136_2, x136_3, x136_6, x136_9, x136_12, x136_13, x136_16, x136_19, x136_20, x136_21, x136_22, x136_23, x136_24, x136_25, x136_28, x136_31, x136_34, x136_35, x136_38, x136_39, Option.toList_some, Option.toList_none, List.cons_append, List.nil_append, cat_i, cat_r, cat_n, cat_f, cs_n, cs_i, cs_r, cs_l, cs_f, Nat.reduceAdd, Nat.reduceLeDiff, Nat.zero_le, if_true, if_false, true_or, or_true, am_wr_at, Nat.reduceEqDiff, not_true_eq_false, not_false_eq_true, i_one, ite_not, bI_z, bI_nz, bI_t, bI_f, bI_or, Bool.false_eq_true, Bool.true_eq_false, reduceCtorEq, lt1, lt2, lt3, lt4, lt5, lt10, lt12, lt16, lt100, lt1000, bt1, bt2, bt3, bt4, bt5, bt10, bt12, bt16, bt100, bt1000, bt6, bt25, bt100000, s104, s107, h0], hI⟩
theorem s101 : AM sv 101 [.int x, .int y] h Q = Q (some (.int (if y ≤ 0 then 0 else 1000 * x / y))) h := by
  rw [n101]
  by_cases h1 : y ≤ 0
  · have h2 : ¬ 0 < y := Int32.not_lt.mpr h1
    simp only [x101_0, x101_1, x101_4, x101_5, x101_8, x101_11, x101_12, x101_13, x101_14, x101_15, Option.toList_some, Option.toList_none, List.cons_append, List.nil_append, cat_i, cat_r, cat_n, cat_f, cs_n, cs_i, cs_r, cs_l, cs_f, Nat.reduceAdd, Nat.reduceLeDiff, Nat.zero_le, if_true, if_false, true_or, or_true, am_wr_at, Nat.reduceEqDiff, not_true_eq_false, not_false_eq_true, i_one, ite_not, bI_z, bI_nz, bI_t, bI_f, bI_or, Bool.false_eq_true, Bool.true_eq_false, reduceCtorEq, h1, h2]
  · have h2 : 0 < y := Int32.not_le.mp h1
    have h3 : ¬ y = 0 := fun q => by rw [q] at h2; exact absurd h2 (by decide)
    simp only [x101_0, x101_1, x101_4, x101_5, x101_8, x101_11, x101_12, x101_13, x101_14, x101_15, Option.toList_some, Option.toList_none, List.cons_append, List.nil_append, cat_i, cat_r, cat_n, cat_f, cs_n, cs_i, cs_r, cs_l, cs_f, Nat.reduceAdd, Nat.reduceLeDiff, Nat.zero_le, if_true, if_false, true_or, or_true, am_wr_at, Nat.reduceEqDiff, not_true_eq_false, not_false_eq_true, i_one, ite_not, bI_z, bI_nz, bI_t, bI_f, bI_or, Bool.false_eq_true, Bool.true_eq_false, reduceCtorEq, h1, h2, h3]
theorem s155 : AM sv 155 [.int x, .int y] h Q = Q (some (.int (if x + y = 0 then 0 else 1000 * x / (x + y)))) h := by
  rw [n155]
  by_cases h1 : x + y = 0
  · simp only [x155_0, x155_1, x155_2, x155_3, x155_6, x155_7, x155_10, x155_13, x155_14, x155_15, x155_16, x155_17, x155_18, x155_19, Option.toList_some, Option.toList_none, List.cons_append, List.nil_append, cat_i, cat_r, cat_n, cat_f, cs_n, cs_i, cs_r, cs_l, cs_f, Nat.reduceAdd, Nat.reduceLeDiff, Nat.zero_le, if_true, if_false, true_or, or_true, am_wr_at, Nat.reduceEqDiff, not_true_eq_false, not_false_eq_true, i_one, ite_not, bI_z, bI_nz, bI_t, bI_f, bI_or, Bool.false_eq_true, Bool.true_eq_false, reduceCtorEq, h1]
  · simp only [x155_0, x155_1, x155_2, x155_3, x155_6, x155_7, x155_10, x155_13, x155_14, x155_15, x155_16, x155_17, x155_18, x155_19, Option.toList_some, Option.toList_none, List.cons_append, List.nil_append, cat_i, cat_r, cat_n, cat_f, cs_n, cs_i, cs_r, cs_l, cs_f, Nat.reduceAdd, Nat.reduceLeDiff, Nat.zero_le, if_true, if_false, true_or, or_true, am_wr_at, Nat.reduceEqDiff, not_true_eq_false, not_false_eq_true, i_one, ite_not, bI_z, bI_nz, bI_t, bI_f, bI_or, Bool.false_eq_true, Bool.true_eq_false, reduceCtorEq, h1]
theorem le0_add (hx : am_in x 1000 = true) (hy : am_in y 1000 = true) : (x + y ≤ 0) = (x + y = 0) := by
  have h1 := of_decide_eq_true hx
  have h2 := of_decide_eq_true hy
  have h3 : (x + y).toInt = x.toInt + y.toInt := by
    rw [Int32.toInt_add]
    exact Int.bmod_eq_of_le (by omega) (by omega)
  apply propext
  constructor
  · intro q
    have q1 := Int32.le_iff_toInt_le.mp q
    rw [show (0 : Int32).toInt = 0 by decide] at q1
    apply Int32.toInt_inj.mp
    rw [show (0 : Int32).toInt = 0 by decide]
    omega
  · intro q
    rw [q]
    decide
/-- apart -/
theorem sim27 : ∀ x0 x1 x2 x3 : Int32, SimOK sv Inv 88 156 [.int x0, .int x1, .int x2, .int x3] := by
  intro a b c d σ hI
  by_cases h0 : am_in a 1000 = true
  · by_cases h1 : am_in b 1000 = true
    · by_cases h2 : am_in c 1000 = true
      · by_cases h3 : am_in d 1000 = true
        · refine ⟨(if a + b = 0 then 0 else 1000 * a / (a + b)) - (if c + d = 0 then 0 else 1000 * c / (c + d)), σ, σ, fun Q => ?_, fun Q => ?_, hI⟩
          · rw [n88]
            simp only [x88_0, x88_1, x88_4, x88_7, x88_10, x88_11, x88_14, x88_17, x88_20, x88_21, x88_24, x88_27, x88_30, x88_32, x88_35, x88_38, x88_41, x88_43, x88_44, x88_45, x88_46, x88_47, x88_48, x88_51, x88_52, x88_53, x88_55, x88_56, x88_59, x88_60, Option.toList_some, Option.toList_none, List.cons_append, List.nil_append, cat_i, cat_r, cat_n, cat_f, cs_n, cs_i, cs_r, cs_l, cs_f, Nat.reduceAdd, Nat.reduceLeDiff, Nat.zero_le, if_true, if_false, true_or, or_true, am_wr_at, Nat.reduceEqDiff, not_true_eq_false, not_false_eq_true, i_one, ite_not, bI_z, bI_nz, bI_t, bI_f, bI_or, Bool.false_eq_true, Bool.true_eq_false, reduceCtorEq, lt1, lt2, lt3, lt4, lt5, lt10, lt12, lt16, lt100, lt1000, bt1, bt2, bt3, bt4, bt5, bt10, bt12, bt16, bt100, bt1000, bt6, bt25, bt100000, s97, s101, h0, h1, h2, h3, le0_add h0 h1, le0_add h2 h3]
          · rw [n156]
            simp only [x156_0, x156_1, x156_2, x156_3, x156_6, x156_9, x156_12, x156_13, x156_14, x156_15, x156_18, x156_21, x156_24, x156_25, x156_26, x156_27, x156_30, x156_33, x156_36, x156_38, x156_39, x156_40, x156_43, x156_46, x156_49, x156_51, x156_52, x156_53, x156_54, x156_57, x156_58, x156_60, x156_63, x156_64, Option.toList_some, Option.toList_none, List.cons_append, List.nil_append, cat_i, cat_r, cat_n, cat_f, cs_n, cs_i, cs_r, cs_l, cs_f, Nat.reduceAdd, Nat.reduceLeDiff, Nat.zero_le, if_true, if_false, true_or, or_true, am_wr_at, Nat.reduceEqDiff, not_true_eq_false, not_false_eq_true, i_one, ite_not, bI_z, bI_nz, bI_t, bI_f, bI_or, Bool.false_eq_true, Bool.true_eq_false, reduceCtorEq, lt1, lt2, lt3, lt4, lt5, lt10, lt12, lt16, lt100, lt1000, bt1, bt2, bt3, bt4, bt5, bt10, bt12, bt16, bt100, bt1000, bt6, bt25, bt100000, s104, s155, h0, h1, h2, h3]
        · have h3 : am_in d 1000 = false := by simpa using h3
          exact ⟨-100001, σ, σ, fun Q => by rw [n88]; simp only [x88_0, x88_1, x88_4, x88_7, x88_10, x88_11, x88_14, x88_17, x88_20, x88_21, x88_24, x88_27, x88_30, x88_32, x88_35, x88_38, x88_41, x88_43, x88_44, x88_45, x88_46, x88_47, x88_48, x88_51, x88_52, x88_53, x88_55, x88_56, x88_59, x88_60, Option.toList_some, Option.toList_none, List.cons_append, List.nil_append, cat_i, cat_r, cat_n, cat_f, cs_n, cs_i, cs_r, cs_l, cs_f, Nat.reduceAdd, Nat.reduceLeDiff, Nat.zero_le, if_true, if_false, true_or, or_true, am_wr_at, Nat.reduceEqDiff, not_true_eq_false, not_false_eq_true, i_one, ite_not, bI_z, bI_nz, bI_t, bI_f, bI_or, Bool.false_eq_true, Bool.true_eq_false, reduceCtorEq, lt1, lt2, lt3, lt4, lt5, lt10, lt12, lt16, lt100, lt1000, bt1, bt2, bt3, bt4, bt5, bt10, bt12, bt16, bt100, bt1000, bt6, bt25, bt100000, s97, h0, h1, h2, h3], fun Q => by rw [n156]; simp only [x156_0, x156_1, x156_2, x156_3, x156_6, x156_9, x156_12, x156_13, x156_14, x156_15, x156_18, x156_21, x156_24, x156_25, x156_26, x156_27, x156_30, x156_33, x156_36, x156_38, x156_39, x156_40, x156_43, x156_46, x156_49, x156_51, x156_52, x156_53, x156_54, x156_57, x156_58, x156_60, x156_63, x156_64, Option.toList_some, Option.toList_none, List.cons_append, List.nil_append, cat_i, cat_r, cat_n, cat_f, cs_n, cs_i, cs_r, cs_l, cs_f, Nat.reduceAdd, Nat.reduceLeDiff, Nat.zero_le, if_true, if_false, true_or, or_true, am_wr_at, Nat.reduceEqDiff, not_true_eq_false, not_false_eq_true, i_one, ite_not, bI_z, bI_nz, bI_t, bI_f, bI_or, Bool.false_eq_true, Bool.true_eq_false, reduceCtorEq, lt1, lt2, lt3, lt4, lt5, lt10, lt12, lt16, lt100, lt1000, bt1, bt2, bt3, bt4, bt5, bt10, bt12, bt16, bt100, bt1000, bt6, bt25, bt100000, s104, h0, h1, h2, h3], hI⟩
      · have h2 : am_in c 1000 = false := by simpa using h2
        exact ⟨-100001, σ, σ, fun Q => by rw [n88]; simp only [x88_0, x88_1, x88_4, x88_7, x88_10, x88_11, x88_14, x88_17, x88_20, x88_21, x88_24, x88_27, x88_30, x88_32, x88_35, x88_38, x88_41, x88_43, x88_44, x88_45, x88_46, x88_47, x88_48, x88_51, x88_52, x88_53, x88_55, x88_56, x88_59, x88_60, Option.toList_some, Option.toList_none, List.cons_append, List.nil_append, cat_i, cat_r, cat_n, cat_f, cs_n, cs_i, cs_r, cs_l, cs_f, Nat.reduceAdd, Nat.reduceLeDiff, Nat.zero_le, if_true, if_false, true_or, or_true, am_wr_at, Nat.reduceEqDiff, not_true_eq_false, not_false_eq_true, i_one, ite_not, bI_z, bI_nz, bI_t, bI_f, bI_or, Bool.false_eq_true, Bool.true_eq_false, reduceCtorEq, lt1, lt2, lt3, lt4, lt5, lt10, lt12, lt16, lt100, lt1000, bt1, bt2, bt3, bt4, bt5, bt10, bt12, bt16, bt100, bt1000, bt6, bt25, bt100000, s97, h0, h1, h2], fun Q => by rw [n156]; simp only [x156_0, x156_1, x156_2, x156_3, x156_6, x156_9, x156_12, x156_13, x156_14, x156_15, x156_18, x156_21, x156_24, x156_25, x156_26, x156_27, x156_30, x156_33, x156_36, x156_38, x156_39, x156_40, x156_43, x156_46, x156_49, x156_51, x156_52, x156_53, x156_54, x156_57, x156_58, x156_60, x156_63, x156_64, Option.toList_some, Option.toList_none, List.cons_append, List.nil_append, cat_i, cat_r, cat_n, cat_f, cs_n, cs_i, cs_r, cs_l, cs_f, Nat.reduceAdd, Nat.reduceLeDiff, Nat.zero_le, if_true, if_false, true_or, or_true, am_wr_at, Nat.reduceEqDiff, not_true_eq_false, not_false_eq_true, i_one, ite_not, bI_z, bI_nz, bI_t, bI_f, bI_or, Bool.false_eq_true, Bool.true_eq_false, reduceCtorEq, lt1, lt2, lt3, lt4, lt5, lt10, lt12, lt16, lt100, lt1000, bt1, bt2, bt3, bt4, bt5, bt10, bt12, bt16, bt100, bt1000, bt6, bt25, bt100000, s104, h0, h1, h2], hI⟩
    · have h1 : am_in b 1000 = false := by simpa using h1
      exact ⟨-100001, σ, σ, fun Q => by rw [n88]; simp only [x88_0, x88_1, x88_4, x88_7, x88_10, x88_11, x88_14, x88_17, x88_20, x88_21, x88_24, x88_27, x88_30, x88_32, x88_35, x88_38, x88_41, x88_43, x88_44, x88_45, x88_46, x88_47, x88_48, x88_51, x88_52, x88_53, x88_55, x88_56, x88_59, x88_60, Option.toList_some, Option.toList_none, List.cons_append, List.nil_append, cat_i, cat_r, cat_n, cat_f, cs_n, cs_i, cs_r, cs_l, cs_f, Nat.reduceAdd, Nat.reduceLeDiff, Nat.zero_le, if_true, if_false, true_or, or_true, am_wr_at, Nat.reduceEqDiff, not_true_eq_false, not_false_eq_true, i_one, ite_not, bI_z, bI_nz, bI_t, bI_f, bI_or, Bool.false_eq_true, Bool.true_eq_false, reduceCtorEq, lt1, lt2, lt3, lt4, lt5, lt10, lt12, lt16, lt100, lt1000, bt1, bt2, bt3, bt4, bt5, bt10, bt12, bt16, bt100, bt1000, bt6, bt25, bt100000, s97, h0, h1], fun Q => by rw [n156]; simp only [x156_0, x156_1, x156_2, x156_3, x156_6, x156_9, x156_12, x156_13, x156_14, x156_15, x156_18, x156_21, x156_24, x156_25, x156_26, x156_27, x156_30, x156_33, x156_36, x156_38, x156_39, x156_40, x156_43, x156_46, x156_49, x156_51, x156_52, x156_53, x156_54, x156_57, x156_58, x156_60, x156_63, x156_64, Option.toList_some, Option.toList_none, List.cons_append, List.nil_append, cat_i, cat_r, cat_n, cat_f, cs_n, cs_i, cs_r, cs_l, cs_f, Nat.reduceAdd, Nat.reduceLeDiff, Nat.zero_le, if_true, if_false, true_or, or_true, am_wr_at, Nat.reduceEqDiff, not_true_eq_false, not_false_eq_true, i_one, ite_not, bI_z, bI_nz, bI_t, bI_f, bI_or, Bool.false_eq_true, Bool.true_eq_false, reduceCtorEq, lt1, lt2, lt3, lt4, lt5, lt10, lt12, lt16, lt100, lt1000, bt1, bt2, bt3, bt4, bt5, bt10, bt12, bt16, bt100, bt1000, bt6, bt25, bt100000, s104, h0, h1], hI⟩
  · have h0 : am_in a 1000 = false := by simpa using h0
    exact ⟨-100001, σ, σ, fun Q => by rw [n88]; simp only [x88_0, x88_1, x88_4, x88_7, x88_10, x88_11, x88_14, x88_17, x88_20, x88_21, x88_24, x88_27, x88_30, x88_32, x88_35, x88_38, x88_41, x88_43, x88_44, x88_45, x88_46, x88_47, x88_48, x88_51, x88_52, x88_53, x88_55, x88_56, x88_59, x88_60, Option.toList_some, Option.toList_none, List.cons_append, List.nil_append, cat_i, cat_r, cat_n, cat_f, cs_n, cs_i, cs_r, cs_l, cs_f, Nat.reduceAdd, Nat.reduceLeDiff, Nat.zero_le, if_true, if_false, true_or, or_true, am_wr_at, Nat.reduceEqDiff, not_true_eq_false, not_false_eq_true, i_one, ite_not, bI_z, bI_nz, bI_t, bI_f, bI_or, Bool.false_eq_true, Bool.true_eq_false, reduceCtorEq, lt1, lt2, lt3, lt4, lt5, lt10, lt12, lt16, lt100, lt1000, bt1, bt2, bt3, bt4, bt5, bt10, bt12, bt16, bt100, bt1000, bt6, bt25, bt100000, s97, h0], fun Q => by rw [n156]; simp only [x156_0, x156_1, x156_2, x156_3, x156_6, x156_9, x156_12, x156_13, x156_14, x156_15, x156_18, x156_21, x156_24, x156_25, x156_26, x156_27, x156_30, x156_33, x156_36, x156_38, x156_39, x156_40, x156_43, x156_46, x156_49, x156_51, x156_52, x156_53, x156_54, x156_57, x156_58, x156_60, x156_63, x156_64, Option.toList_some, Option.toList_none, List.cons_append, List.nil_append, cat_i, cat_r, cat_n, cat_f, cs_n, cs_i, cs_r, cs_l, cs_f, Nat.reduceAdd, Nat.reduceLeDiff, Nat.zero_le, if_true, if_false, true_or, or_true, am_wr_at, Nat.reduceEqDiff, not_true_eq_false, not_false_eq_true, i_one, ite_not, bI_z, bI_nz, bI_t, bI_f, bI_or, Bool.false_eq_true, Bool.true_eq_false, reduceCtorEq, lt1, lt2, lt3, lt4, lt5, lt10, lt12, lt16, lt100, lt1000, bt1, bt2, bt3, bt4, bt5, bt10, bt12, bt16, bt100, bt1000, bt6, bt25, bt100000, s104, h0], hI⟩
end I45
