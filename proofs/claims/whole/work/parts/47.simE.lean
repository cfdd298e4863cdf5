/-! SIMULATIONS: item -/
def fitF (sz i n : Int32) : Bool := decide (0 ≤ i.toInt ∧ i.toInt + n.toInt ≤ sz.toInt)
theorem t0 : (0 : Int32).toInt = 0 := by decide
section I47
variable {sv : am_V} {h : am_H} {σ : am_S} {Q : Option Value → am_H → Prop} {x y l i n : Int32}
theorem s20 {k : Nat} (hk : k < 4) : AM sv 20 [.ref 67, .int (nI k), .int l] (am_toH σ) Q = Q (some (.int (if σ.1 68 k = -1 then -11 else if σ.1 68 k = l then 0 else -12))) (am_toH σ) := by
  have h1 : am_in (nI k) 4 = true := nI_in' hk (by omega)
  have d0 : (nI k).toNatClampNeg = k := nI_clamp (by omega)
  rw [n20]
  by_cases h2 : σ.1 68 k = -1
  · simp only [x20_0, x20_1, x20_2, x20_5, x20_8, x20_10, x20_11, x20_12, x20_15, x20_16, x20_17, x20_18, x20_21, x20_22, x20_25, x20_27, Option.toList_some, Option.toList_none, List.cons_append, List.nil_append, cat_i, cat_r, cat_n, cat_f, cs_n, cs_i, cs_r, cs_l, cs_f, Nat.reduceAdd, Nat.reduceLeDiff, Nat.zero_le, if_true, if_false, true_or, or_true, am_wr_at, Nat.reduceEqDiff, not_true_eq_false, not_false_eq_true, i_one, ite_not, bI_z, bI_nz, bI_t, bI_f, bI_or, Bool.false_eq_true, Bool.true_eq_false, reduceCtorEq, h1, d0, lc68, s19 hk, h2, decide_true]
  · by_cases h3 : σ.1 68 k = l
    · simp only [x20_0, x20_1, x20_2, x20_5, x20_8, x20_10, x20_11, x20_12, x20_15, x20_16, x20_17, x20_18, x20_21, x20_22, x20_25, x20_27, Option.toList_some, Option.toList_none, List.cons_append, List.nil_append, cat_i, cat_r, cat_n, cat_f, cs_n, cs_i, cs_r, cs_l, cs_f, Nat.reduceAdd, Nat.reduceLeDiff, Nat.zero_le, if_true, if_false, true_or, or_true, am_wr_at, Nat.reduceEqDiff, not_true_eq_false, not_false_eq_true, i_one, ite_not, bI_z, bI_nz, bI_t, bI_f, bI_or, Bool.false_eq_true, Bool.true_eq_false, reduceCtorEq, h1, d0, lc68, s19 hk, h2, decide_false, h3]
      simp only [h3] at h2
      simp only [h2, decide_false, Option.toList_some, Option.toList_none, List.cons_append, List.nil_append, cat_i, cat_r, cat_n, cat_f, cs_n, cs_i, cs_r, cs_l, cs_f, Nat.reduceAdd, Nat.reduceLeDiff, Nat.zero_le, if_true, if_false, true_or, or_true, am_wr_at, Nat.reduceEqDiff, not_true_eq_false, not_false_eq_true, i_one, ite_not, bI_z, bI_nz, bI_t, bI_f, bI_or, Bool.false_eq_true, Bool.true_eq_false, reduceCtorEq]
    · simp only [x20_0, x20_1, x20_2, x20_5, x20_8, x20_10, x20_11, x20_12, x20_15, x20_16, x20_17, x20_18, x20_21, x20_22, x20_25, x20_27, Option.toList_some, Option.toList_none, List.cons_append, List.nil_append, cat_i, cat_r, cat_n, cat_f, cs_n, cs_i, cs_r, cs_l, cs_f, Nat.reduceAdd, Nat.reduceLeDiff, Nat.zero_le, if_true, if_false, true_or, or_true, am_wr_at, Nat.reduceEqDiff, not_true_eq_false, not_false_eq_true, i_one, ite_not, bI_z, bI_nz, bI_t, bI_f, bI_or, Bool.false_eq_true, Bool.true_eq_false, reduceCtorEq, h1, d0, lc68, s19 hk, h2, decide_false, h3]
theorem s21 {k : Nat} (hk : k < 4) (hr : rg (σ.1 69 k) 0 16) : AM sv 21 [.ref 67, .int (nI k), .int i, .int n] (am_toH σ) Q = Q (some (.int (bI (decide (0 ≤ n.toInt) && fitF (σ.1 69 k) i n)))) (am_toH σ) := by
  have h1 : am_in (nI k) 4 = true := nI_in' hk (by omega)
  have d0 : (nI k).toNatClampNeg = k := nI_clamp (by omega)
  obtain ⟨r1, r2⟩ := hr
  rw [n21]
  by_cases a1 : i < 0
  · have b1 := Int32.lt_iff_toInt_lt.mp a1
    rw [t0] at b1
    have e : fitF (σ.1 69 k) i n = false := by apply decide_eq_false; omega
    simp only [x21_0, x21_1, x21_4, x21_5, x21_8, x21_9, x21_10, x21_13, x21_14, x21_15, x21_18, x21_19, x21_20, x21_23, x21_24, x21_25, x21_26, x21_27, x21_30, x21_31, x21_34, x21_35, Option.toList_some, Option.toList_none, List.cons_append, List.nil_append, cat_i, cat_r, cat_n, cat_f, cs_n, cs_i, cs_r, cs_l, cs_f, Nat.reduceAdd, Nat.reduceLeDiff, Nat.zero_le, if_true, if_false, true_or, or_true, am_wr_at, Nat.reduceEqDiff, not_true_eq_false, not_false_eq_true, i_one, ite_not, bI_z, bI_nz, bI_t, bI_f, bI_or, Bool.false_eq_true, Bool.true_eq_false, reduceCtorEq, a1, e, Bool.and_false]
  · have b1 := Int32.le_iff_toInt_le.mp (Int32.not_lt.mp a1)
    rw [t0] at b1
    by_cases a2 : n < 0
    · have b2 := Int32.lt_iff_toInt_lt.mp a2
      rw [t0] at b2
      have e : decide (0 ≤ n.toInt) = false := by apply decide_eq_false; omega
      simp only [x21_0, x21_1, x21_4, x21_5, x21_8, x21_9, x21_10, x21_13, x21_14, x21_15, x21_18, x21_19, x21_20, x21_23, x21_24, x21_25, x21_26, x21_27, x21_30, x21_31, x21_34, x21_35, Option.toList_some, Option.toList_none, List.cons_append, List.nil_append, cat_i, cat_r, cat_n, cat_f, cs_n, cs_i, cs_r, cs_l, cs_f, Nat.reduceAdd, Nat.reduceLeDiff, Nat.zero_le, if_true, if_false, true_or, or_true, am_wr_at, Nat.reduceEqDiff, not_true_eq_false, not_false_eq_true, i_one, ite_not, bI_z, bI_nz, bI_t, bI_f, bI_or, Bool.false_eq_true, Bool.true_eq_false, reduceCtorEq, a1, a2, e, Bool.false_and]
    · have b2 := Int32.le_iff_toInt_le.mp (Int32.not_lt.mp a2)
      rw [t0] at b2
      have e0 : decide (0 ≤ n.toInt) = true := decide_eq_true b2
      by_cases a3 : σ.1 69 k < i
      · have b3 := Int32.lt_iff_toInt_lt.mp a3
        have e : fitF (σ.1 69 k) i n = false := by apply decide_eq_false; omega
        simp only [x21_0, x21_1, x21_4, x21_5, x21_8, x21_9, x21_10, x21_13, x21_14, x21_15, x21_18, x21_19, x21_20, x21_23, x21_24, x21_25, x21_26, x21_27, x21_30, x21_31, x21_34, x21_35, Option.toList_some, Option.toList_none, List.cons_append, List.nil_append, cat_i, cat_r, cat_n, cat_f, cs_n, cs_i, cs_r, cs_l, cs_f, Nat.reduceAdd, Nat.reduceLeDiff, Nat.zero_le, if_true, if_false, true_or, or_true, am_wr_at, Nat.reduceEqDiff, not_true_eq_false, not_false_eq_true, i_one, ite_not, bI_z, bI_nz, bI_t, bI_f, bI_or, Bool.false_eq_true, Bool.true_eq_false, reduceCtorEq, h1, d0, lc69, a1, a2, a3, e, e0, Bool.and_false]
      · have b3 := Int32.le_iff_toInt_le.mp (Int32.not_lt.mp a3)
        have e3 : (σ.1 69 k - i).toInt = (σ.1 69 k).toInt - i.toInt := by
          rw [Int32.toInt_sub]
          exact Int.bmod_eq_of_le (by omega) (by omega)
        by_cases a4 : σ.1 69 k - i < n
        · have b4 := Int32.lt_iff_toInt_lt.mp a4
          have e : fitF (σ.1 69 k) i n = false := by apply decide_eq_false; omega
          simp only [x21_0, x21_1, x21_4, x21_5, x21_8, x21_9, x21_10, x21_13, x21_14, x21_15, x21_18, x21_19, x21_20, x21_23, x21_24, x21_25, x21_26, x21_27, x21_30, x21_31, x21_34, x21_35, Option.toList_some, Option.toList_none, List.cons_append, List.nil_append, cat_i, cat_r, cat_n, cat_f, cs_n, cs_i, cs_r, cs_l, cs_f, Nat.reduceAdd, Nat.reduceLeDiff, Nat.zero_le, if_true, if_false, true_or, or_true, am_wr_at, Nat.reduceEqDiff, not_true_eq_false, not_false_eq_true, i_one, ite_not, bI_z, bI_nz, bI_t, bI_f, bI_or, Bool.false_eq_true, Bool.true_eq_false, reduceCtorEq, h1, d0, lc69, a1, a2, a3, a4, e, e0, Bool.and_false]
        · have b4 := Int32.le_iff_toInt_le.mp (Int32.not_lt.mp a4)
          have e : fitF (σ.1 69 k) i n = true := by apply decide_eq_true; omega
          simp only [x21_0, x21_1, x21_4, x21_5, x21_8, x21_9, x21_10, x21_13, x21_14, x21_15, x21_18, x21_19, x21_20, x21_23, x21_24, x21_25, x21_26, x21_27, x21_30, x21_31, x21_34, x21_35, Option.toList_some, Option.toList_none, List.cons_append, List.nil_append, cat_i, cat_r, cat_n, cat_f, cs_n, cs_i, cs_r, cs_l, cs_f, Nat.reduceAdd, Nat.reduceLeDiff, Nat.zero_le, if_true, if_false, true_or, or_true, am_wr_at, Nat.reduceEqDiff, not_true_eq_false, not_false_eq_true, i_one, ite_not, bI_z, bI_nz, bI_t, bI_f, bI_or, Bool.false_eq_true, Bool.true_eq_false, reduceCtorEq, h1, d0, lc69, a1, a2, a3, a4, e, e0, Bool.and_true]
theorem s164 {k : Nat} (hk : k < 4) : AM sv 164 [.ref 71, .int (nI k), .int l, .int i, .int n] (am_toH σ) Q = Q (some (.int (if 0 ≤ σ.1 86 k then (if σ.1 86 k = l then (if fitF (σ.1 87 k) i n = true then 0 else -13) else -12) else -11))) (am_toH σ) := by
  have h1 : am_in (nI k) 4 = true := nI_in' hk (by omega)
  have d0 : (nI k).toNatClampNeg = k := nI_clamp (by omega)
  rw [n164]
  by_cases a1 : 0 ≤ σ.1 86 k
  · by_cases a2 : σ.1 86 k = l
    · by_cases a3 : i < 0
      · have b3 := Int32.lt_iff_toInt_lt.mp a3
        rw [t0] at b3
        have e : fitF (σ.1 87 k) i n = false := by apply decide_eq_false; omega
        simp only [a2] at a1
        simp only [x164_0, x164_1, x164_4, x164_5, x164_6, x164_9, x164_11, x164_12, x164_13, x164_16, x164_17, x164_18, x164_19, x164_22, x164_24, x164_25, x164_26, x164_29, x164_30, x164_31, x164_33, x164_34, x164_35, x164_36, x164_39, x164_40, x164_41, x164_42, x164_43, x164_46, x164_48, x164_51, x164_52, Option.toList_some, Option.toList_none, List.cons_append, List.nil_append, cat_i, cat_r, cat_n, cat_f, cs_n, cs_i, cs_r, cs_l, cs_f, Nat.reduceAdd, Nat.reduceLeDiff, Nat.zero_le, if_true, if_false, true_or, or_true, am_wr_at, Nat.reduceEqDiff, not_true_eq_false, not_false_eq_true, i_one, ite_not, bI_z, bI_nz, bI_t, bI_f, bI_or, Bool.false_eq_true, Bool.true_eq_false, reduceCtorEq, h1, d0, lc86, lc87, a1, a2, a3, e]
      · have b3 := Int32.le_iff_toInt_le.mp (Int32.not_lt.mp a3)
        rw [t0] at b3
        have hb : ∀ z : Int32, -2147483648 ≤ z.toInt ∧ z.toInt ≤ 2147483647 := fun z => ⟨Int32.le_toInt z, by have := Int32.toInt_lt z; omega⟩
        have e4 : (i.toInt64 + n.toInt64).toInt = i.toInt + n.toInt := by
          rw [Int64.toInt_add, Int32.toInt_toInt64, Int32.toInt_toInt64]
          have := hb i
          have := hb n
          exact Int.bmod_eq_of_le (by omega) (by omega)
        have e5 : (i.toInt64 + n.toInt64 ≤ (σ.1 87 k).toInt64) = (fitF (σ.1 87 k) i n = true) := by
          apply propext
          rw [Int64.le_iff_toInt_le, e4, Int32.toInt_toInt64]
          simp only [fitF, decide_eq_true_eq]
          constructor
          · intro q; exact ⟨b3, q⟩
          · intro q; exact q.2
        simp only [a2] at a1
        cases hf : fitF (σ.1 87 k) i n <;> simp only [x164_0, x164_1, x164_4, x164_5, x164_6, x164_9, x164_11, x164_12, x164_13, x164_16, x164_17, x164_18, x164_19, x164_22, x164_24, x164_25, x164_26, x164_29, x164_30, x164_31, x164_33, x164_34, x164_35, x164_36, x164_39, x164_40, x164_41, x164_42, x164_43, x164_46, x164_48, x164_51, x164_52, Option.toList_some, Option.toList_none, List.cons_append, List.nil_append, cat_i, cat_r, cat_n, cat_f, cs_n, cs_i, cs_r, cs_l, cs_f, Nat.reduceAdd, Nat.reduceLeDiff, Nat.zero_le, if_true, if_false, true_or, or_true, am_wr_at, Nat.reduceEqDiff, not_true_eq_false, not_false_eq_true, i_one, ite_not, bI_z, bI_nz, bI_t, bI_f, bI_or, Bool.false_eq_true, Bool.true_eq_false, reduceCtorEq, h1, d0, lc86, lc87, a1, a2, a3, lg_le, e5, hf]
    · simp only [x164_0, x164_1, x164_4, x164_5, x164_6, x164_9, x164_11, x164_12, x164_13, x164_16, x164_17, x164_18, x164_19, x164_22, x164_24, x164_25, x164_26, x164_29, x164_30, x164_31, x164_33, x164_34, x164_35, x164_36, x164_39, x164_40, x164_41, x164_42, x164_43, x164_46, x164_48, x164_51, x164_52, Option.toList_some, Option.toList_none, List.cons_append, List.nil_append, cat_i, cat_r, cat_n, cat_f, cs_n, cs_i, cs_r, cs_l, cs_f, Nat.reduceAdd, Nat.reduceLeDiff, Nat.zero_le, if_true, if_false, true_or, or_true, am_wr_at, Nat.reduceEqDiff, not_true_eq_false, not_false_eq_true, i_one, ite_not, bI_z, bI_nz, bI_t, bI_f, bI_or, Bool.false_eq_true, Bool.true_eq_false, reduceCtorEq, h1, d0, lc86, lc87, a1, a2]
  · simp only [x164_0, x164_1, x164_4, x164_5, x164_6, x164_9, x164_11, x164_12, x164_13, x164_16, x164_17, x164_18, x164_19, x164_22, x164_24, x164_25, x164_26, x164_29, x164_30, x164_31, x164_33, x164_34, x164_35, x164_36, x164_39, x164_40, x164_41, x164_42, x164_43, x164_46, x164_48, x164_51, x164_52, Option.toList_some, Option.toList_none, List.cons_append, List.nil_append, cat_i, cat_r, cat_n, cat_f, cs_n, cs_i, cs_r, cs_l, cs_f, Nat.reduceAdd, Nat.reduceLeDiff, Nat.zero_le, if_true, if_false, true_or, or_true, am_wr_at, Nat.reduceEqDiff, not_true_eq_false, not_false_eq_true, i_one, ite_not, bI_z, bI_nz, bI_t, bI_f, bI_or, Bool.false_eq_true, Bool.true_eq_false, reduceCtorEq, h1, d0, lc86, lc87, a1]
/-- its lowest bits -/
def lowF (l v : Int32) : Int32 := if l = 0 then v.toInt8.toInt32 else if l = 1 then v.toInt16.toInt32 else v
theorem s24 {k j : Nat} (hk : k < 4) (hj : j < 16) : AM sv 24 [.ref 67, .int (nI k), .int (nI j), .int x] (am_toH σ) Q = Q none (am_toH (am_wr σ 70 (upd (σ.1 70) (16 * k + j) (lowF (σ.1 68 k) x)))) := by
  have h1 : am_in (nI k) 4 = true := nI_in' hk (by omega)
  have d0 : (nI k).toNatClampNeg = k := nI_clamp (by omega)
  have e3 : am_in (nI (16 * k + j)) 64 = true := nI_in' (by omega) (by omega)
  have e4 : (nI (16 * k + j)).toNatClampNeg = 16 * k + j := nI_clamp (by omega)
  rw [n24]
  by_cases a1 : σ.1 68 k = 0
  · simp only [x24_0, x24_1, x24_4, x24_5, x24_6, x24_8, x24_9, x24_12, x24_13, x24_15, x24_16, x24_17, x24_18, x24_20, x24_23, x24_24, x24_25, x24_28, x24_30, x24_31, x24_34, x24_35, x24_36, x24_39, x24_40, x24_41, Option.toList_some, Option.toList_none, List.cons_append, List.nil_append, cat_i, cat_r, cat_n, cat_f, cs_n, cs_i, cs_r, cs_l, cs_f, Nat.reduceAdd, Nat.reduceLeDiff, Nat.zero_le, if_true, if_false, true_or, or_true, am_wr_at, Nat.reduceEqDiff, not_true_eq_false, not_false_eq_true, i_one, ite_not, bI_z, bI_nz, bI_t, bI_f, bI_or, Bool.false_eq_true, Bool.true_eq_false, reduceCtorEq, h1, d0, lc68, lc70, ix16, e3, e4, a1, lowF]
  · by_cases a2 : σ.1 68 k = 1
    · simp only [x24_0, x24_1, x24_4, x24_5, x24_6, x24_8, x24_9, x24_12, x24_13, x24_15, x24_16, x24_17, x24_18, x24_20, x24_23, x24_24, x24_25, x24_28, x24_30, x24_31, x24_34, x24_35, x24_36, x24_39, x24_40, x24_41, Option.toList_some, Option.toList_none, List.cons_append, List.nil_append, cat_i, cat_r, cat_n, cat_f, cs_n, cs_i, cs_r, cs_l, cs_f, Nat.reduceAdd, Nat.reduceLeDiff, Nat.zero_le, if_true, if_false, true_or, or_true, am_wr_at, Nat.reduceEqDiff, not_true_eq_false, not_false_eq_true, i_one, ite_not, bI_z, bI_nz, bI_t, bI_f, bI_or, Bool.false_eq_true, Bool.true_eq_false, reduceCtorEq, h1, d0, lc68, lc70, ix16, e3, e4, a2, lowF]
    · simp only [x24_0, x24_1, x24_4, x24_5, x24_6, x24_8, x24_9, x24_12, x24_13, x24_15, x24_16, x24_17, x24_18, x24_20, x24_23, x24_24, x24_25, x24_28, x24_30, x24_31, x24_34, x24_35, x24_36, x24_39, x24_40, x24_41, Option.toList_some, Option.toList_none, List.cons_append, List.nil_append, cat_i, cat_r, cat_n, cat_f, cs_n, cs_i, cs_r, cs_l, cs_f, Nat.reduceAdd, Nat.reduceLeDiff, Nat.zero_le, if_true, if_false, true_or, or_true, am_wr_at, Nat.reduceEqDiff, not_true_eq_false, not_false_eq_true, i_one, ite_not, bI_z, bI_nz, bI_t, bI_f, bI_or, Bool.false_eq_true, Bool.true_eq_false, reduceCtorEq, h1, d0, lc68, lc70, ix16, e3, e4, a1, a2, lowF]
theorem low_nonneg {v : Int32} (h : rg v (-1) 2) : (0 ≤ v) = (¬ v = -1) := by
  obtain ⟨h1, h2⟩ := h
  apply propext
  constructor
  · intro q e
    rw [e] at q
    exact absurd q (by decide)
  · intro q
    apply Int32.le_iff_toInt_le.mpr
    rw [t0]
    by_cases e : v.toInt = -1
    · exact absurd (Int32.toInt_inj.mp (by rw [e]; decide)) q
    · omega
theorem m11 : ¬ ((-11 : Int32) = 0) := by decide
theorem m12 : ¬ ((-12 : Int32) = 0) := by decide
theorem m11' : ¬ (0 : Int32) ≤ -11 := by decide
theorem m12' : ¬ (0 : Int32) ≤ -12 := by decide
theorem m13' : ¬ (0 : Int32) ≤ -13 := by decide
theorem iz3 : am_in 0 3 = true := by decide
theorem i13 : am_in 1 3 = true := by decide
theorem m1' : (0 : Int32) ≤ 1 := by decide
theorem m0' : (0 : Int32) ≤ 0 := by decide
theorem t1' : (decide (0 ≤ (1 : Int32).toInt)) = true := by decide
/-- item -/
theorem sim34 : ∀ x0 x1 x2 x3 : Int32, SimOK sv Inv 95 168 [.int x0, .int x1, .int x2, .int x3] := by
  intro w l i v σ hI
  by_cases h0 : am_in w 4 = true
  · by_cases h1 : am_in l 3 = true
    · obtain ⟨k, hk, rfl⟩ := in_nI h0 (by decide)
      have d0 : (nI k).toNatClampNeg = k := nI_clamp (by omega)
      obtain ⟨q1, q2, q3, q4, q5⟩ := hI.2.2.2.1 k hk
      have e0 := low_nonneg q2
      rw [q1] at e0 q2
      by_cases a1 : σ.1 86 k = -1
      · have a1' : ¬ 0 ≤ σ.1 86 k := by rw [e0]; simpa using a1
        exact ⟨-11, σ, σ, fun Q => by rw [n95]; simp only [x95_0, x95_1, x95_2, x95_5, x95_8, x95_9, x95_10, x95_13, x95_16, x95_17, x95_18, x95_19, x95_22, x95_23, x95_24, x95_27, x95_29, x95_31, x95_34, x95_36, x95_37, x95_38, x95_41, x95_42, x95_43, x95_44, x95_47, x95_50, x95_52, x95_53, x95_54, x95_57, x95_58, x95_59, x95_61, x95_64, x95_65, Option.toList_some, Option.toList_none, List.cons_append, List.nil_append, cat_i, cat_r, cat_n, cat_f, cs_n, cs_i, cs_r, cs_l, cs_f, Nat.reduceAdd, Nat.reduceLeDiff, Nat.zero_le, if_true, if_false, true_or, or_true, am_wr_at, Nat.reduceEqDiff, not_true_eq_false, not_false_eq_true, i_one, ite_not, bI_z, bI_nz, bI_t, bI_f, bI_or, Bool.false_eq_true, Bool.true_eq_false, reduceCtorEq, lt1, lt2, lt3, lt4, lt5, lt10, lt12, lt16, lt100, lt1000, bt1, bt2, bt3, bt4, bt5, bt10, bt12, bt16, bt100, bt1000, bt6, bt25, bt100000, s97, s20 hk, h0, h1, q1, a1, m11], fun Q => by rw [n168]; simp only [x168_0, x168_1, x168_4, x168_7, x168_8, x168_11, x168_14, x168_15, x168_16, x168_17, x168_18, x168_19, x168_20, x168_21, x168_24, x168_26, x168_28, x168_31, x168_33, x168_34, x168_35, x168_38, x168_40, x168_41, x168_42, x168_43, x168_44, x168_45, x168_48, x168_50, x168_51, x168_54, x168_55, x168_56, x168_59, x168_61, x168_62, x168_65, x168_67, x168_68, x168_69, Option.toList_some, Option.toList_none, List.cons_append, List.nil_append, cat_i, cat_r, cat_n, cat_f, cs_n, cs_i, cs_r, cs_l, cs_f, Nat.reduceAdd, Nat.reduceLeDiff, Nat.zero_le, if_true, if_false, true_or, or_true, am_wr_at, Nat.reduceEqDiff, not_true_eq_false, not_false_eq_true, i_one, ite_not, bI_z, bI_nz, bI_t, bI_f, bI_or, Bool.false_eq_true, Bool.true_eq_false, reduceCtorEq, lt1, lt2, lt3, lt4, lt5, lt10, lt12, lt16, lt100, lt1000, bt1, bt2, bt3, bt4, bt5, bt10, bt12, bt16, bt100, bt1000, bt6, bt25, bt100000, s162, s163, s164 hk, h0, h1, a1', m11'], hI⟩
      · have a1' : 0 ≤ σ.1 86 k := by rw [e0]; exact a1
        by_cases a2 : σ.1 86 k = l
        · subst a2
          by_cases a3 : fitF (σ.1 87 k) i 1 = true
          · have b3 := of_decide_eq_true a3
            rw [show (1 : Int32).toInt = 1 by decide] at b3
            obtain ⟨j, hj, rfl⟩ : ∃ j, j < 16 ∧ i = nI j := by
              have r2 := q4.2
              rw [q3] at r2
              obtain ⟨j, hj, e⟩ := rg_nI (x := i) (n := 15) (by decide) ⟨b3.1, by omega⟩
              exact ⟨j, by omega, e⟩
            have e3 : am_in (nI (16 * k + j)) 64 = true := nI_in' (by omega) (by omega)
            have e4 : (nI (16 * k + j)).toNatClampNeg = 16 * k + j := nI_clamp (by omega)
            refine ⟨1, am_wr σ 70 (upd (σ.1 70) (16 * k + j) (lowF (σ.1 86 k) v)), am_wr (am_wr σ 70 (upd (σ.1 70) (16 * k + j) (lowF (σ.1 86 k) v))) 88 (upd (σ.1 88) (16 * k + j) (lowF (σ.1 86 k) v)), fun Q => ?_, fun Q => ?_, ?_⟩
            · rw [n95]
              simp only [x95_0, x95_1, x95_2, x95_5, x95_8, x95_9, x95_10, x95_13, x95_16, x95_17, x95_18, x95_19, x95_22, x95_23, x95_24, x95_27, x95_29, x95_31, x95_34, x95_36, x95_37, x95_38, x95_41, x95_42, x95_43, x95_44, x95_47, x95_50, x95_52, x95_53, x95_54, x95_57, x95_58, x95_59, x95_61, x95_64, x95_65, Option.toList_some, Option.toList_none, List.cons_append, List.nil_append, cat_i, cat_r, cat_n, cat_f, cs_n, cs_i, cs_r, cs_l, cs_f, Nat.reduceAdd, Nat.reduceLeDiff, Nat.zero_le, if_true, if_false, true_or, or_true, am_wr_at, Nat.reduceEqDiff, not_true_eq_false, not_false_eq_true, i_one, ite_not, bI_z, bI_nz, bI_t, bI_f, bI_or, Bool.false_eq_true, Bool.true_eq_false, reduceCtorEq, lt1, lt2, lt3, lt4, lt5, lt10, lt12, lt16, lt100, lt1000, bt1, bt2, bt3, bt4, bt5, bt10, bt12, bt16, bt100, bt1000, bt6, bt25, bt100000, s97, s20 hk, s21 hk q4, s24 hk hj, h0, h1, q1, q3, a1, a3, t1', Bool.and_true]
            · rw [n168]
              by_cases z0 : σ.1 86 k = 0
              · simp only [x168_0, x168_1, x168_4, x168_7, x168_8, x168_11, x168_14, x168_15, x168_16, x168_17, x168_18, x168_19, x168_20, x168_21, x168_24, x168_26, x168_28, x168_31, x168_33, x168_34, x168_35, x168_38, x168_40, x168_41, x168_42, x168_43, x168_44, x168_45, x168_48, x168_50, x168_51, x168_54, x168_55, x168_56, x168_59, x168_61, x168_62, x168_65, x168_67, x168_68, x168_69, Option.toList_some, Option.toList_none, List.cons_append, List.nil_append, cat_i, cat_r, cat_n, cat_f, cs_n, cs_i, cs_r, cs_l, cs_f, Nat.reduceAdd, Nat.reduceLeDiff, Nat.zero_le, if_true, if_false, true_or, or_true, am_wr_at, Nat.reduceEqDiff, not_true_eq_false, not_false_eq_true, i_one, ite_not, bI_z, bI_nz, bI_t, bI_f, bI_or, Bool.false_eq_true, Bool.true_eq_false, reduceCtorEq, lt1, lt2, lt3, lt4, lt5, lt10, lt12, lt16, lt100, lt1000, bt1, bt2, bt3, bt4, bt5, bt10, bt12, bt16, bt100, bt1000, bt6, bt25, bt100000, s162, s163, s164 hk, h0, h1, a1', a3, m0', lc88, ix16', e3, e4, z0, lowF, iz3]
              · by_cases z1 : σ.1 86 k = 1
                · simp only [x168_0, x168_1, x168_4, x168_7, x168_8, x168_11, x168_14, x168_15, x168_16, x168_17, x168_18, x168_19, x168_20, x168_21, x168_24, x168_26, x168_28, x168_31, x168_33, x168_34, x168_35, x168_38, x168_40, x168_41, x168_42, x168_43, x168_44, x168_45, x168_48, x168_50, x168_51, x168_54, x168_55, x168_56, x168_59, x168_61, x168_62, x168_65, x168_67, x168_68, x168_69, Option.toList_some, Option.toList_none, List.cons_append, List.nil_append, cat_i, cat_r, cat_n, cat_f, cs_n, cs_i, cs_r, cs_l, cs_f, Nat.reduceAdd, Nat.reduceLeDiff, Nat.zero_le, if_true, if_false, true_or, or_true, am_wr_at, Nat.reduceEqDiff, not_true_eq_false, not_false_eq_true, i_one, ite_not, bI_z, bI_nz, bI_t, bI_f, bI_or, Bool.false_eq_true, Bool.true_eq_false, reduceCtorEq, lt1, lt2, lt3, lt4, lt5, lt10, lt12, lt16, lt100, lt1000, bt1, bt2, bt3, bt4, bt5, bt10, bt12, bt16, bt100, bt1000, bt6, bt25, bt100000, s162, s163, s164 hk, h0, h1, a1', a3, m0', lc88, ix16', e3, e4, z0, z1, lowF, i13, m1']
                · simp only [x168_0, x168_1, x168_4, x168_7, x168_8, x168_11, x168_14, x168_15, x168_16, x168_17, x168_18, x168_19, x168_20, x168_21, x168_24, x168_26, x168_28, x168_31, x168_33, x168_34, x168_35, x168_38, x168_40, x168_41, x168_42, x168_43, x168_44, x168_45, x168_48, x168_50, x168_51, x168_54, x168_55, x168_56, x168_59, x168_61, x168_62, x168_65, x168_67, x168_68, x168_69, Option.toList_some, Option.toList_none, List.cons_append, List.nil_append, cat_i, cat_r, cat_n, cat_f, cs_n, cs_i, cs_r, cs_l, cs_f, Nat.reduceAdd, Nat.reduceLeDiff, Nat.zero_le, if_true, if_false, true_or, or_true, am_wr_at, Nat.reduceEqDiff, not_true_eq_false, not_false_eq_true, i_one, ite_not, bI_z, bI_nz, bI_t, bI_f, bI_or, Bool.false_eq_true, Bool.true_eq_false, reduceCtorEq, lt1, lt2, lt3, lt4, lt5, lt10, lt12, lt16, lt100, lt1000, bt1, bt2, bt3, bt4, bt5, bt10, bt12, bt16, bt100, bt1000, bt6, bt25, bt100000, s162, s163, s164 hk, h0, h1, a1', a3, m0', lc88, ix16', e3, e4, z0, z1, lowF, i13, m1']
            · refine Inv_sh hI (fun k q => by rw [am_wr_ne (by omega), am_wr_ne (by omega)]) ?_
              intro k' hk'
              obtain ⟨p1, p2, p3, p4, p5⟩ := hI.2.2.2.1 k' hk'
              simp only [am_wr_at, upd_at, Nat.reduceEqDiff, if_true, if_false]
              refine ⟨p1, p2, p3, p4, fun j' hj' => ?_⟩
              split
              · rfl
              · exact p5 j' hj'
          · have a3 : fitF (σ.1 87 k) i 1 = false := by simpa using a3
            exact ⟨-13, σ, σ, fun Q => by rw [n95]; simp only [x95_0, x95_1, x95_2, x95_5, x95_8, x95_9, x95_10, x95_13, x95_16, x95_17, x95_18, x95_19, x95_22, x95_23, x95_24, x95_27, x95_29, x95_31, x95_34, x95_36, x95_37, x95_38, x95_41, x95_42, x95_43, x95_44, x95_47, x95_50, x95_52, x95_53, x95_54, x95_57, x95_58, x95_59, x95_61, x95_64, x95_65, Option.toList_some, Option.toList_none, List.cons_append, List.nil_append, cat_i, cat_r, cat_n, cat_f, cs_n, cs_i, cs_r, cs_l, cs_f, Nat.reduceAdd, Nat.reduceLeDiff, Nat.zero_le, if_true, if_false, true_or, or_true, am_wr_at, Nat.reduceEqDiff, not_true_eq_false, not_false_eq_true, i_one, ite_not, bI_z, bI_nz, bI_t, bI_f, bI_or, Bool.false_eq_true, Bool.true_eq_false, reduceCtorEq, lt1, lt2, lt3, lt4, lt5, lt10, lt12, lt16, lt100, lt1000, bt1, bt2, bt3, bt4, bt5, bt10, bt12, bt16, bt100, bt1000, bt6, bt25, bt100000, s97, s20 hk, s21 hk q4, h0, h1, q1, q3, a1, a3, t1', Bool.and_false], fun Q => by rw [n168]; simp only [x168_0, x168_1, x168_4, x168_7, x168_8, x168_11, x168_14, x168_15, x168_16, x168_17, x168_18, x168_19, x168_20, x168_21, x168_24, x168_26, x168_28, x168_31, x168_33, x168_34, x168_35, x168_38, x168_40, x168_41, x168_42, x168_43, x168_44, x168_45, x168_48, x168_50, x168_51, x168_54, x168_55, x168_56, x168_59, x168_61, x168_62, x168_65, x168_67, x168_68, x168_69, Option.toList_some, Option.toList_none, List.cons_append, List.nil_append, cat_i, cat_r, cat_n, cat_f, cs_n, cs_i, cs_r, cs_l, cs_f, Nat.reduceAdd, Nat.reduceLeDiff, Nat.zero_le, if_true, if_false, true_or, or_true, am_wr_at, Nat.reduceEqDiff, not_true_eq_false, not_false_eq_true, i_one, ite_not, bI_z, bI_nz, bI_t, bI_f, bI_or, Bool.false_eq_true, Bool.true_eq_false, reduceCtorEq, lt1, lt2, lt3, lt4, lt5, lt10, lt12, lt16, lt100, lt1000, bt1, bt2, bt3, bt4, bt5, bt10, bt12, bt16, bt100, bt1000, bt6, bt25, bt100000, s162, s163, s164 hk, h0, h1, a1', a3, m13'], hI⟩
        · exact ⟨-12, σ, σ, fun Q => by rw [n95]; simp only [x95_0, x95_1, x95_2, x95_5, x95_8, x95_9, x95_10, x95_13, x95_16, x95_17, x95_18, x95_19, x95_22, x95_23, x95_24, x95_27, x95_29, x95_31, x95_34, x95_36, x95_37, x95_38, x95_41, x95_42, x95_43, x95_44, x95_47, x95_50, x95_52, x95_53, x95_54, x95_57, x95_58, x95_59, x95_61, x95_64, x95_65, Option.toList_some, Option.toList_none, List.cons_append, List.nil_append, cat_i, cat_r, cat_n, cat_f, cs_n, cs_i, cs_r, cs_l, cs_f, Nat.reduceAdd, Nat.reduceLeDiff, Nat.zero_le, if_true, if_false, true_or, or_true, am_wr_at, Nat.reduceEqDiff, not_true_eq_false, not_false_eq_true, i_one, ite_not, bI_z, bI_nz, bI_t, bI_f, bI_or, Bool.false_eq_true, Bool.true_eq_false, reduceCtorEq, lt1, lt2, lt3, lt4, lt5, lt10, lt12, lt16, lt100, lt1000, bt1, bt2, bt3, bt4, bt5, bt10, bt12, bt16, bt100, bt1000, bt6, bt25, bt100000, s97, s20 hk, h0, h1, q1, a1, a2, m12], fun Q => by rw [n168]; simp only [x168_0, x168_1, x168_4, x168_7, x168_8, x168_11, x168_14, x168_15, x168_16, x168_17, x168_18, x168_19, x168_20, x168_21, x168_24, x168_26, x168_28, x168_31, x168_33, x168_34, x168_35, x168_38, x168_40, x168_41, x168_42, x168_43, x168_44, x168_45, x168_48, x168_50, x168_51, x168_54, x168_55, x168_56, x168_59, x168_61, x168_62, x168_65, x168_67, x168_68, x168_69, Option.toList_some, Option.toList_none, List.cons_append, List.nil_append, cat_i, cat_r, cat_n, cat_f, cs_n, cs_i, cs_r, cs_l, cs_f, Nat.reduceAdd, Nat.reduceLeDiff, Nat.zero_le, if_true, if_false, true_or, or_true, am_wr_at, Nat.reduceEqDiff, not_true_eq_false, not_false_eq_true, i_one, ite_not, bI_z, bI_nz, bI_t, bI_f, bI_or, Bool.false_eq_true, Bool.true_eq_false, reduceCtorEq, lt1, lt2, lt3, lt4, lt5, lt10, lt12, lt16, lt100, lt1000, bt1, bt2, bt3, bt4, bt5, bt10, bt12, bt16, bt100, bt1000, bt6, bt25, bt100000, s162, s163, s164 hk, h0, h1, a1', a2, m12'], hI⟩
    · have h1 : am_in l 3 = false := by simpa using h1
      exact ⟨-1, σ, σ, fun Q => by rw [n95]; simp only [x95_0, x95_1, x95_2, x95_5, x95_8, x95_9, x95_10, x95_13, x95_16, x95_17, x95_18, x95_19, x95_22, x95_23, x95_24, x95_27, x95_29, x95_31, x95_34, x95_36, x95_37, x95_38, x95_41, x95_42, x95_43, x95_44, x95_47, x95_50, x95_52, x95_53, x95_54, x95_57, x95_58, x95_59, x95_61, x95_64, x95_65, Option.toList_some, Option.toList_none, List.cons_append, List.nil_append, cat_i, cat_r, cat_n, cat_f, cs_n, cs_i, cs_r, cs_l, cs_f, Nat.reduceAdd, Nat.reduceLeDiff, Nat.zero_le, if_true, if_false, true_or, or_true, am_wr_at, Nat.reduceEqDiff, not_true_eq_false, not_false_eq_true, i_one, ite_not, bI_z, bI_nz, bI_t, bI_f, bI_or, Bool.false_eq_true, Bool.true_eq_false, reduceCtorEq, lt1, lt2, lt3, lt4, lt5, lt10, lt12, lt16, lt100, lt1000, bt1, bt2, bt3, bt4, bt5, bt10, bt12, bt16, bt100, bt1000, bt6, bt25, bt100000, s97, h0, h1], fun Q => by rw [n168]; simp only [x168_0, x168_1, x168_4, x168_7, x168_8, x168_11, x168_14, x168_15, x168_16, x168_17, x168_18, x168_19, x168_20, x168_21, x168_24, x168_26, x168_28, x168_31, x168_33, x168_34, x168_35, x168_38, x168_40, x168_41, x168_42, x168_43, x168_44, x168_45, x168_48, x168_50, x168_51, x168_54, x168_55, x168_56, x168_59, x168_61, x168_62, x168_65, x168_67, x168_68, x168_69, Option.toList_some, Option.toList_none, List.cons_append, List.nil_append, cat_i, cat_r, cat_n, cat_f, cs_n, cs_i, cs_r, cs_l, cs_f, Nat.reduceAdd, Nat.reduceLeDiff, Nat.zero_le, if_true, if_false, true_or, or_true, am_wr_at, Nat.reduceEqDiff, not_true_eq_false, not_false_eq_true, i_one, ite_not, bI_z, bI_nz, bI_t, bI_f, bI_or, Bool.false_eq_true, Bool.true_eq_false, reduceCtorEq, lt1, lt2, lt3, lt4, lt5, lt10, lt12, lt16, lt100, lt1000, bt1, bt2, bt3, bt4, bt5, bt10, bt12, bt16, bt100, bt1000, bt6, bt25, bt100000, s162, s163, h0, h1], hI⟩
  · have h0 : am_in w 4 = false := by simpa using h0
    exact ⟨-1, σ, σ, fun Q => by rw [n95]; simp only [x95_0, x95_1, x95_2, x95_5, x95_8, x95_9, x95_10, x95_13, x95_16, x95_17, x95_18, x95_19, x95_22, x95_23, x95_24, x95_27, x95_29, x95_31, x95_34, x95_36, x95_37, x95_38, x95_41, x95_42, x95_43, x95_44, x95_47, x95_50, x95_52, x95_53, x95_54, x95_57, x95_58, x95_59, x95_61, x95_64, x95_65, Option.toList_some, Option.toList_none, List.cons_append, List.nil_append, cat_i, cat_r, cat_n, cat_f, cs_n, cs_i, cs_r, cs_l, cs_f, Nat.reduceAdd, Nat.reduceLeDiff, Nat.zero_le, if_true, if_false, true_or, or_true, am_wr_at, Nat.reduceEqDiff, not_true_eq_false, not_false_eq_true, i_one, ite_not, bI_z, bI_nz, bI_t, bI_f, bI_or, Bool.false_eq_true, Bool.true_eq_false, reduceCtorEq, lt1, lt2, lt3, lt4, lt5, lt10, lt12, lt16, lt100, lt1000, bt1, bt2, bt3, bt4, bt5, bt10, bt12, bt16, bt100, bt1000, bt6, bt25, bt100000, s97, h0], fun Q => by rw [n168]; simp only [x168_0, x168_1, x168_4, x168_7, x168_8, x168_11, x168_14, x168_15, x168_16, x168_17, x168_18, x168_19, x168_20, x168_21, x168_24, x168_26, x168_28, x168_31, x168_33, x168_34, x168_35, x168_38, x168_40, x168_41, x168_42, x168_43, x168_44, x168_45, x168_48, x168_50, x168_51, x168_54, x168_55, x168_56, x168_59, x168_61, x168_62, x168_65, x168_67, x168_68, x168_69, Option.toList_some, Option.toList_none, List.cons_append, List.nil_append, cat_i, cat_r, cat_n, cat_f, cs_n, cs_i, cs_r, cs_l, cs_f, Nat.reduceAdd, Nat.reduceLeDiff, Nat.zero_le, if_true, if_false, true_or, or_true, am_wr_at, Nat.reduceEqDiff, not_true_eq_false, not_false_eq_true, i_one, ite_not, bI_z, bI_nz, bI_t, bI_f, bI_or, Bool.false_eq_true, Bool.true_eq_false, reduceCtorEq, lt1, lt2, lt3, lt4, lt5, lt10, lt12, lt16, lt100, lt1000, bt1, bt2, bt3, bt4, bt5, bt10, bt12, bt16, bt100, bt1000, bt6, bt25, bt100000, s162, s163, h0], hI⟩
end I47
