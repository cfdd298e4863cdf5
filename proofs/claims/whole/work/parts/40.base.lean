/-! NUMBERS AND BOOLEANS -/
def bI (t : Bool) : Int32 := if t = true then 1 else 0
theorem bI_t : bI true = 1 := rfl
theorem bI_f : bI false = 0 := rfl
theorem bI_z {t : Bool} : (bI t = 0) = (t = false) := by cases t <;> simp [bI] <;> decide
theorem bI_nz {t : Bool} : (¬ bI t = 0) = (t = true) := by cases t <;> simp [bI] <;> decide
theorem bI_or {t : Bool} : (bI t = 0 ∨ bI t = 1) = True := by cases t <;> simp [bI]
theorem am_one_t : ((1 : Int32) = 0 ∨ (1 : Int32) = 1) = True := by simp
theorem am_zero_t : ((0 : Int32) = 0 ∨ (0 : Int32) = 1) = True := by simp
theorem i_one : ((1 : Int32) = 0) = False := by simp
theorem am_wr_at {σ : am_S} {a k : Nat} {f : Nat → Int32} : (am_wr σ a f).1 k = if k = a then f else σ.1 k := id rfl
/-- below a limit -/
def am_lt (x l : Int32) : Bool := decide (0 ≤ x.toInt ∧ x.toInt < l.toInt)
def am_bt (u l h : Int64) : Bool := decide (l.toInt ≤ u.toInt ∧ u.toInt ≤ h.toInt)
theorem lg_lt {u w : Int64} : (lg_cmp u w < 0) = (u < w) := by
  apply propext
  unfold lg_cmp
  constructor
  · intro h
    split at h
    · exact absurd h (by decide)
    · split at h
      · exact absurd h (by decide)
      · rename_i h1 h2
        exact Int64.lt_of_le_of_ne (Int64.not_lt.mp h1) h2
  · intro h
    rw [if_neg (Int64.not_lt.mpr (Int64.le_of_lt h)), if_neg (fun q => Int64.lt_irrefl (q ▸ h))]
    decide
theorem lg_gt {u w : Int64} : (0 < lg_cmp u w) = (w < u) := by
  apply propext
  unfold lg_cmp
  constructor
  · intro h
    split at h
    · assumption
    · split at h <;> exact absurd h (by decide)
  · intro h
    rw [if_pos h]; decide
theorem lg_le {u w : Int64} : (lg_cmp u w ≤ 0) = (u ≤ w) := by
  apply propext
  rw [← Int32.not_lt, lg_gt, Int64.not_lt]
theorem lg_ge {u w : Int64} : (0 ≤ lg_cmp u w) = (w ≤ u) := by
  apply propext
  rw [← Int32.not_lt, lg_lt, Int64.not_lt]
section B40
variable {sv : am_V} {h : am_H} {σ : am_S} {Q : Option Value → am_H → Prop} {x y l x0 x1 x2 x3 x4 x5 : Int32} {u w : Int64} {a : Nat}
theorem s97 : AM sv 97 [.int x, .int l] h Q = Q (some (.int (bI (am_lt x l)))) h := by
  rw [n97]
  simp only [x97_0, x97_1, x97_4, x97_5, x97_6, x97_9, x97_10, x97_13, x97_14, Option.toList_some, Option.toList_none, List.cons_append, List.nil_append, cat_i, cat_r, cat_n, cat_f, cs_n, cs_i, cs_r, cs_l, cs_f, Nat.reduceAdd, Nat.reduceLeDiff, Nat.zero_le, if_true, if_false, true_or, or_true]
  by_cases h1 : x < 0
  · have : am_lt x l = false := by
      have := Int32.lt_iff_toInt_lt.mp h1
      simp [am_lt] at *; omega
    simp only [h1, this, bI_f, if_true]
  · by_cases h2 : l ≤ x
    · have : am_lt x l = false := by
        have := Int32.le_iff_toInt_le.mp h2
        simp [am_lt] at *; omega
      simp only [h1, h2, this, bI_f, if_true, if_false]
    · have : am_lt x l = true := by
        have e1 := Int32.not_lt.mp h1
        have e2 := Int32.not_le.mp h2
        have := Int32.le_iff_toInt_le.mp e1
        have := Int32.lt_iff_toInt_lt.mp e2
        simp [am_lt] at *; omega
      simp only [h1, h2, this, bI_t, if_false]
theorem s104 {v : Int64} : AM sv 104 [.long u, .long w, .long v] h Q = Q (some (.int (bI (am_bt u w v)))) h := by
  rw [n104]
  simp only [x104_0, x104_1, x104_2, x104_3, x104_6, x104_7, x104_9, x104_10, x104_13, x104_14, x104_17, x104_18, Option.toList_some, Option.toList_none, List.cons_append, List.nil_append, cat_i, cat_r, cat_n, cat_f, cs_n, cs_i, cs_r, cs_l, cs_f, Nat.reduceAdd, Nat.reduceLeDiff, Nat.zero_le, if_true, if_false, true_or, or_true, lg_lt, lg_gt, lg_le, lg_ge]
  by_cases h1 : u < w
  · have : am_bt u w v = false := by
      have := Int64.lt_iff_toInt_lt.mp h1
      simp [am_bt] at *; omega
    simp only [h1, this, bI_f, if_true]
  · by_cases h2 : v < u
    · have : am_bt u w v = false := by
        have := Int64.lt_iff_toInt_lt.mp h2
        simp [am_bt] at *; omega
      simp only [h1, h2, this, bI_f, if_true, if_false]
    · have : am_bt u w v = true := by
        have := Int64.le_iff_toInt_le.mp (Int64.not_lt.mp h1)
        have := Int64.le_iff_toInt_le.mp (Int64.not_lt.mp h2)
        simp [am_bt] at *; omega
      simp only [h1, h2, this, bI_t, if_false]
theorem s99 (hi : am_in x (am_ln a) = true) : AM sv 99 [.ref a, .int x, .int y] (am_toH σ) Q = Q (some (.int (σ.1 a x.toNatClampNeg))) (am_toH (am_wr σ a (upd (σ.1 a) x.toNatClampNeg y))) := by
  rw [n99]
  simp only [x99_0, x99_1, x99_2, x99_3, x99_4, x99_5, x99_6, x99_7, x99_8, x99_9, Option.toList_some, Option.toList_none, List.cons_append, List.nil_append, cat_i, cat_r, cat_n, cat_f, cs_n, cs_i, cs_r, cs_l, cs_f, Nat.reduceAdd, Nat.reduceLeDiff, Nat.zero_le, if_true, if_false, true_or, or_true, hi]
theorem s98 : AM sv 98 [.int x] h Q = Q (some (.int (bI (decide (1 ≤ x.toInt ∧ x.toInt ≤ 9))))) h := by
  rw [n98]
  simp only [x98_0, x98_1, x98_2, x98_5, x98_6, x98_8, x98_11, x98_12, x98_15, x98_16, Option.toList_some, Option.toList_none, List.cons_append, List.nil_append, cat_i, cat_r, cat_n, cat_f, cs_n, cs_i, cs_r, cs_l, cs_f, Nat.reduceAdd, Nat.reduceLeDiff, Nat.zero_le, if_true, if_false, true_or, or_true]
  by_cases h1 : x < 1
  · have e : decide (1 ≤ x.toInt ∧ x.toInt ≤ 9) = false := by
      have := Int32.lt_iff_toInt_lt.mp h1
      simp at *; omega
    simp only [h1, e, bI_f, if_true]
  · by_cases h2 : 9 < x
    · have e : decide (1 ≤ x.toInt ∧ x.toInt ≤ 9) = false := by
        have := Int32.lt_iff_toInt_lt.mp h2
        simp at *; omega
      simp only [h1, h2, e, bI_f, if_true, if_false]
    · have e : decide (1 ≤ x.toInt ∧ x.toInt ≤ 9) = true := by
        have := Int32.le_iff_toInt_le.mp (Int32.not_lt.mp h1)
        have := Int32.le_iff_toInt_le.mp (Int32.not_lt.mp h2)
        simp at *; omega
      simp only [h1, h2, e, bI_t, if_false]
theorem bt_in {x : Int32} {n : Int64} {k : Nat} (hn : n.toInt + 1 = (k : Int)) : am_bt x.toInt64 0 n = am_in x k := by
  unfold am_bt am_in
  rw [Int32.toInt_toInt64]
  apply decide_eq_decide.mpr
  simp; omega
theorem lt_in {x l : Int32} {k : Nat} (hn : l.toInt = (k : Int)) : am_lt x l = am_in x k := by
  unfold am_lt am_in
  rw [hn]
theorem s106 : AM sv 106 [.int x] h Q = Q (some (.int (bI (am_in x 16)))) h := by
  rw [n106]
  simp only [x106_0, x106_1, x106_2, x106_3, x106_6, x106_9, Option.toList_some, Option.toList_none, List.cons_append, List.nil_append, cat_i, cat_r, cat_n, cat_f, cs_n, cs_i, cs_r, cs_l, cs_f, Nat.reduceAdd, Nat.reduceLeDiff, Nat.zero_le, if_true, if_false, true_or, or_true, s104, bI_or]
  rw [bt_in (k := 16) (by decide)]
theorem s107 : AM sv 107 [.int x] h Q = Q (some (.int (bI (am_in x 4)))) h := by
  rw [n107]
  simp only [x107_0, x107_1, x107_2, x107_3, x107_6, x107_9, Option.toList_some, Option.toList_none, List.cons_append, List.nil_append, cat_i, cat_r, cat_n, cat_f, cs_n, cs_i, cs_r, cs_l, cs_f, Nat.reduceAdd, Nat.reduceLeDiff, Nat.zero_le, if_true, if_false, true_or, or_true, s104, bI_or]
  rw [bt_in (k := 4) (by decide)]
theorem s162 : AM sv 162 [.int x] h Q = Q (some (.int (bI (am_in x 4)))) h := by
  rw [n162]
  simp only [x162_0, x162_1, x162_2, x162_3, x162_6, x162_9, Option.toList_some, Option.toList_none, List.cons_append, List.nil_append, cat_i, cat_r, cat_n, cat_f, cs_n, cs_i, cs_r, cs_l, cs_f, Nat.reduceAdd, Nat.reduceLeDiff, Nat.zero_le, if_true, if_false, true_or, or_true, s104, bI_or]
  rw [bt_in (k := 4) (by decide)]
theorem s163 : AM sv 163 [.int x] h Q = Q (some (.int (bI (am_in x 3)))) h := by
  rw [n163]
  simp only [x163_0, x163_1, x163_2, x163_3, x163_6, x163_9, Option.toList_some, Option.toList_none, List.cons_append, List.nil_append, cat_i, cat_r, cat_n, cat_f, cs_n, cs_i, cs_r, cs_l, cs_f, Nat.reduceAdd, Nat.reduceLeDiff, Nat.zero_le, if_true, if_false, true_or, or_true, s104, bI_or]
  rw [bt_in (k := 3) (by decide)]
theorem s108 : AM sv 108 [.ref 71, .int x] (am_toH σ) Q = Q (some (.int (bI (am_bt x.toInt64 0 (σ.1 71 7 - 1).toInt64)))) (am_toH σ) := by
  rw [n108]
  simp only [x108_0, x108_1, x108_2, x108_3, x108_4, x108_7, x108_8, x108_9, x108_10, x108_13, Option.toList_some, Option.toList_none, List.cons_append, List.nil_append, cat_i, cat_r, cat_n, cat_f, cs_n, cs_i, cs_r, cs_l, cs_f, Nat.reduceAdd, Nat.reduceLeDiff, Nat.zero_le, if_true, if_false, true_or, or_true, s104, bI_or]
end B40
