/-! the common divisor, in at most n steps -/
def gcdF : Nat → Int32 → Int32 → Int32
  | 0, x, _ => x
  | n + 1, x, y => if y = 0 then x else gcdF n y (x - x / y * y)
section I59g
variable {sv : am_V} {h : am_H} {Q : Option Value → am_H → Prop}
theorem s102l : ∀ (n i : Nat) (x y : Int32) (v3 : Value), i + n = 64 → AW sv 102 2 [.int x, .int y, .int (nI i), v3] [] h 0 0 Q = Q (some (.int (gcdF n x y))) h := by
  intro n
  induction n with
  | zero =>
    intro i x y v3 hi
    have e : i = 64 := by omega
    subst e
    have e0 : (64 : Int32) ≤ nI 64 := by decide
    rw [x102_2]
    simp only [x102_3, x102_5, x102_26, x102_27, Option.toList_some, Option.toList_none, List.cons_append, List.nil_append, cat_i, cat_r, cat_n, cat_f, cs_n, cs_i, cs_r, cs_l, cs_f, Nat.reduceAdd, Nat.reduceLeDiff, Nat.zero_le, if_true, if_false, true_or, or_true, am_wr_at, Nat.reduceEqDiff, not_true_eq_false, not_false_eq_true, i_one, ite_not, bI_z, bI_nz, bI_t, bI_f, bI_or, Bool.false_eq_true, Bool.true_eq_false, reduceCtorEq, e0, gcdF]
  | succ n ih =>
    intro i x y v3 hi
    have e1 : ¬ 64 ≤ nI i := by
      show ¬ nI 64 ≤ nI i
      exact nI_ge (by omega) (by decide)
    rw [x102_2]
    by_cases q : y = 0
    · simp only [x102_3, x102_5, x102_8, x102_9, x102_26, x102_27, Option.toList_some, Option.toList_none, List.cons_append, List.nil_append, cat_i, cat_r, cat_n, cat_f, cs_n, cs_i, cs_r, cs_l, cs_f, Nat.reduceAdd, Nat.reduceLeDiff, Nat.zero_le, if_true, if_false, true_or, or_true, am_wr_at, Nat.reduceEqDiff, not_true_eq_false, not_false_eq_true, i_one, ite_not, bI_z, bI_nz, bI_t, bI_f, bI_or, Bool.false_eq_true, Bool.true_eq_false, reduceCtorEq, e1, q, gcdF]
    · simp only [x102_3, x102_5, x102_8, x102_9, x102_12, x102_13, x102_14, x102_15, x102_16, x102_17, x102_18, x102_19, x102_20, x102_23, Option.toList_some, Option.toList_none, List.cons_append, List.nil_append, cat_i, cat_r, cat_n, cat_f, cs_n, cs_i, cs_r, cs_l, cs_f, Nat.reduceAdd, Nat.reduceLeDiff, Nat.zero_le, if_true, if_false, true_or, or_true, am_wr_at, Nat.reduceEqDiff, not_true_eq_false, not_false_eq_true, i_one, ite_not, bI_z, bI_nz, bI_t, bI_f, bI_or, Bool.false_eq_true, Bool.true_eq_false, reduceCtorEq, e1, q, nI_1, gcdF]
      exact ih (i + 1) y (x - x / y * y) _ (by omega)
theorem s102 {x y : Int32} : AM sv 102 [.int x, .int y] h Q = Q (some (.int (gcdF 64 x y))) h := by
  rw [n102]
  simp only [x102_0, x102_1, Option.toList_some, Option.toList_none, List.cons_append, List.nil_append, cat_i, cat_r, cat_n, cat_f, cs_n, cs_i, cs_r, cs_l, cs_f, Nat.reduceAdd, Nat.reduceLeDiff, Nat.zero_le, if_true, if_false, true_or, or_true, am_wr_at, Nat.reduceEqDiff, not_true_eq_false, not_false_eq_true, i_one, ite_not, bI_z, bI_nz, bI_t, bI_f, bI_or, Bool.false_eq_true, Bool.true_eq_false, reduceCtorEq]
  exact s102l 64 0 x y _ rfl
end I59g
