/-! ODDS of the class: weigh -/
def suF (P : Nat → Int32) (t : Int32) : Nat → Int32
  | 0 => -t
  | i + 1 => suF P t i + P i
def szF (S s : Int32) : Int32 := if 1 < S - S / 10 * 10 - s / 4 then S - S / 10 * 10 - s / 4 else 1
def blF (P : Nat → Int32) (t : Int32) : Int32 := 81 * (t + suF P t 4)
def abF (P : Nat → Int32) (t S s c hd : Int32) : Int32 := if canF s (S / 10) c = true then hd * (t * szF S s + suF P t 4 * (if 0 < szF S s - 6 then szF S s - 6 else 0)) else 0
section I59e
variable {sv : am_V} {σ : am_S} {Q : Option Value → am_H → Prop} {kd db k hd : Int32} {a b w : Nat} {P : Nat → Int32}
theorem s30b (ha : am_St a) (hb : b < 16) (hw : w < 12) (hS : am_in (σ.1 (a + 3) b / 10) 4 = true) : AW sv 30 24 [.ref a, .int (nI w), .int (nI b), .int k, .int hd, .null, .null, .null, .null, .null, .null] [] (am_toH (am_wr σ (a + 20) P)) 0 0 Q = Q none (am_toH (am_wr (am_wr σ (a + 20) P) a (upd (upd (σ.1 a) 8 (blF P (P (σ.1 (a + 3) b / 10).toNatClampNeg))) 7 (abF P (P (σ.1 (a + 3) b / 10).toNatClampNeg) (σ.1 (a + 3) b) (σ.1 (a + 8) w) (σ.1 a 5) hd)))) := by
  have b2 : am_in (nI b) 16 = true := nI_in' (by omega) (by omega)
  have b3 : (nI b).toNatClampNeg = b := nI_clamp (by omega)
  have w2 : am_in (nI w) 12 = true := nI_in' (by omega) (by omega)
  have w3 : (nI w).toNatClampNeg = w := nI_clamp (by omega)
  have e0 : (4 : Int32) ≤ nI 4 := by decide
  have key := am_up (N := 4) (f := fun i => AW sv 30 82 [.ref a, .int (nI w), .int (nI b), .int k, .int hd, .int (σ.1 (a + 3) b), .int (σ.1 (a + 8) w), .int (szF (σ.1 (a + 3) b) (σ.1 (a + 8) w)), .int (P (σ.1 (a + 3) b / 10).toNatClampNeg), .int (suF P (P (σ.1 (a + 3) b / 10).toNatClampNeg) i), .int (nI i)] [] (am_toH (am_wr σ (a + 20) P)) 0 0 Q) (by
    intro i hi
    have e1 : ¬ 4 ≤ nI i := by
      show ¬ nI 4 ≤ nI i
      exact nI_ge (by omega) (by decide)
    have e2 : am_in (nI i) 4 = true := nI_in' (by omega) (by omega)
    have e3 : (nI i).toNatClampNeg = i := nI_clamp (by omega)
    simp only [suF]
    rw [x30_82]
    simp only [x30_84, x30_85, x30_88, x30_90, x30_91, x30_94, x30_96, x30_97, x30_98, x30_100, x30_103, Option.toList_some, Option.toList_none, List.cons_append, List.nil_append, cat_i, cat_r, cat_n, cat_f, cs_n, cs_i, cs_r, cs_l, cs_f, Nat.reduceAdd, Nat.reduceLeDiff, Nat.zero_le, if_true, if_false, true_or, or_true, am_wr_at, Nat.reduceEqDiff, not_true_eq_false, not_false_eq_true, i_one, ite_not, bI_z, bI_nz, bI_t, bI_f, bI_or, Bool.false_eq_true, Bool.true_eq_false, reduceCtorEq, nep, nep', ha, ln20, e1, e2, e3, nI_1]) 4 (Nat.le_refl _)
  simp only [x30_24, x30_25, x30_28, x30_31, x30_32, x30_33, x30_35, x30_36, x30_39, x30_42, x30_43, x30_44, x30_46, x30_47, x30_49, x30_51, x30_52, x30_54, x30_55, x30_56, x30_57, x30_60, x30_62, x30_63, x30_66, x30_68, x30_70, x30_71, x30_72, x30_74, x30_76, x30_77, x30_79, x30_80, Option.toList_some, Option.toList_none, List.cons_append, List.nil_append, cat_i, cat_r, cat_n, cat_f, cs_n, cs_i, cs_r, cs_l, cs_f, Nat.reduceAdd, Nat.reduceLeDiff, Nat.zero_le, if_true, if_false, true_or, or_true, am_wr_at, Nat.reduceEqDiff, not_true_eq_false, not_false_eq_true, i_one, ite_not, bI_z, bI_nz, bI_t, bI_f, bI_or, Bool.false_eq_true, Bool.true_eq_false, reduceCtorEq, nep, nep', ha, ln3, ln8, ln20, b2, b3, w2, w3, hS, ten_ne0, four_ne]
  refine Eq.trans key ?_
  unfold blF abF
  generalize suF P (P (σ.1 (a + 3) b / 10).toNatClampNeg) 4 = z
  generalize szF (σ.1 (a + 3) b) (σ.1 (a + 8) w) = y
  rw [x30_82]
  cases hc : canF (σ.1 (a + 8) w) (σ.1 (a + 3) b / 10) (σ.1 a 5) with
  | true => simp only [x30_84, x30_85, x30_106, x30_107, x30_109, x30_111, x30_113, x30_114, x30_115, x30_118, x30_119, x30_121, x30_123, x30_125, x30_126, x30_127, x30_130, x30_133, x30_136, x30_138, x30_140, x30_142, x30_143, x30_145, x30_146, x30_148, x30_150, x30_151, x30_154, x30_155, x30_156, x30_157, x30_160, x30_161, x30_164, Option.toList_some, Option.toList_none, List.cons_append, List.nil_append, cat_i, cat_r, cat_n, cat_f, cs_n, cs_i, cs_r, cs_l, cs_f, Nat.reduceAdd, Nat.reduceLeDiff, Nat.zero_le, if_true, if_false, true_or, or_true, am_wr_at, Nat.reduceEqDiff, not_true_eq_false, not_false_eq_true, i_one, ite_not, bI_z, bI_nz, bI_t, bI_f, bI_or, Bool.false_eq_true, Bool.true_eq_false, reduceCtorEq, nep, nep', ha, e0, s103, hc, ten_ne0, am_wr_wr, upd_at]
  | false => simp only [x30_84, x30_85, x30_106, x30_107, x30_109, x30_111, x30_113, x30_114, x30_115, x30_118, x30_119, x30_121, x30_123, x30_125, x30_126, x30_127, x30_130, x30_133, x30_136, x30_138, x30_140, x30_142, x30_143, x30_145, x30_146, x30_148, x30_150, x30_151, x30_154, x30_155, x30_156, x30_157, x30_160, x30_161, x30_164, Option.toList_some, Option.toList_none, List.cons_append, List.nil_append, cat_i, cat_r, cat_n, cat_f, cs_n, cs_i, cs_r, cs_l, cs_f, Nat.reduceAdd, Nat.reduceLeDiff, Nat.zero_le, if_true, if_false, true_or, or_true, am_wr_at, Nat.reduceEqDiff, not_true_eq_false, not_false_eq_true, i_one, ite_not, bI_z, bI_nz, bI_t, bI_f, bI_or, Bool.false_eq_true, Bool.true_eq_false, reduceCtorEq, nep, nep', ha, e0, s103, hc, ten_ne0, am_wr_wr, upd_at]
theorem s30 (ha : am_St a) (hb : b < 16) (hw : w < 12) (hok : deed (σ.1 (a + 2) b) ∧ deed (σ.1 (a + 3) b) ∧ rg (σ.1 (a + 4) b) 0 4 ∧ rg (σ.1 (a + 5) b) 0 4) (hP : P = puF (σ.1 (a + 20)) (σ.1 (a + 4) b) (σ.1 (a + 5) b) (σ.1 (a + 2) b) (σ.1 (a + 3) b) (σ.1 (a + 19) 0) (σ.1 (a + 19) 1) (σ.1 (a + 19) 3) (σ.1 (a + 9) w) (σ.1 (a + 10) w) k) : AM sv 30 [.ref a, .int (nI w), .int (nI b), .int k, .int hd] (am_toH σ) Q = Q none (am_toH (am_wr (am_wr σ (a + 20) P) a (upd (upd (σ.1 a) 8 (blF P (P (σ.1 (a + 3) b / 10).toNatClampNeg))) 7 (abF P (P (σ.1 (a + 3) b / 10).toNatClampNeg) (σ.1 (a + 3) b) (σ.1 (a + 8) w) (σ.1 a 5) hd)))) := by
  have w2 : am_in (nI w) 12 = true := nI_in' (by omega) (by omega)
  have w3 : (nI w).toNatClampNeg = w := nI_clamp (by omega)
  have c29 := fun kd db k Q => s29 (sv := sv) (Q := Q) (σ := σ) (kd := kd) (db := db) (k := k) ha hb hok
  rw [← s30b (sv := sv) (Q := Q) (k := k) ha hb hw (dd_ok hok.2.1), n30]
  simp only [x30_0, x30_1, x30_2, x30_5, x30_8, x30_9, x30_10, x30_11, x30_14, x30_17, x30_18, x30_19, x30_20, x30_21, Option.toList_some, Option.toList_none, List.cons_append, List.nil_append, cat_i, cat_r, cat_n, cat_f, cs_n, cs_i, cs_r, cs_l, cs_f, Nat.reduceAdd, Nat.reduceLeDiff, Nat.zero_le, if_true, if_false, true_or, or_true, am_wr_at, Nat.reduceEqDiff, not_true_eq_false, not_false_eq_true, i_one, ite_not, bI_z, bI_nz, bI_t, bI_f, bI_or, Bool.false_eq_true, Bool.true_eq_false, reduceCtorEq, ha, ln9, ln10, w2, w3, c29, ← hP]
end I59e
