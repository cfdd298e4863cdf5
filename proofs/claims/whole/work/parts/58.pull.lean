/-! PULLS, the class's way -/
def adF (f : Nat → Int32) (p x : Int32) : Nat → Int32 := upd f p.toNatClampNeg (f p.toNatClampNeg + x)
def on1 (f : Nat → Int32) (i : Nat) : Nat → Int32 := fun j => if j < i then 1 else f j
def pu2 (f : Nat → Int32) (L lk : Int32) : Nat → Int32 := if L - 1 < 0 then f else adF f (L - 1) lk
def pu3 (f : Nat → Int32) (N nm kd : Int32) : Nat → Int32 := if N - 1 < 0 then f else if kd = 2 then f else adF f (N - 1) nm
def pu4 (f : Nat → Int32) (M : Int32) : Nat → Int32 := adF f (M / 10) (M - M / 10 * 10)
def pu5 (f : Nat → Int32) (L kd db : Int32) : Nat → Int32 := if kd = 1 then upd (upd f 0 (f 0 + (if L - 1 = 0 then 0 else db))) 1 (f 1 + (if L - 1 = 1 then 0 else db)) else f
def pu6 (f : Nat → Int32) (kd : Int32) : Nat → Int32 := if kd = 3 then upd (upd f 0 (f 1)) 1 (f 0) else f
def pu7 (f : Nat → Int32) (S le k : Int32) : Nat → Int32 := if S = 0 then f else adF f (S / 10) (le * (k - 1))
theorem on1_0 {f : Nat → Int32} : on1 f 0 = f := by
  funext j
  unfold on1
  rw [if_neg (by omega)]
theorem on1_s {f : Nat → Int32} {i : Nat} : upd (on1 f i) i 1 = on1 f (i + 1) := by
  funext j
  rw [upd_at]
  unfold on1
  by_cases q : j = i
  · rw [if_pos q, if_pos (by omega)]
  · rw [if_neg q]
    by_cases q2 : j < i
    · rw [if_pos q2, if_pos (by omega)]
    · rw [if_neg q2, if_neg (by omega)]
theorem z0c : (0 : Int32).toNatClampNeg = 0 := by decide
theorem z1c : (1 : Int32).toNatClampNeg = 1 := by decide
theorem z3c : (3 : Int32).toNatClampNeg = 3 := by decide
theorem z05 : am_in 0 5 = true := by decide
theorem z15 : am_in 1 5 = true := by decide
theorem z35 : am_in 3 5 = true := by decide
theorem z04 : am_in 0 4 = true := by decide
theorem z14 : am_in 1 4 = true := by decide
theorem n01 : (0 : Nat) = 1 ↔ False := by decide
section I58
variable {sv : am_V} {h : am_H} {σ : am_S} {Q : Option Value → am_H → Prop} {x y kd db k l z L : Int32} {a b : Nat} {f : Nat → Int32} {v5 v6 v7 v8 : Value}
theorem s29a (ha : am_St a) : AM sv 29 [.ref a, .int kd, .int db, .int (nI b), .int k] (am_toH σ) Q = AW sv 29 23 [.ref a, .int kd, .int db, .int (nI b), .int k, .int (nI 4), .null, .null, .null] [] (am_toH (am_wr σ (a + 20) (on1 (σ.1 (a + 20)) 4))) 0 0 Q := by
  have key := am_up (N := 4) (f := fun i => AW sv 29 3 [.ref a, .int kd, .int db, .int (nI b), .int k, .int (nI i), .null, .null, .null] [] (am_toH (am_wr σ (a + 20) (on1 (σ.1 (a + 20)) i))) 0 0 Q) (by
    intro i hi
    have e1 : ¬ 4 ≤ nI i := by
      show ¬ nI 4 ≤ nI i
      exact nI_ge (by omega) (by decide)
    have e2 : am_in (nI i) 4 = true := nI_in' (by omega) (by omega)
    have e3 : (nI i).toNatClampNeg = i := nI_clamp (by omega)
    rw [x29_3]
    simp only [x29_5, x29_6, x29_9, x29_10, x29_13, x29_15, x29_16, x29_17, x29_20, Option.toList_some, Option.toList_none, List.cons_append, List.nil_append, cat_i, cat_r, cat_n, cat_f, cs_n, cs_i, cs_r, cs_l, cs_f, Nat.reduceAdd, Nat.reduceLeDiff, Nat.zero_le, if_true, if_false, true_or, or_true, am_wr_at, Nat.reduceEqDiff, not_true_eq_false, not_false_eq_true, i_one, ite_not, bI_z, bI_nz, bI_t, bI_f, bI_or, Bool.false_eq_true, Bool.true_eq_false, reduceCtorEq, nep, nep', ha, ln20, e1, e2, e3, nI_1, am_wr_wr, on1_s]) 4 (Nat.le_refl _)
  simp only [on1_0, wr_id] at key
  have e0 : (4 : Int32) ≤ nI 4 := by decide
  rw [n29]
  simp only [x29_0, x29_1, Option.toList_some, Option.toList_none, List.cons_append, List.nil_append, cat_i, cat_r, cat_n, cat_f, cs_n, cs_i, cs_r, cs_l, cs_f, Nat.reduceAdd, Nat.reduceLeDiff, Nat.zero_le, if_true, if_false, true_or, or_true, am_wr_at, Nat.reduceEqDiff, not_true_eq_false, not_false_eq_true, i_one, ite_not, bI_z, bI_nz, bI_t, bI_f, bI_or, Bool.false_eq_true, Bool.true_eq_false, reduceCtorEq]
  refine Eq.trans key ?_
  generalize on1 (σ.1 (a + 20)) 4 = g
  rw [x29_3]
  simp only [x29_5, x29_6, Option.toList_some, Option.toList_none, List.cons_append, List.nil_append, cat_i, cat_r, cat_n, cat_f, cs_n, cs_i, cs_r, cs_l, cs_f, Nat.reduceAdd, Nat.reduceLeDiff, Nat.zero_le, if_true, if_false, true_or, or_true, am_wr_at, Nat.reduceEqDiff, not_true_eq_false, not_false_eq_true, i_one, ite_not, bI_z, bI_nz, bI_t, bI_f, bI_or, Bool.false_eq_true, Bool.true_eq_false, reduceCtorEq, e0]
theorem s29b (ha : am_St a) (hb : b < 16) (hL : L = σ.1 (a + 4) b) (hi : L - 1 < 0 ∨ am_in (L - 1) 4 = true) : AW sv 29 23 [.ref a, .int kd, .int db, .int (nI b), .int k, v5, v6, v7, v8] [] (am_toH (am_wr σ (a + 20) f)) 0 0 Q = AW sv 29 57 [.ref a, .int kd, .int db, .int (nI b), .int k, .int (L - 1), v6, v7, v8] [] (am_toH (am_wr σ (a + 20) (pu2 f L (σ.1 (a + 19) 0)))) 0 0 Q := by
  have b2 : am_in (nI b) 16 = true := nI_in' (by omega) (by omega)
  have b3 : (nI b).toNatClampNeg = b := nI_clamp (by omega)
  subst hL
  by_cases q : σ.1 (a + 4) b - 1 < 0
  · simp only [x29_23, x29_24, x29_27, x29_30, x29_31, x29_32, x29_33, x29_34, x29_36, x29_38, x29_41, x29_42, x29_45, x29_47, x29_48, x29_49, x29_50, x29_53, x29_54, x29_55, x29_56, Option.toList_some, Option.toList_none, List.cons_append, List.nil_append, cat_i, cat_r, cat_n, cat_f, cs_n, cs_i, cs_r, cs_l, cs_f, Nat.reduceAdd, Nat.reduceLeDiff, Nat.zero_le, if_true, if_false, true_or, or_true, am_wr_at, Nat.reduceEqDiff, not_true_eq_false, not_false_eq_true, i_one, ite_not, bI_z, bI_nz, bI_t, bI_f, bI_or, Bool.false_eq_true, Bool.true_eq_false, reduceCtorEq, nep, nep', ha, ln4, b2, b3, q, pu2]
  · have hi : am_in (σ.1 (a + 4) b - 1) 4 = true := by rcases hi with h | h <;> first | exact absurd h q | exact h
    simp only [x29_23, x29_24, x29_27, x29_30, x29_31, x29_32, x29_33, x29_34, x29_36, x29_38, x29_41, x29_42, x29_45, x29_47, x29_48, x29_49, x29_50, x29_53, x29_54, x29_55, x29_56, Option.toList_some, Option.toList_none, List.cons_append, List.nil_append, cat_i, cat_r, cat_n, cat_f, cs_n, cs_i, cs_r, cs_l, cs_f, Nat.reduceAdd, Nat.reduceLeDiff, Nat.zero_le, if_true, if_false, true_or, or_true, am_wr_at, Nat.reduceEqDiff, not_true_eq_false, not_false_eq_true, i_one, ite_not, bI_z, bI_nz, bI_t, bI_f, bI_or, Bool.false_eq_true, Bool.true_eq_false, reduceCtorEq, nep, nep', ha, ln4, ln19, ln20, b2, b3, q, hi, z05, z0c, am_wr_wr, pu2, adF]
theorem s29c (ha : am_St a) (hb : b < 16) (hL : L = σ.1 (a + 5) b) (hi : L - 1 < 0 ∨ am_in (L - 1) 4 = true) : AW sv 29 57 [.ref a, .int kd, .int db, .int (nI b), .int k, .int l, v6, v7, v8] [] (am_toH (am_wr σ (a + 20) f)) 0 0 Q = AW sv 29 96 [.ref a, .int kd, .int db, .int (nI b), .int k, .int l, .int (L - 1), v7, v8] [] (am_toH (am_wr σ (a + 20) (pu3 f L (σ.1 (a + 19) 1) kd))) 0 0 Q := by
  have b2 : am_in (nI b) 16 = true := nI_in' (by omega) (by omega)
  have b3 : (nI b).toNatClampNeg = b := nI_clamp (by omega)
  subst hL
  by_cases q : σ.1 (a + 5) b - 1 < 0
  · simp only [x29_57, x29_58, x29_61, x29_64, x29_65, x29_66, x29_67, x29_68, x29_70, x29_72, x29_75, x29_76, x29_77, x29_80, x29_81, x29_84, x29_86, x29_87, x29_88, x29_89, x29_92, x29_93, x29_94, x29_95, Option.toList_some, Option.toList_none, List.cons_append, List.nil_append, cat_i, cat_r, cat_n, cat_f, cs_n, cs_i, cs_r, cs_l, cs_f, Nat.reduceAdd, Nat.reduceLeDiff, Nat.zero_le, if_true, if_false, true_or, or_true, am_wr_at, Nat.reduceEqDiff, not_true_eq_false, not_false_eq_true, i_one, ite_not, bI_z, bI_nz, bI_t, bI_f, bI_or, Bool.false_eq_true, Bool.true_eq_false, reduceCtorEq, nep, nep', ha, ln5, b2, b3, q, pu3]
  · have hi : am_in (σ.1 (a + 5) b - 1) 4 = true := by rcases hi with h | h <;> first | exact absurd h q | exact h
    by_cases q2 : kd = 2
    · simp only [x29_57, x29_58, x29_61, x29_64, x29_65, x29_66, x29_67, x29_68, x29_70, x29_72, x29_75, x29_76, x29_77, x29_80, x29_81, x29_84, x29_86, x29_87, x29_88, x29_89, x29_92, x29_93, x29_94, x29_95, Option.toList_some, Option.toList_none, List.cons_append, List.nil_append, cat_i, cat_r, cat_n, cat_f, cs_n, cs_i, cs_r, cs_l, cs_f, Nat.reduceAdd, Nat.reduceLeDiff, Nat.zero_le, if_true, if_false, true_or, or_true, am_wr_at, Nat.reduceEqDiff, not_true_eq_false, not_false_eq_true, i_one, ite_not, bI_z, bI_nz, bI_t, bI_f, bI_or, Bool.false_eq_true, Bool.true_eq_false, reduceCtorEq, nep, nep', ha, ln5, ln19, ln20, b2, b3, q, q2, hi, z15, z1c, am_wr_wr, pu3, adF]
    · simp only [x29_57, x29_58, x29_61, x29_64, x29_65, x29_66, x29_67, x29_68, x29_70, x29_72, x29_75, x29_76, x29_77, x29_80, x29_81, x29_84, x29_86, x29_87, x29_88, x29_89, x29_92, x29_93, x29_94, x29_95, Option.toList_some, Option.toList_none, List.cons_append, List.nil_append, cat_i, cat_r, cat_n, cat_f, cs_n, cs_i, cs_r, cs_l, cs_f, Nat.reduceAdd, Nat.reduceLeDiff, Nat.zero_le, if_true, if_false, true_or, or_true, am_wr_at, Nat.reduceEqDiff, not_true_eq_false, not_false_eq_true, i_one, ite_not, bI_z, bI_nz, bI_t, bI_f, bI_or, Bool.false_eq_true, Bool.true_eq_false, reduceCtorEq, nep, nep', ha, ln5, ln19, ln20, b2, b3, q, q2, hi, z15, z1c, am_wr_wr, pu3, adF]
theorem s29d (ha : am_St a) (hb : b < 16) (hL : L = σ.1 (a + 2) b) (hi : am_in (L / 10) 4 = true) : AW sv 29 96 [.ref a, .int kd, .int db, .int (nI b), .int k, .int l, .int z, v7, v8] [] (am_toH (am_wr σ (a + 20) f)) 0 0 Q = AW sv 29 125 [.ref a, .int kd, .int db, .int (nI b), .int k, .int l, .int z, .int L, v8] [] (am_toH (am_wr σ (a + 20) (pu4 f L))) 0 0 Q := by
  have b2 : am_in (nI b) 16 = true := nI_in' (by omega) (by omega)
  have b3 : (nI b).toNatClampNeg = b := nI_clamp (by omega)
  subst hL
  simp only [x29_96, x29_97, x29_100, x29_103, x29_104, x29_105, x29_107, x29_108, x29_111, x29_113, x29_115, x29_116, x29_117, x29_118, x29_120, x29_122, x29_123, x29_124, Option.toList_some, Option.toList_none, List.cons_append, List.nil_append, cat_i, cat_r, cat_n, cat_f, cs_n, cs_i, cs_r, cs_l, cs_f, Nat.reduceAdd, Nat.reduceLeDiff, Nat.zero_le, if_true, if_false, true_or, or_true, am_wr_at, Nat.reduceEqDiff, not_true_eq_false, not_false_eq_true, i_one, ite_not, bI_z, bI_nz, bI_t, bI_f, bI_or, Bool.false_eq_true, Bool.true_eq_false, reduceCtorEq, nep, nep', ha, ln2, ln20, b2, b3, hi, ten_ne0, am_wr_wr, pu4, adF]
theorem s29e {N : Int32} (ha : am_St a) : AW sv 29 125 [.ref a, .int kd, .int db, .int (nI b), .int k, .int (N - 1), .int z, .int x, v8] [] (am_toH (am_wr σ (a + 20) f)) 0 0 Q = AW sv 29 169 [.ref a, .int kd, .int db, .int (nI b), .int k, .int (N - 1), .int z, .int x, v8] [] (am_toH (am_wr σ (a + 20) (pu5 f N kd db))) 0 0 Q := by
  by_cases q : kd = 1
  · by_cases q0 : N - 1 = 0
    · have q1 : ¬ (0 : Int32) = 1 := by decide
      simp only [x29_125, x29_126, x29_127, x29_130, x29_131, x29_134, x29_135, x29_136, x29_137, x29_139, x29_142, x29_143, x29_146, x29_147, x29_148, x29_149, x29_150, x29_153, x29_154, x29_155, x29_156, x29_158, x29_159, x29_162, x29_163, x29_166, x29_167, x29_168, Option.toList_some, Option.toList_none, List.cons_append, List.nil_append, cat_i, cat_r, cat_n, cat_f, cs_n, cs_i, cs_r, cs_l, cs_f, Nat.reduceAdd, Nat.reduceLeDiff, Nat.zero_le, if_true, if_false, true_or, or_true, am_wr_at, Nat.reduceEqDiff, not_true_eq_false, not_false_eq_true, i_one, ite_not, bI_z, bI_nz, bI_t, bI_f, bI_or, Bool.false_eq_true, Bool.true_eq_false, reduceCtorEq, nep, nep', ha, ln20, q, q0, q1, z04, z14, z0c, z1c, am_wr_wr, pu5, upd_at]
    · by_cases q1 : N - 1 = 1
      · have q0' : ¬ (1 : Int32) = 0 := by decide
        simp only [x29_125, x29_126, x29_127, x29_130, x29_131, x29_134, x29_135, x29_136, x29_137, x29_139, x29_142, x29_143, x29_146, x29_147, x29_148, x29_149, x29_150, x29_153, x29_154, x29_155, x29_156, x29_158, x29_159, x29_162, x29_163, x29_166, x29_167, x29_168, Option.toList_some, Option.toList_none, List.cons_append, List.nil_append, cat_i, cat_r, cat_n, cat_f, cs_n, cs_i, cs_r, cs_l, cs_f, Nat.reduceAdd, Nat.reduceLeDiff, Nat.zero_le, if_true, if_false, true_or, or_true, am_wr_at, Nat.reduceEqDiff, not_true_eq_false, not_false_eq_true, i_one, ite_not, bI_z, bI_nz, bI_t, bI_f, bI_or, Bool.false_eq_true, Bool.true_eq_false, reduceCtorEq, nep, nep', ha, ln20, q, q1, q0', z04, z14, z0c, z1c, am_wr_wr, pu5, upd_at]
      · simp only [x29_125, x29_126, x29_127, x29_130, x29_131, x29_134, x29_135, x29_136, x29_137, x29_139, x29_142, x29_143, x29_146, x29_147, x29_148, x29_149, x29_150, x29_153, x29_154, x29_155, x29_156, x29_158, x29_159, x29_162, x29_163, x29_166, x29_167, x29_168, Option.toList_some, Option.toList_none, List.cons_append, List.nil_append, cat_i, cat_r, cat_n, cat_f, cs_n, cs_i, cs_r, cs_l, cs_f, Nat.reduceAdd, Nat.reduceLeDiff, Nat.zero_le, if_true, if_false, true_or, or_true, am_wr_at, Nat.reduceEqDiff, not_true_eq_false, not_false_eq_true, i_one, ite_not, bI_z, bI_nz, bI_t, bI_f, bI_or, Bool.false_eq_true, Bool.true_eq_false, reduceCtorEq, nep, nep', ha, ln20, q, q0, q1, z04, z14, z0c, z1c, am_wr_wr, pu5, upd_at]
  · simp only [x29_125, x29_126, x29_127, x29_130, x29_131, x29_134, x29_135, x29_136, x29_137, x29_139, x29_142, x29_143, x29_146, x29_147, x29_148, x29_149, x29_150, x29_153, x29_154, x29_155, x29_156, x29_158, x29_159, x29_162, x29_163, x29_166, x29_167, x29_168, Option.toList_some, Option.toList_none, List.cons_append, List.nil_append, cat_i, cat_r, cat_n, cat_f, cs_n, cs_i, cs_r, cs_l, cs_f, Nat.reduceAdd, Nat.reduceLeDiff, Nat.zero_le, if_true, if_false, true_or, or_true, am_wr_at, Nat.reduceEqDiff, not_true_eq_false, not_false_eq_true, i_one, ite_not, bI_z, bI_nz, bI_t, bI_f, bI_or, Bool.false_eq_true, Bool.true_eq_false, reduceCtorEq, q, pu5]
theorem s29f (ha : am_St a) : ∃ w8 : Value, AW sv 29 169 [.ref a, .int kd, .int db, .int (nI b), .int k, .int l, .int z, .int x, .null] [] (am_toH (am_wr σ (a + 20) f)) 0 0 Q = AW sv 29 202 [.ref a, .int kd, .int db, .int (nI b), .int k, .int l, .int z, .int x, w8] [] (am_toH (am_wr σ (a + 20) (pu6 f kd))) 0 0 Q := by
  by_cases q : kd = 3
  · refine ⟨.int (f 0), ?_⟩
    simp only [x29_169, x29_170, x29_171, x29_174, x29_175, x29_178, x29_179, x29_180, x29_182, x29_183, x29_186, x29_187, x29_188, x29_191, x29_192, x29_193, x29_194, x29_195, x29_198, x29_199, x29_201, Option.toList_some, Option.toList_none, List.cons_append, List.nil_append, cat_i, cat_r, cat_n, cat_f, cs_n, cs_i, cs_r, cs_l, cs_f, Nat.reduceAdd, Nat.reduceLeDiff, Nat.zero_le, if_true, if_false, true_or, or_true, am_wr_at, Nat.reduceEqDiff, not_true_eq_false, not_false_eq_true, i_one, ite_not, bI_z, bI_nz, bI_t, bI_f, bI_or, Bool.false_eq_true, Bool.true_eq_false, reduceCtorEq, nep, nep', ha, ln20, q, z04, z14, z0c, z1c, am_wr_wr, pu6, upd_at]
  · refine ⟨.null, ?_⟩
    simp only [x29_169, x29_170, x29_171, x29_174, x29_175, x29_178, x29_179, x29_180, x29_182, x29_183, x29_186, x29_187, x29_188, x29_191, x29_192, x29_193, x29_194, x29_195, x29_198, x29_199, x29_201, Option.toList_some, Option.toList_none, List.cons_append, List.nil_append, cat_i, cat_r, cat_n, cat_f, cs_n, cs_i, cs_r, cs_l, cs_f, Nat.reduceAdd, Nat.reduceLeDiff, Nat.zero_le, if_true, if_false, true_or, or_true, am_wr_at, Nat.reduceEqDiff, not_true_eq_false, not_false_eq_true, i_one, ite_not, bI_z, bI_nz, bI_t, bI_f, bI_or, Bool.false_eq_true, Bool.true_eq_false, reduceCtorEq, q, pu6]
theorem s29g (ha : am_St a) (hb : b < 16) (hL : L = σ.1 (a + 3) b) (hi : L = 0 ∨ am_in (L / 10) 4 = true) : AW sv 29 202 [.ref a, .int kd, .int db, .int (nI b), .int k, .int l, .int z, .int x, v8] [] (am_toH (am_wr σ (a + 20) f)) 0 0 Q = Q none (am_toH (am_wr σ (a + 20) (pu7 f L (σ.1 (a + 19) 3) k))) := by
  have b2 : am_in (nI b) 16 = true := nI_in' (by omega) (by omega)
  have b3 : (nI b).toNatClampNeg = b := nI_clamp (by omega)
  subst hL
  by_cases q : σ.1 (a + 3) b = 0
  · simp only [x29_202, x29_203, x29_206, x29_209, x29_210, x29_211, x29_213, x29_215, x29_218, x29_219, x29_222, x29_224, x29_226, x29_227, x29_228, x29_229, x29_230, x29_233, x29_234, x29_235, x29_237, x29_238, x29_239, x29_240, x29_241, x29_242, Option.toList_some, Option.toList_none, List.cons_append, List.nil_append, cat_i, cat_r, cat_n, cat_f, cs_n, cs_i, cs_r, cs_l, cs_f, Nat.reduceAdd, Nat.reduceLeDiff, Nat.zero_le, if_true, if_false, true_or, or_true, am_wr_at, Nat.reduceEqDiff, not_true_eq_false, not_false_eq_true, i_one, ite_not, bI_z, bI_nz, bI_t, bI_f, bI_or, Bool.false_eq_true, Bool.true_eq_false, reduceCtorEq, nep, nep', ha, ln3, b2, b3, q, pu7]
  · have hi : am_in (σ.1 (a + 3) b / 10) 4 = true := by rcases hi with h | h <;> first | exact absurd h q | exact h
    simp only [x29_202, x29_203, x29_206, x29_209, x29_210, x29_211, x29_213, x29_215, x29_218, x29_219, x29_222, x29_224, x29_226, x29_227, x29_228, x29_229, x29_230, x29_233, x29_234, x29_235, x29_237, x29_238, x29_239, x29_240, x29_241, x29_242, Option.toList_some, Option.toList_none, List.cons_append, List.nil_append, cat_i, cat_r, cat_n, cat_f, cs_n, cs_i, cs_r, cs_l, cs_f, Nat.reduceAdd, Nat.reduceLeDiff, Nat.zero_le, if_true, if_false, true_or, or_true, am_wr_at, Nat.reduceEqDiff, not_true_eq_false, not_false_eq_true, i_one, ite_not, bI_z, bI_nz, bI_t, bI_f, bI_or, Bool.false_eq_true, Bool.true_eq_false, reduceCtorEq, nep, nep', ha, ln3, ln19, ln20, b2, b3, q, hi, ten_ne0, z35, z3c, am_wr_wr, pu7, adF]
end I58
