/-! SIMULATIONS: count -/
def cntF (f : Nat → Int32) : Nat → Int32
  | 0 => 0
  | b + 1 => if f b = 0 then cntF f b else cntF f b + 1
def cntM (s m j : Nat → Int32) (x : Int32) : Nat → Int32
  | 0 => 0
  | b + 1 => cntM s m j x b + (if (x = 1 ∧ 0 < s b) ∨ (x = 2 ∧ 0 < m b) ∨ (x = 3 ∧ 0 < j b) then 1 else 0)
theorem deed_pos {x : Int32} (h : deed x) : (0 < x) = (¬ x = 0) := by
  apply propext
  rcases h with rfl | ⟨p, s, h1, h2, h3, rfl⟩
  · exact ⟨fun q => absurd q (by decide), fun q => absurd rfl q⟩
  · exact ⟨fun _ => nI_ne0 (by omega) (by omega), fun _ => nI_lt (a := 0) (by omega) (by omega)⟩
theorem rg1_pos {x : Int32} (h : rg x 0 1) : (0 < x) = (¬ x = 0) := by
  obtain ⟨k, h1, rfl⟩ := rg_nI (n := 1) (by decide) h
  rcases (show k = 0 ∨ k = 1 by omega) with rfl | rfl <;> decide
theorem cnt_eq {f s m j : Nat → Int32} {x : Int32} : ∀ N, (∀ b, b < N → ((x = 1 ∧ 0 < s b) ∨ (x = 2 ∧ 0 < m b) ∨ (x = 3 ∧ 0 < j b) ↔ ¬ f b = 0)) → cntM s m j x N = cntF f N := by
  intro N
  induction N with
  | zero => intro _; rfl
  | succ N ih =>
    intro h
    have h1 := ih (fun b hb => h b (by omega))
    have h2 := h N (by omega)
    simp only [cntM, cntF, h1]
    by_cases q : f N = 0
    · rw [if_neg (fun z => (h2.mp z) q), if_pos q]
      exact Int32.add_zero _
    · rw [if_pos (h2.mpr q), if_neg q]
section I53
variable {sv : am_V} {h : am_H} {σ : am_S} {Q : Option Value → am_H → Prop} {x y : Int32} {v0 v1 : Value} {r : List Value}
theorem x72_1_0 (hx : x.toInt = 0) : AW sv 72 1 [v0, v1] (.int x :: r) h 0 0 Q = AW sv 72 40 [v0, v1] r h 0 0 Q := e_tin (j := 0) am_h72 dX8_count_1 (by rw [hx]; rfl) (by decide) rfl rfl
theorem x72_1_1 (hx : x.toInt = 1) : AW sv 72 1 [v0, v1] (.int x :: r) h 0 0 Q = AW sv 72 51 [v0, v1] r h 0 0 Q := e_tin (j := 1) am_h72 dX8_count_1 (by rw [hx]; rfl) (by decide) rfl rfl
theorem x72_1_2 (hx : x.toInt = 2) : AW sv 72 1 [v0, v1] (.int x :: r) h 0 0 Q = AW sv 72 65 [v0, v1] r h 0 0 Q := e_tin (j := 2) am_h72 dX8_count_1 (by rw [hx]; rfl) (by decide) rfl rfl
theorem x72_1_3 (hx : x.toInt = 3) : AW sv 72 1 [v0, v1] (.int x :: r) h 0 0 Q = AW sv 72 79 [v0, v1] r h 0 0 Q := e_tin (j := 3) am_h72 dX8_count_1 (by rw [hx]; rfl) (by decide) rfl rfl
theorem x72_1_4 (hx : x.toInt = 4) : AW sv 72 1 [v0, v1] (.int x :: r) h 0 0 Q = AW sv 72 93 [v0, v1] r h 0 0 Q := e_tin (j := 4) am_h72 dX8_count_1 (by rw [hx]; rfl) (by decide) rfl rfl
theorem x72_1_5 (hx : x.toInt = 5) : AW sv 72 1 [v0, v1] (.int x :: r) h 0 0 Q = AW sv 72 104 [v0, v1] r h 0 0 Q := e_tin (j := 5) am_h72 dX8_count_1 (by rw [hx]; rfl) (by decide) rfl rfl
theorem x72_1_d (hx : x.toInt < 0 ∨ 5 < x.toInt) : AW sv 72 1 [v0, v1] (.int x :: r) h 0 0 Q = AW sv 72 115 [v0, v1] r h 0 0 Q := e_tout am_h72 dX8_count_1 hx rfl
theorem s100 {a : Nat} (ha : am_ln a = 16) : AM sv 100 [.ref a] (am_toH σ) Q = Q (some (.int (cntF (σ.1 a) 16))) (am_toH σ) := by
  have hp : 0 < am_ln a := by omega
  have o16 : Int32.ofNat 16 = 16 := rfl
  have key := am_up (N := 16) (f := fun i => AW sv 100 4 [.ref a, .int (cntF (σ.1 a) i), .int (nI i)] [] (am_toH σ) 0 0 Q) (by
    intro i hi
    have e1 : ¬ 16 ≤ nI i := nI_ge (b := 16) hi (by decide)
    have e2 : am_in (nI i) 16 = true := nI_in' hi (by omega)
    have e3 : (nI i).toNatClampNeg = i := nI_clamp (by omega)
    have z : (0 : Nat) < 16 := by decide
    rw [x100_4]
    by_cases q : σ.1 a i = 0
    · simp only [x100_5, x100_6, x100_7, x100_10, x100_11, x100_12, x100_13, x100_16, x100_19, x100_22, x100_25, x100_26, Option.toList_some, Option.toList_none, List.cons_append, List.nil_append, cat_i, cat_r, cat_n, cat_f, cs_n, cs_i, cs_r, cs_l, cs_f, Nat.reduceAdd, Nat.reduceLeDiff, Nat.zero_le, if_true, if_false, true_or, or_true, am_wr_at, Nat.reduceEqDiff, not_true_eq_false, not_false_eq_true, i_one, ite_not, bI_z, bI_nz, bI_t, bI_f, bI_or, Bool.false_eq_true, Bool.true_eq_false, reduceCtorEq, ha, z, o16, e1, e2, e3, nI_1, q, cntF]
    · simp only [x100_5, x100_6, x100_7, x100_10, x100_11, x100_12, x100_13, x100_16, x100_19, x100_22, x100_25, x100_26, Option.toList_some, Option.toList_none, List.cons_append, List.nil_append, cat_i, cat_r, cat_n, cat_f, cs_n, cs_i, cs_r, cs_l, cs_f, Nat.reduceAdd, Nat.reduceLeDiff, Nat.zero_le, if_true, if_false, true_or, or_true, am_wr_at, Nat.reduceEqDiff, not_true_eq_false, not_false_eq_true, i_one, ite_not, bI_z, bI_nz, bI_t, bI_f, bI_or, Bool.false_eq_true, Bool.true_eq_false, reduceCtorEq, ha, z, o16, e1, e2, e3, nI_1, q, cntF]) 16 (Nat.le_refl _)
  rw [n100]
  simp only [x100_0, x100_1, x100_2, x100_3, Option.toList_some, Option.toList_none, List.cons_append, List.nil_append, cat_i, cat_r, cat_n, cat_f, cs_n, cs_i, cs_r, cs_l, cs_f, Nat.reduceAdd, Nat.reduceLeDiff, Nat.zero_le, if_true, if_false, true_or, or_true, am_wr_at, Nat.reduceEqDiff, not_true_eq_false, not_false_eq_true, i_one, ite_not, bI_z, bI_nz, bI_t, bI_f, bI_or, Bool.false_eq_true, Bool.true_eq_false, reduceCtorEq]
  refine Eq.trans key ?_
  have e1 : (16 : Int32) ≤ nI 16 := by decide
  have z : (0 : Nat) < 16 := by decide
  rw [x100_4]
  simp only [x100_5, x100_6, x100_7, x100_10, x100_11, x100_12, x100_13, x100_16, x100_19, x100_22, x100_25, x100_26, Option.toList_some, Option.toList_none, List.cons_append, List.nil_append, cat_i, cat_r, cat_n, cat_f, cs_n, cs_i, cs_r, cs_l, cs_f, Nat.reduceAdd, Nat.reduceLeDiff, Nat.zero_le, if_true, if_false, true_or, or_true, am_wr_at, Nat.reduceEqDiff, not_true_eq_false, not_false_eq_true, i_one, ite_not, bI_z, bI_nz, bI_t, bI_f, bI_or, Bool.false_eq_true, Bool.true_eq_false, reduceCtorEq, ha, z, o16, e1]
theorem s130l (a0 : Value) : AW sv 130 4 [.ref 71, .int x, .int 0, .int 0] [] (am_toH σ) 0 0 Q = AW sv 130 66 [.ref 71, .int x, .int (cntM (σ.1 73) (σ.1 72) (σ.1 76) x 16), .int 16] [] (am_toH σ) 0 0 Q := by
  have key := am_up (N := 16) (f := fun i => AW sv 130 4 [.ref 71, .int x, .int (cntM (σ.1 73) (σ.1 72) (σ.1 76) x i), .int (nI i)] [] (am_toH σ) 0 0 Q) (by
    intro i hi
    have e1 : ¬ 16 ≤ nI i := nI_ge (b := 16) hi (by decide)
    have e2 : am_in (nI i) 16 = true := nI_in' hi (by omega)
    have e3 : (nI i).toNatClampNeg = i := nI_clamp (by omega)
    have mg : ∀ (c : Prop) [Decidable c] (x1 y1 : Int32), (if c then AW sv 130 4 [.ref 71, .int x, .int x1, .int (nI (i + 1))] [] (am_toH σ) 0 0 Q else AW sv 130 4 [.ref 71, .int x, .int y1, .int (nI (i + 1))] [] (am_toH σ) 0 0 Q) = AW sv 130 4 [.ref 71, .int x, .int (if c then x1 else y1), .int (nI (i + 1))] [] (am_toH σ) 0 0 Q := by
      intro c _ x1 y1
      split <;> rfl
    rw [x130_4]
    simp only [x130_5, x130_7, x130_10, x130_11, x130_12, x130_13, x130_16, x130_17, x130_20, x130_21, x130_22, x130_25, x130_26, x130_27, x130_30, x130_31, x130_34, x130_35, x130_36, x130_39, x130_40, x130_41, x130_44, x130_45, x130_48, x130_49, x130_50, x130_53, x130_54, x130_57, x130_58, x130_59, x130_60, x130_63, Option.toList_some, Option.toList_none, List.cons_append, List.nil_append, cat_i, cat_r, cat_n, cat_f, cs_n, cs_i, cs_r, cs_l, cs_f, Nat.reduceAdd, Nat.reduceLeDiff, Nat.zero_le, if_true, if_false, true_or, or_true, am_wr_at, Nat.reduceEqDiff, not_true_eq_false, not_false_eq_true, i_one, ite_not, bI_z, bI_nz, bI_t, bI_f, bI_or, Bool.false_eq_true, Bool.true_eq_false, reduceCtorEq, lc72, lc73, lc76, e1, e2, e3, nI_1, mg]
    refine congrArg (fun z => AW sv 130 4 [.ref 71, .int x, .int z, .int (nI (i + 1))] [] (am_toH σ) 0 0 Q) ?_
    simp only [cntM]
    by_cases q1 : x = 1
    · subst q1
      by_cases p1 : 0 < σ.1 73 i
      · simp [p1]
      · simp [p1]
    · by_cases q2 : x = 2
      · subst q2
        by_cases p1 : 0 < σ.1 72 i
        · simp [p1]
        · simp [p1]
      · by_cases q3 : x = 3
        · subst q3
          by_cases p1 : 0 < σ.1 76 i
          · simp [p1, Int32.not_le.mpr p1]
          · simp [p1, Int32.not_lt.mp p1]
        · simp [q1, q2, q3]) 16 (Nat.le_refl _)
  refine Eq.trans key ?_
  have e1 : (16 : Int32) ≤ nI 16 := by decide
  have e2 : nI 16 = 16 := rfl
  have e3 : (16 : Int32) ≤ 16 := by decide
  rw [x130_4]
  simp only [x130_5, x130_7, x130_10, x130_11, x130_12, x130_13, x130_16, x130_17, x130_20, x130_21, x130_22, x130_25, x130_26, x130_27, x130_30, x130_31, x130_34, x130_35, x130_36, x130_39, x130_40, x130_41, x130_44, x130_45, x130_48, x130_49, x130_50, x130_53, x130_54, x130_57, x130_58, x130_59, x130_60, x130_63, Option.toList_some, Option.toList_none, List.cons_append, List.nil_append, cat_i, cat_r, cat_n, cat_f, cs_n, cs_i, cs_r, cs_l, cs_f, Nat.reduceAdd, Nat.reduceLeDiff, Nat.zero_le, if_true, if_false, true_or, or_true, am_wr_at, Nat.reduceEqDiff, not_true_eq_false, not_false_eq_true, i_one, ite_not, bI_z, bI_nz, bI_t, bI_f, bI_or, Bool.false_eq_true, Bool.true_eq_false, reduceCtorEq, e1, e2, e3]
/-- count -/
theorem sim11 : ∀ x0 : Int32, SimOK sv Inv 72 130 [.int x0] := by
  intro x σ hI
  have w0 : σ.1 8 3 = σ.1 71 7 := congrFun (congrFun hI.1 9) 0
  have w2 : σ.1 12 4 = σ.1 71 16 := congrFun (congrFun hI.1 9) 2
  have w3 : σ.1 17 2 = σ.1 71 19 := congrFun (congrFun hI.1 9) 3
  have rd : ∀ b, b < 16 → σ.1 4 b = σ.1 73 b ∧ σ.1 3 b = σ.1 72 b ∧ σ.1 7 b = σ.1 76 b ∧ deed (σ.1 73 b) ∧ deed (σ.1 72 b) ∧ rg (σ.1 76 b) 0 1 := by
    intro b hb
    obtain ⟨r0, r1, r2, r3, r4⟩ := rd_row hI.1 hb
    obtain ⟨o1, o2, o3, o4, o5⟩ := hI.2.1.1 b hb
    simp only [mV, hb, if_true] at o1 o2 o5
    exact ⟨r1, r0, r4, o2, o1, o5⟩
  by_cases h : am_in x 6 = true
  · obtain ⟨k, hk, rfl⟩ := in_nI h (by decide)
    have mdl : ∀ v, (∀ Q, AW sv 130 66 [.ref 71, .int (nI k), .int (cntM (σ.1 73) (σ.1 72) (σ.1 76) (nI k) 16), .int 16] [] (am_toH σ) 0 0 Q = Q (some (.int v)) (am_toH σ)) → ∀ Q, AM sv 130 [.ref 71, .int (nI k)] (am_toH σ) Q = Q (some (.int v)) (am_toH σ) := by
      intro v hv Q
      rw [n130]
      simp only [x130_0, x130_1, x130_2, x130_3, Option.toList_some, Option.toList_none, List.cons_append, List.nil_append, cat_i, cat_r, cat_n, cat_f, cs_n, cs_i, cs_r, cs_l, cs_f, Nat.reduceAdd, Nat.reduceLeDiff, Nat.zero_le, if_true, if_false, true_or, or_true, am_wr_at, Nat.reduceEqDiff, not_true_eq_false, not_false_eq_true, i_one, ite_not, bI_z, bI_nz, bI_t, bI_f, bI_or, Bool.false_eq_true, Bool.true_eq_false, reduceCtorEq]
      rw [s130l .null, hv]
    rcases (show k = 0 ∨ k = 1 ∨ k = 2 ∨ k = 3 ∨ k = 4 ∨ k = 5 by omega) with rfl | rfl | rfl | rfl | rfl | rfl
    · have z : nI 0 = 0 := rfl
      refine ⟨σ.1 71 7, σ, σ, fun Q => ?_, mdl _ (fun Q => ?_), hI⟩
      · rw [n72, x72_0, x72_1_0 (by decide)]
        simp only [x72_40, x72_41, x72_44, x72_47, x72_50, x72_51, x72_52, x72_55, x72_58, x72_61, x72_64, x72_65, x72_66, x72_69, x72_72, x72_75, x72_78, x72_79, x72_80, x72_83, x72_86, x72_89, x72_92, x72_93, x72_94, x72_97, x72_100, x72_103, x72_104, x72_105, x72_108, x72_111, x72_114, x72_115, x72_116, Option.toList_some, Option.toList_none, List.cons_append, List.nil_append, cat_i, cat_r, cat_n, cat_f, cs_n, cs_i, cs_r, cs_l, cs_f, Nat.reduceAdd, Nat.reduceLeDiff, Nat.zero_le, if_true, if_false, true_or, or_true, am_wr_at, Nat.reduceEqDiff, not_true_eq_false, not_false_eq_true, i_one, ite_not, bI_z, bI_nz, bI_t, bI_f, bI_or, Bool.false_eq_true, Bool.true_eq_false, reduceCtorEq, st1, w0]
      · simp only [x130_66, x130_67, x130_68, x130_69, x130_72, x130_75, x130_78, x130_79, x130_82, x130_83, x130_86, x130_87, x130_90, x130_93, x130_94, x130_95, x130_98, x130_99, x130_102, x130_105, x130_106, x130_107, x130_110, x130_111, x130_114, x130_117, x130_118, Option.toList_some, Option.toList_none, List.cons_append, List.nil_append, cat_i, cat_r, cat_n, cat_f, cs_n, cs_i, cs_r, cs_l, cs_f, Nat.reduceAdd, Nat.reduceLeDiff, Nat.zero_le, if_true, if_false, true_or, or_true, am_wr_at, Nat.reduceEqDiff, not_true_eq_false, not_false_eq_true, i_one, ite_not, bI_z, bI_nz, bI_t, bI_f, bI_or, Bool.false_eq_true, Bool.true_eq_false, reduceCtorEq, lt1, lt2, lt3, lt4, lt5, lt10, lt12, lt16, lt100, lt1000, bt1, bt2, bt3, bt4, bt5, bt10, bt12, bt16, bt100, bt1000, bt6, bt25, bt100000, s104, h, z]
        simp only [Option.toList_some, Option.toList_none, List.cons_append, List.nil_append, cat_i, cat_r, cat_n, cat_f, cs_n, cs_i, cs_r, cs_l, cs_f, Nat.reduceAdd, Nat.reduceLeDiff, Nat.zero_le, if_true, if_false, true_or, or_true, am_wr_at, Nat.reduceEqDiff, not_true_eq_false, not_false_eq_true, i_one, ite_not, bI_z, bI_nz, bI_t, bI_f, bI_or, Bool.false_eq_true, Bool.true_eq_false, reduceCtorEq, show am_in 0 6 = true by decide]
    · have z : nI 1 = 1 := rfl
      have e := cnt_eq (f := σ.1 4) (s := σ.1 73) (m := σ.1 72) (j := σ.1 76) (x := nI 1) 16 (fun b hb => by
        obtain ⟨r1, r2, r3, r4, r5, r6⟩ := rd b hb
        rw [r1, z, deed_pos r4]
        simp)
      refine ⟨cntF (σ.1 4) 16, σ, σ, fun Q => ?_, mdl _ (fun Q => ?_), hI⟩
      · rw [n72, x72_0, x72_1_1 (by decide)]
        simp only [x72_40, x72_41, x72_44, x72_47, x72_50, x72_51, x72_52, x72_55, x72_58, x72_61, x72_64, x72_65, x72_66, x72_69, x72_72, x72_75, x72_78, x72_79, x72_80, x72_83, x72_86, x72_89, x72_92, x72_93, x72_94, x72_97, x72_100, x72_103, x72_104, x72_105, x72_108, x72_111, x72_114, x72_115, x72_116, Option.toList_some, Option.toList_none, List.cons_append, List.nil_append, cat_i, cat_r, cat_n, cat_f, cs_n, cs_i, cs_r, cs_l, cs_f, Nat.reduceAdd, Nat.reduceLeDiff, Nat.zero_le, if_true, if_false, true_or, or_true, am_wr_at, Nat.reduceEqDiff, not_true_eq_false, not_false_eq_true, i_one, ite_not, bI_z, bI_nz, bI_t, bI_f, bI_or, Bool.false_eq_true, Bool.true_eq_false, reduceCtorEq, st1, s100 lc4]
      · rw [e]
        simp only [x130_66, x130_67, x130_68, x130_69, x130_72, x130_75, x130_78, x130_79, x130_82, x130_83, x130_86, x130_87, x130_90, x130_93, x130_94, x130_95, x130_98, x130_99, x130_102, x130_105, x130_106, x130_107, x130_110, x130_111, x130_114, x130_117, x130_118, Option.toList_some, Option.toList_none, List.cons_append, List.nil_append, cat_i, cat_r, cat_n, cat_f, cs_n, cs_i, cs_r, cs_l, cs_f, Nat.reduceAdd, Nat.reduceLeDiff, Nat.zero_le, if_true, if_false, true_or, or_true, am_wr_at, Nat.reduceEqDiff, not_true_eq_false, not_false_eq_true, i_one, ite_not, bI_z, bI_nz, bI_t, bI_f, bI_or, Bool.false_eq_true, Bool.true_eq_false, reduceCtorEq, lt1, lt2, lt3, lt4, lt5, lt10, lt12, lt16, lt100, lt1000, bt1, bt2, bt3, bt4, bt5, bt10, bt12, bt16, bt100, bt1000, bt6, bt25, bt100000, s104, z, show am_in 1 6 = true by decide, show ¬ (1 : Int32) = 4 by decide, show ¬ (1 : Int32) = 5 by decide]
    · have z : nI 2 = 2 := rfl
      have e := cnt_eq (f := σ.1 3) (s := σ.1 73) (m := σ.1 72) (j := σ.1 76) (x := nI 2) 16 (fun b hb => by
        obtain ⟨r1, r2, r3, r4, r5, r6⟩ := rd b hb
        rw [r2, z, deed_pos r5]
        simp)
      refine ⟨cntF (σ.1 3) 16, σ, σ, fun Q => ?_, mdl _ (fun Q => ?_), hI⟩
      · rw [n72, x72_0, x72_1_2 (by decide)]
        simp only [x72_40, x72_41, x72_44, x72_47, x72_50, x72_51, x72_52, x72_55, x72_58, x72_61, x72_64, x72_65, x72_66, x72_69, x72_72, x72_75, x72_78, x72_79, x72_80, x72_83, x72_86, x72_89, x72_92, x72_93, x72_94, x72_97, x72_100, x72_103, x72_104, x72_105, x72_108, x72_111, x72_114, x72_115, x72_116, Option.toList_some, Option.toList_none, List.cons_append, List.nil_append, cat_i, cat_r, cat_n, cat_f, cs_n, cs_i, cs_r, cs_l, cs_f, Nat.reduceAdd, Nat.reduceLeDiff, Nat.zero_le, if_true, if_false, true_or, or_true, am_wr_at, Nat.reduceEqDiff, not_true_eq_false, not_false_eq_true, i_one, ite_not, bI_z, bI_nz, bI_t, bI_f, bI_or, Bool.false_eq_true, Bool.true_eq_false, reduceCtorEq, st1, s100 lc3]
      · rw [e]
        simp only [x130_66, x130_67, x130_68, x130_69, x130_72, x130_75, x130_78, x130_79, x130_82, x130_83, x130_86, x130_87, x130_90, x130_93, x130_94, x130_95, x130_98, x130_99, x130_102, x130_105, x130_106, x130_107, x130_110, x130_111, x130_114, x130_117, x130_118, Option.toList_some, Option.toList_none, List.cons_append, List.nil_append, cat_i, cat_r, cat_n, cat_f, cs_n, cs_i, cs_r, cs_l, cs_f, Nat.reduceAdd, Nat.reduceLeDiff, Nat.zero_le, if_true, if_false, true_or, or_true, am_wr_at, Nat.reduceEqDiff, not_true_eq_false, not_false_eq_true, i_one, ite_not, bI_z, bI_nz, bI_t, bI_f, bI_or, Bool.false_eq_true, Bool.true_eq_false, reduceCtorEq, lt1, lt2, lt3, lt4, lt5, lt10, lt12, lt16, lt100, lt1000, bt1, bt2, bt3, bt4, bt5, bt10, bt12, bt16, bt100, bt1000, bt6, bt25, bt100000, s104, z, show am_in 2 6 = true by decide, show ¬ (2 : Int32) = 0 by decide, show ¬ (2 : Int32) = 4 by decide, show ¬ (2 : Int32) = 5 by decide]
    · have z : nI 3 = 3 := rfl
      have e := cnt_eq (f := σ.1 7) (s := σ.1 73) (m := σ.1 72) (j := σ.1 76) (x := nI 3) 16 (fun b hb => by
        obtain ⟨r1, r2, r3, r4, r5, r6⟩ := rd b hb
        rw [r3, z, rg1_pos r6]
        simp)
      refine ⟨cntF (σ.1 7) 16, σ, σ, fun Q => ?_, mdl _ (fun Q => ?_), hI⟩
      · rw [n72, x72_0, x72_1_3 (by decide)]
        simp only [x72_40, x72_41, x72_44, x72_47, x72_50, x72_51, x72_52, x72_55, x72_58, x72_61, x72_64, x72_65, x72_66, x72_69, x72_72, x72_75, x72_78, x72_79, x72_80, x72_83, x72_86, x72_89, x72_92, x72_93, x72_94, x72_97, x72_100, x72_103, x72_104, x72_105, x72_108, x72_111, x72_114, x72_115, x72_116, Option.toList_some, Option.toList_none, List.cons_append, List.nil_append, cat_i, cat_r, cat_n, cat_f, cs_n, cs_i, cs_r, cs_l, cs_f, Nat.reduceAdd, Nat.reduceLeDiff, Nat.zero_le, if_true, if_false, true_or, or_true, am_wr_at, Nat.reduceEqDiff, not_true_eq_false, not_false_eq_true, i_one, ite_not, bI_z, bI_nz, bI_t, bI_f, bI_or, Bool.false_eq_true, Bool.true_eq_false, reduceCtorEq, st1, s100 lc7]
      · rw [e]
        simp only [x130_66, x130_67, x130_68, x130_69, x130_72, x130_75, x130_78, x130_79, x130_82, x130_83, x130_86, x130_87, x130_90, x130_93, x130_94, x130_95, x130_98, x130_99, x130_102, x130_105, x130_106, x130_107, x130_110, x130_111, x130_114, x130_117, x130_118, Option.toList_some, Option.toList_none, List.cons_append, List.nil_append, cat_i, cat_r, cat_n, cat_f, cs_n, cs_i, cs_r, cs_l, cs_f, Nat.reduceAdd, Nat.reduceLeDiff, Nat.zero_le, if_true, if_false, true_or, or_true, am_wr_at, Nat.reduceEqDiff, not_true_eq_false, not_false_eq_true, i_one, ite_not, bI_z, bI_nz, bI_t, bI_f, bI_or, Bool.false_eq_true, Bool.true_eq_false, reduceCtorEq, lt1, lt2, lt3, lt4, lt5, lt10, lt12, lt16, lt100, lt1000, bt1, bt2, bt3, bt4, bt5, bt10, bt12, bt16, bt100, bt1000, bt6, bt25, bt100000, s104, z, show am_in 3 6 = true by decide, show ¬ (3 : Int32) = 0 by decide, show ¬ (3 : Int32) = 4 by decide, show ¬ (3 : Int32) = 5 by decide]
    · have z : nI 4 = 4 := rfl
      refine ⟨σ.1 71 16, σ, σ, fun Q => ?_, mdl _ (fun Q => ?_), hI⟩
      · rw [n72, x72_0, x72_1_4 (by decide)]
        simp only [x72_40, x72_41, x72_44, x72_47, x72_50, x72_51, x72_52, x72_55, x72_58, x72_61, x72_64, x72_65, x72_66, x72_69, x72_72, x72_75, x72_78, x72_79, x72_80, x72_83, x72_86, x72_89, x72_92, x72_93, x72_94, x72_97, x72_100, x72_103, x72_104, x72_105, x72_108, x72_111, x72_114, x72_115, x72_116, Option.toList_some, Option.toList_none, List.cons_append, List.nil_append, cat_i, cat_r, cat_n, cat_f, cs_n, cs_i, cs_r, cs_l, cs_f, Nat.reduceAdd, Nat.reduceLeDiff, Nat.zero_le, if_true, if_false, true_or, or_true, am_wr_at, Nat.reduceEqDiff, not_true_eq_false, not_false_eq_true, i_one, ite_not, bI_z, bI_nz, bI_t, bI_f, bI_or, Bool.false_eq_true, Bool.true_eq_false, reduceCtorEq, st1, w2]
      · simp only [x130_66, x130_67, x130_68, x130_69, x130_72, x130_75, x130_78, x130_79, x130_82, x130_83, x130_86, x130_87, x130_90, x130_93, x130_94, x130_95, x130_98, x130_99, x130_102, x130_105, x130_106, x130_107, x130_110, x130_111, x130_114, x130_117, x130_118, Option.toList_some, Option.toList_none, List.cons_append, List.nil_append, cat_i, cat_r, cat_n, cat_f, cs_n, cs_i, cs_r, cs_l, cs_f, Nat.reduceAdd, Nat.reduceLeDiff, Nat.zero_le, if_true, if_false, true_or, or_true, am_wr_at, Nat.reduceEqDiff, not_true_eq_false, not_false_eq_true, i_one, ite_not, bI_z, bI_nz, bI_t, bI_f, bI_or, Bool.false_eq_true, Bool.true_eq_false, reduceCtorEq, lt1, lt2, lt3, lt4, lt5, lt10, lt12, lt16, lt100, lt1000, bt1, bt2, bt3, bt4, bt5, bt10, bt12, bt16, bt100, bt1000, bt6, bt25, bt100000, s104, z, show am_in 4 6 = true by decide, show ¬ (4 : Int32) = 0 by decide]
    · have z : nI 5 = 5 := rfl
      refine ⟨σ.1 71 19, σ, σ, fun Q => ?_, mdl _ (fun Q => ?_), hI⟩
      · rw [n72, x72_0, x72_1_5 (by decide)]
        simp only [x72_40, x72_41, x72_44, x72_47, x72_50, x72_51, x72_52, x72_55, x72_58, x72_61, x72_64, x72_65, x72_66, x72_69, x72_72, x72_75, x72_78, x72_79, x72_80, x72_83, x72_86, x72_89, x72_92, x72_93, x72_94, x72_97, x72_100, x72_103, x72_104, x72_105, x72_108, x72_111, x72_114, x72_115, x72_116, Option.toList_some, Option.toList_none, List.cons_append, List.nil_append, cat_i, cat_r, cat_n, cat_f, cs_n, cs_i, cs_r, cs_l, cs_f, Nat.reduceAdd, Nat.reduceLeDiff, Nat.zero_le, if_true, if_false, true_or, or_true, am_wr_at, Nat.reduceEqDiff, not_true_eq_false, not_false_eq_true, i_one, ite_not, bI_z, bI_nz, bI_t, bI_f, bI_or, Bool.false_eq_true, Bool.true_eq_false, reduceCtorEq, st1, w3]
      · simp only [x130_66, x130_67, x130_68, x130_69, x130_72, x130_75, x130_78, x130_79, x130_82, x130_83, x130_86, x130_87, x130_90, x130_93, x130_94, x130_95, x130_98, x130_99, x130_102, x130_105, x130_106, x130_107, x130_110, x130_111, x130_114, x130_117, x130_118, Option.toList_some, Option.toList_none, List.cons_append, List.nil_append, cat_i, cat_r, cat_n, cat_f, cs_n, cs_i, cs_r, cs_l, cs_f, Nat.reduceAdd, Nat.reduceLeDiff, Nat.zero_le, if_true, if_false, true_or, or_true, am_wr_at, Nat.reduceEqDiff, not_true_eq_false, not_false_eq_true, i_one, ite_not, bI_z, bI_nz, bI_t, bI_f, bI_or, Bool.false_eq_true, Bool.true_eq_false, reduceCtorEq, lt1, lt2, lt3, lt4, lt5, lt10, lt12, lt16, lt100, lt1000, bt1, bt2, bt3, bt4, bt5, bt10, bt12, bt16, bt100, bt1000, bt6, bt25, bt100000, s104, z, show am_in 5 6 = true by decide, show ¬ (5 : Int32) = 0 by decide, show ¬ (5 : Int32) = 4 by decide]
  · have h : am_in x 6 = false := by simpa using h
    refine ⟨-1, σ, σ, fun Q => ?_, fun Q => ?_, hI⟩
    · have h2 := of_decide_eq_false h
      rw [n72, x72_0, x72_1_d (by omega)]
      simp only [x72_40, x72_41, x72_44, x72_47, x72_50, x72_51, x72_52, x72_55, x72_58, x72_61, x72_64, x72_65, x72_66, x72_69, x72_72, x72_75, x72_78, x72_79, x72_80, x72_83, x72_86, x72_89, x72_92, x72_93, x72_94, x72_97, x72_100, x72_103, x72_104, x72_105, x72_108, x72_111, x72_114, x72_115, x72_116, Option.toList_some, Option.toList_none, List.cons_append, List.nil_append, cat_i, cat_r, cat_n, cat_f, cs_n, cs_i, cs_r, cs_l, cs_f, Nat.reduceAdd, Nat.reduceLeDiff, Nat.zero_le, if_true, if_false, true_or, or_true, am_wr_at, Nat.reduceEqDiff, not_true_eq_false, not_false_eq_true, i_one, ite_not, bI_z, bI_nz, bI_t, bI_f, bI_or, Bool.false_eq_true, Bool.true_eq_false, reduceCtorEq]
    · rw [n130]
      simp only [x130_0, x130_1, x130_2, x130_3, Option.toList_some, Option.toList_none, List.cons_append, List.nil_append, cat_i, cat_r, cat_n, cat_f, cs_n, cs_i, cs_r, cs_l, cs_f, Nat.reduceAdd, Nat.reduceLeDiff, Nat.zero_le, if_true, if_false, true_or, or_true, am_wr_at, Nat.reduceEqDiff, not_true_eq_false, not_false_eq_true, i_one, ite_not, bI_z, bI_nz, bI_t, bI_f, bI_or, Bool.false_eq_true, Bool.true_eq_false, reduceCtorEq]
      rw [s130l .null]
      simp only [x130_66, x130_67, x130_68, x130_69, x130_72, x130_75, x130_78, x130_79, x130_82, x130_83, x130_86, x130_87, x130_90, x130_93, x130_94, x130_95, x130_98, x130_99, x130_102, x130_105, x130_106, x130_107, x130_110, x130_111, x130_114, x130_117, x130_118, Option.toList_some, Option.toList_none, List.cons_append, List.nil_append, cat_i, cat_r, cat_n, cat_f, cs_n, cs_i, cs_r, cs_l, cs_f, Nat.reduceAdd, Nat.reduceLeDiff, Nat.zero_le, if_true, if_false, true_or, or_true, am_wr_at, Nat.reduceEqDiff, not_true_eq_false, not_false_eq_true, i_one, ite_not, bI_z, bI_nz, bI_t, bI_f, bI_or, Bool.false_eq_true, Bool.true_eq_false, reduceCtorEq, lt1, lt2, lt3, lt4, lt5, lt10, lt12, lt16, lt100, lt1000, bt1, bt2, bt3, bt4, bt5, bt10, bt12, bt16, bt100, bt1000, bt6, bt25, bt100000, s104, h]
end I53
