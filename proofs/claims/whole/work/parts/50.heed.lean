/-! HEED in the reference -/
def hstep (h b m j : Int32) (c : Bool) : Int32 := if ¬ j = 0 then 0 else if ¬ m = 0 then (if c = true then (if h + b < 9 then h + b else 9) else (if 0 < (if h + b < 9 then h + b else 9) - 2 then (if h + b < 9 then h + b else 9) - 2 else 0)) else (if h + b < 9 then h + b else 9)
theorem heedF_s {V : Nat → Nat → Int32} {c : Bool} {i : Nat} : heedF V c (i + 1) = hstep (heedF V c i) (V 5 2) (V 3 i) (V 4 i) c := rfl
def mstep (h b m j : Int32) (c : Bool) : Int32 := if h + b ≤ 9 then (if m < 0 then (if h + b - 0 < 0 then 0 else if j ≤ 0 then h + b - 0 else 0) else (if c = true then (if h + b - 0 < 0 then 0 else if j ≤ 0 then h + b - 0 else 0) else (if h + b - 2 < 0 then 0 else if j ≤ 0 then h + b - 2 else 0))) else (if m < 0 then (if (9 : Int32) - 0 < 0 then 0 else if j ≤ 0 then 9 - 0 else 0) else (if c = true then (if (9 : Int32) - 0 < 0 then 0 else if j ≤ 0 then 9 - 0 else 0) else (if (9 : Int32) - 2 < 0 then 0 else if j ≤ 0 then 9 - 2 else 0)))
set_option maxRecDepth 100000 in
theorem heed_dec : ∀ h, h < 10 → ∀ b, b < 10 → ∀ m, m < 5 → ∀ j, j < 2 → ∀ c : Bool, mstep (nI h) (nI b) (nI m - 1) (nI j) c = hstep (nI h) (nI b) (nI m) (nI j) c ∧ 0 ≤ (hstep (nI h) (nI b) (nI m) (nI j) c).toInt ∧ (hstep (nI h) (nI b) (nI m) (nI j) c).toInt ≤ 9 := by decide +kernel
theorem heedF_rg {V : Nat → Nat → Int32} (hok : okV V) {c : Bool} : ∀ i, i ≤ 16 → rg (heedF V c i) 0 9 := by
  intro i
  induction i with
  | zero => intro _; exact (show rg 9 0 9 from ⟨by decide, by decide⟩)
  | succ i ih =>
    intro hi
    obtain ⟨h, a1, e1⟩ := rg_nI (n := 9) (by decide) (ih (by omega))
    obtain ⟨b, a2, e2⟩ := rg_nI (n := 9) (by decide) (hok.2.1 2 (by decide))
    obtain ⟨m, a3, e3⟩ := rg_nI (n := 4) (by decide) (hok.1 i (by omega)).2.2.2.1
    obtain ⟨j, a4, e4⟩ := rg_nI (n := 1) (by decide) (hok.1 i (by omega)).2.2.2.2
    rw [heedF_s, e1, e2, e3, e4]
    exact (heed_dec h (by omega) b (by omega) m (by omega) j (by omega) c).2
section I50
variable {sv : am_V} {h : am_H} {σ : am_S} {Q : Option Value → am_H → Prop} {x y : Int32}
theorem t25 : am_in 2 5 = true := by decide
theorem n2c : (2 : Int32).toNatClampNeg = 2 := by decide
theorem s133 {w b n : Nat} (hI : Inv σ) (hn : n ≤ 8) (h1 : σ.1 8 3 = nI n) (h2 : σ.1 71 7 = nI n) (hw : w < n) (hb : b < 16) : AM sv 133 [.ref 71, .int (nI w), .int (nI b)] (am_toH σ) Q = Q (some (.int (heedF (mV σ) (decide (σ.1 78 (3 * w + 1) = 2)) (b + 1)))) (am_toH σ) := by
  have b1 : am_in (nI (3 * w + 1)) 24 = true := nI_in' (by omega) (by omega)
  have d1 : (nI (3 * w + 1)).toNatClampNeg = 3 * w + 1 := nI_clamp (by omega)
  have key := am_up (N := b + 1) (f := fun i => AW sv 133 6 [.ref 71, .int (nI w), .int (nI b), .int (heedF (mV σ) (decide (σ.1 78 (3 * w + 1) = 2)) i), .int (nI i)] [] (am_toH σ) 0 0 Q) (by
    intro i hi
    have mg : ∀ (c : Prop) [Decidable c] (x y : Int32), (if c then AW sv 133 6 [.ref 71, .int (nI w), .int (nI b), .int x, .int (nI (i + 1))] [] (am_toH σ) 0 0 Q else AW sv 133 6 [.ref 71, .int (nI w), .int (nI b), .int y, .int (nI (i + 1))] [] (am_toH σ) 0 0 Q) = AW sv 133 6 [.ref 71, .int (nI w), .int (nI b), .int (if c then x else y), .int (nI (i + 1))] [] (am_toH σ) 0 0 Q := by
      intro c _ x y
      split <;> rfl
    have e1 : ¬ nI b < nI i := nI_nlt (by omega) (by omega)
    have e3 : am_in (nI i) 16 = true := nI_in' (by omega) (by omega)
    have e4 : (nI i).toNatClampNeg = i := nI_clamp (by omega)
    rw [x133_6]
    simp only [x133_8, x133_9, x133_12, x133_13, x133_14, x133_17, x133_18, x133_19, x133_20, x133_22, x133_25, x133_27, x133_30, x133_31, x133_32, x133_35, x133_36, x133_37, x133_38, x133_39, x133_40, x133_41, x133_44, x133_46, x133_47, x133_50, x133_51, x133_54, x133_55, x133_56, x133_57, x133_58, x133_59, x133_60, x133_61, x133_64, x133_65, x133_68, x133_69, x133_70, x133_71, x133_72, x133_75, x133_76, x133_79, x133_81, x133_82, x133_85, x133_86, x133_89, x133_90, x133_91, x133_94, x133_97, x133_98, Option.toList_some, Option.toList_none, List.cons_append, List.nil_append, cat_i, cat_r, cat_n, cat_f, cs_n, cs_i, cs_r, cs_l, cs_f, Nat.reduceAdd, Nat.reduceLeDiff, Nat.zero_le, if_true, if_false, true_or, or_true, am_wr_at, Nat.reduceEqDiff, not_true_eq_false, not_false_eq_true, i_one, ite_not, bI_z, bI_nz, bI_t, bI_f, bI_or, Bool.false_eq_true, Bool.true_eq_false, reduceCtorEq, lc75, lc76, lc77, lc78, e1, e3, e4, t25, n2c, ix31, b1, d1, nI_1, mg]
    refine congrArg (fun z => AW sv 133 6 [.ref 71, .int (nI w), .int (nI b), .int z, .int (nI (i + 1))] [] (am_toH σ) 0 0 Q) ?_
    obtain ⟨hh, a1, f1⟩ := rg_nI (n := 9) (by decide) (heedF_rg hI.2.1 (c := decide (σ.1 78 (3 * w + 1) = 2)) i (by omega))
    obtain ⟨bb, a2, f2⟩ := rg_nI (n := 9) (by decide) (hI.2.1.2.1 2 (by decide))
    obtain ⟨m, a3, f3⟩ := rg_nI (n := 4) (by decide) (hI.2.1.1 i (by omega)).2.2.2.1
    obtain ⟨j, a4, f4⟩ := rg_nI (n := 1) (by decide) (hI.2.1.1 i (by omega)).2.2.2.2
    have g2 : σ.1 77 2 = nI bb := f2
    have g3 : σ.1 75 i = nI m - 1 := by
      have : σ.1 75 i + 1 = nI m := by
        have h5 : mV σ 3 i = σ.1 75 i + 1 := if_pos (by omega)
        rw [← h5]; exact f3
      rw [← this, Int32.add_sub_cancel]
    have g4 : σ.1 76 i = nI j := by
      have h5 : mV σ 4 i = σ.1 76 i := if_pos (by omega)
      rw [← h5]; exact f4
    rw [heedF_s, f1, f2, f3, f4, g2, g3, g4, ← (heed_dec hh (by omega) bb (by omega) m (by omega) j (by omega) _).1]
    by_cases hk : σ.1 78 (3 * w + 1) = 2
    · simp only [hk, decide_true, if_true, mstep]
    · simp only [hk, decide_false, if_false, mstep, Bool.false_eq_true]) (b + 1) (Nat.le_refl _)
  rw [n133]
  simp only [x133_0, x133_2, x133_3, x133_4, Option.toList_some, Option.toList_none, List.cons_append, List.nil_append, cat_i, cat_r, cat_n, cat_f, cs_n, cs_i, cs_r, cs_l, cs_f, Nat.reduceAdd, Nat.reduceLeDiff, Nat.zero_le, if_true, if_false, true_or, or_true, am_wr_at, Nat.reduceEqDiff, not_true_eq_false, not_false_eq_true, i_one, ite_not, bI_z, bI_nz, bI_t, bI_f, bI_or, Bool.false_eq_true, Bool.true_eq_false, reduceCtorEq]
  refine Eq.trans key ?_
  have e1 : nI b < nI (b + 1) := nI_lt (by omega) (by omega)
  rw [x133_6]
  simp only [x133_8, x133_9, x133_12, x133_13, x133_14, x133_17, x133_18, x133_19, x133_20, x133_22, x133_25, x133_27, x133_30, x133_31, x133_32, x133_35, x133_36, x133_37, x133_38, x133_39, x133_40, x133_41, x133_44, x133_46, x133_47, x133_50, x133_51, x133_54, x133_55, x133_56, x133_57, x133_58, x133_59, x133_60, x133_61, x133_64, x133_65, x133_68, x133_69, x133_70, x133_71, x133_72, x133_75, x133_76, x133_79, x133_81, x133_82, x133_85, x133_86, x133_89, x133_90, x133_91, x133_94, x133_97, x133_98, Option.toList_some, Option.toList_none, List.cons_append, List.nil_append, cat_i, cat_r, cat_n, cat_f, cs_n, cs_i, cs_r, cs_l, cs_f, Nat.reduceAdd, Nat.reduceLeDiff, Nat.zero_le, if_true, if_false, true_or, or_true, am_wr_at, Nat.reduceEqDiff, not_true_eq_false, not_false_eq_true, i_one, ite_not, bI_z, bI_nz, bI_t, bI_f, bI_or, Bool.false_eq_true, Bool.true_eq_false, reduceCtorEq, e1]
theorem nI15 : nI 15 = 15 := rfl
theorem bI_ch {x : Int32} : (if x = 2 then (1 : Int32) else 0) = bI (decide (x = 2)) := by
  by_cases q : x = 2 <;> simp [q, bI]
/-- heed -/
theorem sim13 : ∀ x0 x1 : Int32, SimOK sv Inv 74 134 [.int x0, .int x1] := by
  intro w b σ hI
  obtain ⟨n, hn, a1, a2, a3, a4⟩ := isW hI
  by_cases h0 : am_in w n = true
  · by_cases h1 : am_in b 16 = true
    · obtain ⟨ww, hw, rfl⟩ := in_nI h0 (by omega)
      obtain ⟨bb, hb, rfl⟩ := in_nI h1 (by decide)
      obtain ⟨g1, g2, g3, r1, r2, r3⟩ := rd_w hI hn a1 a2 hw
      have d0 : (nI ww).toNatClampNeg = ww := nI_clamp (by omega)
      have b0 : am_in (nI ww) 12 = true := nI_in' (by omega) (by omega)
      have e5 : σ.1 20 2 = cV σ 1 5 2 := rfl
      have k1 := fun (c : Bool) Q => s16 (sv := sv) (σ := σ) (Q := Q) (child := c) st1 hb
      have k2 := fun Q => s133 (sv := sv) (Q := Q) hI hn a1 a2 hw hb
      simp only [Nat.reduceAdd] at k1
      refine ⟨heedF (mV σ) (decide (σ.1 78 (3 * ww + 1) = 2)) (bb + 1), σ, σ, fun Q => ?_, fun Q => ?_, hI⟩
      · rw [n74]
        by_cases hk : σ.1 78 (3 * ww + 1) = 2
        · have k3 := k1 true
          simp only [bI_t] at k3
          simp only [x74_0, x74_1, x74_2, x74_5, x74_8, x74_11, x74_14, x74_17, x74_18, x74_20, x74_23, x74_26, x74_27, x74_28, x74_29, x74_32, x74_35, x74_36, x74_37, x74_40, x74_43, x74_46, x74_47, x74_48, x74_49, x74_52, x74_53, x74_56, x74_57, x74_58, x74_61, x74_64, x74_65, x74_66, x74_69, Option.toList_some, Option.toList_none, List.cons_append, List.nil_append, cat_i, cat_r, cat_n, cat_f, cs_n, cs_i, cs_r, cs_l, cs_f, Nat.reduceAdd, Nat.reduceLeDiff, Nat.zero_le, if_true, if_false, true_or, or_true, am_wr_at, Nat.reduceEqDiff, not_true_eq_false, not_false_eq_true, i_one, ite_not, bI_z, bI_nz, bI_t, bI_f, bI_or, Bool.false_eq_true, Bool.true_eq_false, reduceCtorEq, lt1, lt2, lt3, lt4, lt5, lt10, lt12, lt16, lt100, lt1000, bt1, bt2, bt3, bt4, bt5, bt10, bt12, bt16, bt100, bt1000, bt6, bt25, bt100000, st1, s97, a1, a3, h0, h1, b0, d0, lc10, lc20, t25, n2c, g2, hk, e5, k3, decide_true]
          rw [hI.1]
        · have k3 := k1 false
          simp only [bI_f] at k3
          simp only [x74_0, x74_1, x74_2, x74_5, x74_8, x74_11, x74_14, x74_17, x74_18, x74_20, x74_23, x74_26, x74_27, x74_28, x74_29, x74_32, x74_35, x74_36, x74_37, x74_40, x74_43, x74_46, x74_47, x74_48, x74_49, x74_52, x74_53, x74_56, x74_57, x74_58, x74_61, x74_64, x74_65, x74_66, x74_69, Option.toList_some, Option.toList_none, List.cons_append, List.nil_append, cat_i, cat_r, cat_n, cat_f, cs_n, cs_i, cs_r, cs_l, cs_f, Nat.reduceAdd, Nat.reduceLeDiff, Nat.zero_le, if_true, if_false, true_or, or_true, am_wr_at, Nat.reduceEqDiff, not_true_eq_false, not_false_eq_true, i_one, ite_not, bI_z, bI_nz, bI_t, bI_f, bI_or, Bool.false_eq_true, Bool.true_eq_false, reduceCtorEq, lt1, lt2, lt3, lt4, lt5, lt10, lt12, lt16, lt100, lt1000, bt1, bt2, bt3, bt4, bt5, bt10, bt12, bt16, bt100, bt1000, bt6, bt25, bt100000, st1, s97, a1, a3, h0, h1, b0, d0, lc10, lc20, t25, n2c, g2, hk, e5, k3, decide_false]
          rw [hI.1]
      · rw [n134]
        simp only [x134_0, x134_1, x134_2, x134_5, x134_8, x134_9, x134_12, x134_15, x134_16, x134_17, x134_18, x134_21, x134_24, x134_25, Option.toList_some, Option.toList_none, List.cons_append, List.nil_append, cat_i, cat_r, cat_n, cat_f, cs_n, cs_i, cs_r, cs_l, cs_f, Nat.reduceAdd, Nat.reduceLeDiff, Nat.zero_le, if_true, if_false, true_or, or_true, am_wr_at, Nat.reduceEqDiff, not_true_eq_false, not_false_eq_true, i_one, ite_not, bI_z, bI_nz, bI_t, bI_f, bI_or, Bool.false_eq_true, Bool.true_eq_false, reduceCtorEq, lt1, lt2, lt3, lt4, lt5, lt10, lt12, lt16, lt100, lt1000, bt1, bt2, bt3, bt4, bt5, bt10, bt12, bt16, bt100, bt1000, bt6, bt25, bt100000, s106, s108, a2, a4, h0, h1, k2]
    · have h1 : am_in b 16 = false := by simpa using h1
      exact ⟨-1, σ, σ, fun Q => by rw [n74]; simp only [x74_0, x74_1, x74_2, x74_5, x74_8, x74_11, x74_14, x74_17, x74_18, x74_20, x74_23, x74_26, x74_27, x74_28, x74_29, x74_32, x74_35, x74_36, x74_37, x74_40, x74_43, x74_46, x74_47, x74_48, x74_49, x74_52, x74_53, x74_56, x74_57, x74_58, x74_61, x74_64, x74_65, x74_66, x74_69, Option.toList_some, Option.toList_none, List.cons_append, List.nil_append, cat_i, cat_r, cat_n, cat_f, cs_n, cs_i, cs_r, cs_l, cs_f, Nat.reduceAdd, Nat.reduceLeDiff, Nat.zero_le, if_true, if_false, true_or, or_true, am_wr_at, Nat.reduceEqDiff, not_true_eq_false, not_false_eq_true, i_one, ite_not, bI_z, bI_nz, bI_t, bI_f, bI_or, Bool.false_eq_true, Bool.true_eq_false, reduceCtorEq, lt1, lt2, lt3, lt4, lt5, lt10, lt12, lt16, lt100, lt1000, bt1, bt2, bt3, bt4, bt5, bt10, bt12, bt16, bt100, bt1000, bt6, bt25, bt100000, st1, s97, a1, a3, h0, h1], fun Q => by rw [n134]; simp only [x134_0, x134_1, x134_2, x134_5, x134_8, x134_9, x134_12, x134_15, x134_16, x134_17, x134_18, x134_21, x134_24, x134_25, Option.toList_some, Option.toList_none, List.cons_append, List.nil_append, cat_i, cat_r, cat_n, cat_f, cs_n, cs_i, cs_r, cs_l, cs_f, Nat.reduceAdd, Nat.reduceLeDiff, Nat.zero_le, if_true, if_false, true_or, or_true, am_wr_at, Nat.reduceEqDiff, not_true_eq_false, not_false_eq_true, i_one, ite_not, bI_z, bI_nz, bI_t, bI_f, bI_or, Bool.false_eq_true, Bool.true_eq_false, reduceCtorEq, lt1, lt2, lt3, lt4, lt5, lt10, lt12, lt16, lt100, lt1000, bt1, bt2, bt3, bt4, bt5, bt10, bt12, bt16, bt100, bt1000, bt6, bt25, bt100000, s106, s108, a2, a4, h0, h1], hI⟩
  · have h0 : am_in w n = false := by simpa using h0
    exact ⟨-1, σ, σ, fun Q => by rw [n74]; simp only [x74_0, x74_1, x74_2, x74_5, x74_8, x74_11, x74_14, x74_17, x74_18, x74_20, x74_23, x74_26, x74_27, x74_28, x74_29, x74_32, x74_35, x74_36, x74_37, x74_40, x74_43, x74_46, x74_47, x74_48, x74_49, x74_52, x74_53, x74_56, x74_57, x74_58, x74_61, x74_64, x74_65, x74_66, x74_69, Option.toList_some, Option.toList_none, List.cons_append, List.nil_append, cat_i, cat_r, cat_n, cat_f, cs_n, cs_i, cs_r, cs_l, cs_f, Nat.reduceAdd, Nat.reduceLeDiff, Nat.zero_le, if_true, if_false, true_or, or_true, am_wr_at, Nat.reduceEqDiff, not_true_eq_false, not_false_eq_true, i_one, ite_not, bI_z, bI_nz, bI_t, bI_f, bI_or, Bool.false_eq_true, Bool.true_eq_false, reduceCtorEq, lt1, lt2, lt3, lt4, lt5, lt10, lt12, lt16, lt100, lt1000, bt1, bt2, bt3, bt4, bt5, bt10, bt12, bt16, bt100, bt1000, bt6, bt25, bt100000, st1, s97, a1, a3, h0], fun Q => by rw [n134]; simp only [x134_0, x134_1, x134_2, x134_5, x134_8, x134_9, x134_12, x134_15, x134_16, x134_17, x134_18, x134_21, x134_24, x134_25, Option.toList_some, Option.toList_none, List.cons_append, List.nil_append, cat_i, cat_r, cat_n, cat_f, cs_n, cs_i, cs_r, cs_l, cs_f, Nat.reduceAdd, Nat.reduceLeDiff, Nat.zero_le, if_true, if_false, true_or, or_true, am_wr_at, Nat.reduceEqDiff, not_true_eq_false, not_false_eq_true, i_one, ite_not, bI_z, bI_nz, bI_t, bI_f, bI_or, Bool.false_eq_true, Bool.true_eq_false, reduceCtorEq, lt1, lt2, lt3, lt4, lt5, lt10, lt12, lt16, lt100, lt1000, bt1, bt2, bt3, bt4, bt5, bt10, bt12, bt16, bt100, bt1000, bt6, bt25, bt100000, s106, s108, a2, a4, h0], hI⟩
end I50
