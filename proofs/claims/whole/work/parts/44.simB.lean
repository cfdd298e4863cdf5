/-! SIMULATIONS: act, cue, habit and other short ones -/
theorem lt1 {x : Int32} : am_lt x 1 = am_in x 1 := lt_in (k := 1) (by decide)
theorem lt2 {x : Int32} : am_lt x 2 = am_in x 2 := lt_in (k := 2) (by decide)
theorem lt3 {x : Int32} : am_lt x 3 = am_in x 3 := lt_in (k := 3) (by decide)
theorem lt4 {x : Int32} : am_lt x 4 = am_in x 4 := lt_in (k := 4) (by decide)
theorem lt5 {x : Int32} : am_lt x 5 = am_in x 5 := lt_in (k := 5) (by decide)
theorem lt10 {x : Int32} : am_lt x 10 = am_in x 10 := lt_in (k := 10) (by decide)
theorem lt12 {x : Int32} : am_lt x 12 = am_in x 12 := lt_in (k := 12) (by decide)
theorem lt16 {x : Int32} : am_lt x 16 = am_in x 16 := lt_in (k := 16) (by decide)
theorem lt100 {x : Int32} : am_lt x 100 = am_in x 100 := lt_in (k := 100) (by decide)
theorem lt1000 {x : Int32} : am_lt x 1000 = am_in x 1000 := lt_in (k := 1000) (by decide)
theorem bt1 {x : Int32} : am_bt x.toInt64 0 0 = am_in x 1 := bt_in (k := 1) (by decide)
theorem bt2 {x : Int32} : am_bt x.toInt64 0 1 = am_in x 2 := bt_in (k := 2) (by decide)
theorem bt3 {x : Int32} : am_bt x.toInt64 0 2 = am_in x 3 := bt_in (k := 3) (by decide)
theorem bt4 {x : Int32} : am_bt x.toInt64 0 3 = am_in x 4 := bt_in (k := 4) (by decide)
theorem bt5 {x : Int32} : am_bt x.toInt64 0 4 = am_in x 5 := bt_in (k := 5) (by decide)
theorem bt10 {x : Int32} : am_bt x.toInt64 0 9 = am_in x 10 := bt_in (k := 10) (by decide)
theorem bt12 {x : Int32} : am_bt x.toInt64 0 11 = am_in x 12 := bt_in (k := 12) (by decide)
theorem bt16 {x : Int32} : am_bt x.toInt64 0 15 = am_in x 16 := bt_in (k := 16) (by decide)
theorem bt100 {x : Int32} : am_bt x.toInt64 0 99 = am_in x 100 := bt_in (k := 100) (by decide)
theorem bt1000 {x : Int32} : am_bt x.toInt64 0 999 = am_in x 1000 := bt_in (k := 1000) (by decide)
theorem bt6 {x : Int32} : am_bt x.toInt64 0 5 = am_in x 6 := bt_in (k := 6) (by decide)
theorem bt25 {x : Int32} : am_bt x.toInt64 0 24 = am_in x 25 := bt_in (k := 25) (by decide)
theorem bt100000 {x : Int32} : am_bt x.toInt64 0 99999 = am_in x 100000 := bt_in (k := 100000) (by decide)
theorem in_nI {x : Int32} {n : Nat} (h : am_in x n = true) (hn : n < 2 ^ 31) : ∃ k, k < n ∧ x = nI k := by
  have := of_decide_eq_true h
  refine ⟨x.toInt.toNat, by omega, ?_⟩
  apply Int32.toInt_inj.mp
  rw [nI_toInt (by omega)]
  omega
/-- the cells that a call on the stage and the house leaves as they were -/
def FrN (σ τ : am_S) : Prop := τ.1 65 1 = σ.1 65 1 ∧ τ.1 66 = σ.1 66 ∧ τ.1 79 = σ.1 79 ∧ τ.1 71 10 = σ.1 71 10 ∧ τ.1 68 = σ.1 68 ∧ τ.1 69 = σ.1 69 ∧ τ.1 70 = σ.1 70 ∧ τ.1 86 = σ.1 86 ∧ τ.1 87 = σ.1 87 ∧ τ.1 88 = σ.1 88 ∧ τ.1 0 2 = σ.1 0 2 ∧ τ.1 71 23 = σ.1 71 23 ∧ τ.1 85 = σ.1 85 ∧ ∀ k, 22 ≤ k → k ≤ 41 → τ.1 k = σ.1 k
theorem Inv_mk {σ τ : am_S} {V : Nat → Nat → Int32} (hI : Inv σ) (hf : FrN σ τ) (hc : cV τ 1 = V) (hm : mV τ = V) (hok : okV V) : Inv τ := by
  obtain ⟨f1, f2, f3, f4, f5, f6, f7, f8, f9, f10, f11, f12, f13, f14⟩ := hf
  exact ⟨hc.trans hm.symm, by rw [hm]; exact hok, inT_of ⟨f1, f2, f3, f4⟩ hI.2.2.1, inS_of ⟨f5, f6, f7, f8, f9, f10⟩ hI.2.2.2.1, inI_of ⟨f11, f12, f13⟩ f14 hI.2.2.2.2⟩
/-- a row of the class and its row of the reference get one number -/
theorem Inv_row {σ : am_S} {a m j : Nat} {x y : Int32} {i : Nat} (hI : Inv σ) (ha : a = i + 3 ∧ m = i + 72 ∧ i < 5) (hj : j < 16) (hy : (if i = 2 ∨ i = 3 then y + 1 else y) = x) (hx : (i = 0 ∧ deed x) ∨ (i = 1 ∧ deed x) ∨ (i = 2 ∧ rg x 0 4) ∨ (i = 3 ∧ rg x 0 4) ∨ (i = 4 ∧ rg x 0 1)) : Inv (am_wr (am_wr σ a (upd (σ.1 a) j x)) m (upd (σ.1 m) j y)) := by
  obtain ⟨hv, hok, -⟩ := id hI
  obtain ⟨rfl, rfl, hi⟩ := ha
  have e1 : (am_wr σ (i + 3) (upd (σ.1 (i + 3)) j x)).1 (i + 72) = σ.1 (i + 72) := am_wr_ne (by omega)
  refine Inv_mk (V := vset (mV σ) i j x) hI ⟨?_, ?_, ?_, ?_, ?_, ?_, ?_, ?_, ?_, ?_, ?_, ?_, ?_, fun k q1 q2 => ?_⟩ ?_ ?_ (okV_set hok (by rcases hx with h | h | h | h | h <;> simp [h]))
  iterate 14 first | rw [am_wr_ne (by omega), am_wr_ne (by omega)]
  · rw [cV_of (σ := am_wr σ (i + 3) (upd (σ.1 (i + 3)) j x)) (fun k q1 q2 => am_wr_ne (by omega)) (by rw [am_wr_ne (by omega)]), ← hv]
    rcases (show i = 0 ∨ i = 1 ∨ i = 2 ∨ i = 3 ∨ i = 4 by omega) with rfl | rfl | rfl | rfl | rfl
    · exact cV_r0 (a := 1) hj
    · exact cV_r1 (a := 1) hj
    · exact cV_r2 (a := 1) hj
    · exact cV_r3 (a := 1) hj
    · exact cV_r4 (a := 1) hj
  · have h2 := mV_row (σ := am_wr σ (i + 3) (upd (σ.1 (i + 3)) j x)) (x := y) hj i hi
    rw [Nat.add_comm 72 i, e1, hy] at h2
    rw [h2, mV_of (σ := σ) (fun k q1 q2 => am_wr_ne (by omega)) ⟨am_wr_ne (by omega), am_wr_ne (by omega), am_wr_ne (by omega)⟩ ⟨by rw [am_wr_ne (by omega)], by rw [am_wr_ne (by omega)], by rw [am_wr_ne (by omega)], by rw [am_wr_ne (by omega)]⟩]
theorem rd_row {σ : am_S} (hv : cV σ 1 = mV σ) {j : Nat} (hj : j < 16) : σ.1 3 j = σ.1 72 j ∧ σ.1 4 j = σ.1 73 j ∧ σ.1 5 j = σ.1 74 j + 1 ∧ σ.1 6 j = σ.1 75 j + 1 ∧ σ.1 7 j = σ.1 76 j := by
  have h0 := congrFun (congrFun hv 0) j
  have h1 := congrFun (congrFun hv 1) j
  have h2 := congrFun (congrFun hv 2) j
  have h3 := congrFun (congrFun hv 3) j
  have h4 := congrFun (congrFun hv 4) j
  simp only [cV, mV, hj, if_true] at h0 h1 h2 h3 h4
  exact ⟨h0, h1, h2, h3, h4⟩
theorem iz2 : am_in 0 2 = true := by decide
theorem iz10 : am_in 0 10 = true := by decide
theorem iz16 : am_in 0 16 = true := by decide
section I44
variable {sv : am_V}
/-- act -/
theorem sim0 : ∀ x0 x1 x2 x3 : Int32, SimOK sv Inv 61 109 [.int x0, .int x1, .int x2, .int x3] := by
  intro b w p s σ hI
  obtain ⟨hv, hok, hT, hS, hM⟩ := id hI
  by_cases h0 : am_in b 16 = true
  · by_cases h1 : am_in w 2 = true
    · by_cases h2 : am_in p 4 = true
      · by_cases h3 : am_in s 10 = true
        · obtain ⟨bb, hb, rfl⟩ := in_nI h0 (by decide)
          obtain ⟨pp, hp, rfl⟩ := in_nI h2 (by decide)
          obtain ⟨ss, hs, rfl⟩ := in_nI h3 (by decide)
          have d0 : (nI bb).toNatClampNeg = bb := nI_clamp (by omega)
          obtain ⟨r0, r1, -⟩ := rd_row hv hb
          have hd : deed (if nI ss = 0 then 0 else 10 * nI pp + nI ss) := by
            by_cases hz : ss = 0
            · subst hz
              exact Or.inl (if_pos rfl)
            · refine Or.inr ⟨pp, ss, hp, by omega, by omega, ?_⟩
              rw [if_neg (nI_ne0 (by omega) (by omega))]
              show nI 10 * nI pp + nI ss = _
              unfold nI
              rw [← Int32.ofNat_mul, ← Int32.ofNat_add]
          obtain ⟨ww, hw, rfl⟩ := in_nI h1 (by decide)
          rcases (show ww = 0 ∨ ww = 1 by omega) with rfl | rfl
          · have e1 : nI 0 = 0 := nI_0
            refine ⟨σ.1 3 bb, am_wr σ 3 (upd (σ.1 3) bb (if nI ss = 0 then 0 else 10 * nI pp + nI ss)), am_wr (am_wr σ 3 (upd (σ.1 3) bb (if nI ss = 0 then 0 else 10 * nI pp + nI ss))) 72 (upd (σ.1 72) bb (if nI ss = 0 then 0 else 10 * nI pp + nI ss)), ?_, ?_, Inv_row (i := 0) hI (by decide) hb rfl (Or.inl ⟨rfl, hd⟩)⟩
            · intro Q
              rw [n61]
              by_cases hz : nI ss = 0 <;> simp only [x61_0, x61_1, x61_3, x61_6, x61_9, x61_10, x61_11, x61_14, x61_17, x61_18, x61_19, x61_22, x61_25, x61_27, x61_29, x61_32, x61_35, x61_36, x61_37, x61_39, x61_42, x61_43, x61_46, x61_48, x61_49, x61_50, x61_52, x61_53, x61_55, x61_56, x61_59, x61_60, x61_63, x61_66, x61_69, x61_72, x61_73, x61_76, x61_79, x61_82, x61_83, x61_85, x61_88, Option.toList_some, Option.toList_none, List.cons_append, List.nil_append, cat_i, cat_r, cat_n, cat_f, cs_n, cs_i, cs_r, cs_l, cs_f, Nat.reduceAdd, Nat.reduceLeDiff, Nat.zero_le, if_true, if_false, true_or, or_true, am_wr_at, Nat.reduceEqDiff, not_true_eq_false, not_false_eq_true, i_one, ite_not, bI_z, bI_nz, bI_t, bI_f, bI_or, Bool.false_eq_true, Bool.true_eq_false, reduceCtorEq, lt1, lt2, lt3, lt4, lt5, lt10, lt12, lt16, lt100, lt1000, bt1, bt2, bt3, bt4, bt5, bt10, bt12, bt16, bt100, bt1000, bt6, bt25, bt100000, st1, s97, s99, h0, h1, h2, h3, e1, hz, lc3, lc4, d0, iz2, iz10]
            · intro Q
              rw [n109]
              by_cases hz : nI ss = 0 <;> simp only [x109_0, x109_1, x109_4, x109_7, x109_8, x109_9, x109_10, x109_11, x109_14, x109_17, x109_18, x109_21, x109_24, x109_26, x109_27, x109_28, x109_31, x109_34, x109_37, x109_38, x109_39, x109_41, x109_44, x109_45, x109_48, x109_50, x109_51, x109_52, x109_54, x109_55, x109_57, x109_58, x109_61, x109_62, x109_65, x109_66, x109_67, x109_70, x109_71, x109_74, x109_75, x109_76, x109_78, x109_79, x109_82, x109_83, x109_86, x109_87, x109_89, x109_90, x109_93, x109_94, x109_97, x109_98, x109_100, x109_101, x109_103, Option.toList_some, Option.toList_none, List.cons_append, List.nil_append, cat_i, cat_r, cat_n, cat_f, cs_n, cs_i, cs_r, cs_l, cs_f, Nat.reduceAdd, Nat.reduceLeDiff, Nat.zero_le, if_true, if_false, true_or, or_true, am_wr_at, Nat.reduceEqDiff, not_true_eq_false, not_false_eq_true, i_one, ite_not, bI_z, bI_nz, bI_t, bI_f, bI_or, Bool.false_eq_true, Bool.true_eq_false, reduceCtorEq, lt1, lt2, lt3, lt4, lt5, lt10, lt12, lt16, lt100, lt1000, bt1, bt2, bt3, bt4, bt5, bt10, bt12, bt16, bt100, bt1000, bt6, bt25, bt100000, s104, s106, s107, h0, h1, h2, h3, e1, hz, lc72, lc73, d0, r0, iz2, iz10]
          · have e1 : ¬ nI 1 = 0 := by decide
            refine ⟨σ.1 4 bb, am_wr σ 4 (upd (σ.1 4) bb (if nI ss = 0 then 0 else 10 * nI pp + nI ss)), am_wr (am_wr σ 4 (upd (σ.1 4) bb (if nI ss = 0 then 0 else 10 * nI pp + nI ss))) 73 (upd (σ.1 73) bb (if nI ss = 0 then 0 else 10 * nI pp + nI ss)), ?_, ?_, Inv_row (i := 1) hI (by decide) hb rfl (Or.inr (Or.inl ⟨rfl, hd⟩))⟩
            · intro Q
              rw [n61]
              by_cases hz : nI ss = 0 <;> simp only [x61_0, x61_1, x61_3, x61_6, x61_9, x61_10, x61_11, x61_14, x61_17, x61_18, x61_19, x61_22, x61_25, x61_27, x61_29, x61_32, x61_35, x61_36, x61_37, x61_39, x61_42, x61_43, x61_46, x61_48, x61_49, x61_50, x61_52, x61_53, x61_55, x61_56, x61_59, x61_60, x61_63, x61_66, x61_69, x61_72, x61_73, x61_76, x61_79, x61_82, x61_83, x61_85, x61_88, Option.toList_some, Option.toList_none, List.cons_append, List.nil_append, cat_i, cat_r, cat_n, cat_f, cs_n, cs_i, cs_r, cs_l, cs_f, Nat.reduceAdd, Nat.reduceLeDiff, Nat.zero_le, if_true, if_false, true_or, or_true, am_wr_at, Nat.reduceEqDiff, not_true_eq_false, not_false_eq_true, i_one, ite_not, bI_z, bI_nz, bI_t, bI_f, bI_or, Bool.false_eq_true, Bool.true_eq_false, reduceCtorEq, lt1, lt2, lt3, lt4, lt5, lt10, lt12, lt16, lt100, lt1000, bt1, bt2, bt3, bt4, bt5, bt10, bt12, bt16, bt100, bt1000, bt6, bt25, bt100000, st1, s97, s99, h0, h1, h2, h3, e1, hz, lc3, lc4, d0, iz2, iz10]
            · intro Q
              rw [n109]
              by_cases hz : nI ss = 0 <;> simp only [x109_0, x109_1, x109_4, x109_7, x109_8, x109_9, x109_10, x109_11, x109_14, x109_17, x109_18, x109_21, x109_24, x109_26, x109_27, x109_28, x109_31, x109_34, x109_37, x109_38, x109_39, x109_41, x109_44, x109_45, x109_48, x109_50, x109_51, x109_52, x109_54, x109_55, x109_57, x109_58, x109_61, x109_62, x109_65, x109_66, x109_67, x109_70, x109_71, x109_74, x109_75, x109_76, x109_78, x109_79, x109_82, x109_83, x109_86, x109_87, x109_89, x109_90, x109_93, x109_94, x109_97, x109_98, x109_100, x109_101, x109_103, Option.toList_some, Option.toList_none, List.cons_append, List.nil_append, cat_i, cat_r, cat_n, cat_f, cs_n, cs_i, cs_r, cs_l, cs_f, Nat.reduceAdd, Nat.reduceLeDiff, Nat.zero_le, if_true, if_false, true_or, or_true, am_wr_at, Nat.reduceEqDiff, not_true_eq_false, not_false_eq_true, i_one, ite_not, bI_z, bI_nz, bI_t, bI_f, bI_or, Bool.false_eq_true, Bool.true_eq_false, reduceCtorEq, lt1, lt2, lt3, lt4, lt5, lt10, lt12, lt16, lt100, lt1000, bt1, bt2, bt3, bt4, bt5, bt10, bt12, bt16, bt100, bt1000, bt6, bt25, bt100000, s104, s106, s107, h0, h1, h2, h3, e1, hz, lc72, lc73, d0, r1, iz2, iz10]
        · have h3 : am_in s 10 = false := by simpa using h3
          exact ⟨-1, σ, σ, fun Q => by rw [n61]; simp only [x61_0, x61_1, x61_3, x61_6, x61_9, x61_10, x61_11, x61_14, x61_17, x61_18, x61_19, x61_22, x61_25, x61_27, x61_29, x61_32, x61_35, x61_36, x61_37, x61_39, x61_42, x61_43, x61_46, x61_48, x61_49, x61_50, x61_52, x61_53, x61_55, x61_56, x61_59, x61_60, x61_63, x61_66, x61_69, x61_72, x61_73, x61_76, x61_79, x61_82, x61_83, x61_85, x61_88, Option.toList_some, Option.toList_none, List.cons_append, List.nil_append, cat_i, cat_r, cat_n, cat_f, cs_n, cs_i, cs_r, cs_l, cs_f, Nat.reduceAdd, Nat.reduceLeDiff, Nat.zero_le, if_true, if_false, true_or, or_true, am_wr_at, Nat.reduceEqDiff, not_true_eq_false, not_false_eq_true, i_one, ite_not, bI_z, bI_nz, bI_t, bI_f, bI_or, Bool.false_eq_true, Bool.true_eq_false, reduceCtorEq, lt1, lt2, lt3, lt4, lt5, lt10, lt12, lt16, lt100, lt1000, bt1, bt2, bt3, bt4, bt5, bt10, bt12, bt16, bt100, bt1000, bt6, bt25, bt100000, s97, h0, h1, h2, h3], fun Q => by rw [n109]; simp only [x109_0, x109_1, x109_4, x109_7, x109_8, x109_9, x109_10, x109_11, x109_14, x109_17, x109_18, x109_21, x109_24, x109_26, x109_27, x109_28, x109_31, x109_34, x109_37, x109_38, x109_39, x109_41, x109_44, x109_45, x109_48, x109_50, x109_51, x109_52, x109_54, x109_55, x109_57, x109_58, x109_61, x109_62, x109_65, x109_66, x109_67, x109_70, x109_71, x109_74, x109_75, x109_76, x109_78, x109_79, x109_82, x109_83, x109_86, x109_87, x109_89, x109_90, x109_93, x109_94, x109_97, x109_98, x109_100, x109_101, x109_103, Option.toList_some, Option.toList_none, List.cons_append, List.nil_append, cat_i, cat_r, cat_n, cat_f, cs_n, cs_i, cs_r, cs_l, cs_f, Nat.reduceAdd, Nat.reduceLeDiff, Nat.zero_le, if_true, if_false, true_or, or_true, am_wr_at, Nat.reduceEqDiff, not_true_eq_false, not_false_eq_true, i_one, ite_not, bI_z, bI_nz, bI_t, bI_f, bI_or, Bool.false_eq_true, Bool.true_eq_false, reduceCtorEq, lt1, lt2, lt3, lt4, lt5, lt10, lt12, lt16, lt100, lt1000, bt1, bt2, bt3, bt4, bt5, bt10, bt12, bt16, bt100, bt1000, bt6, bt25, bt100000, s104, s106, s107, h0, h1, h2, h3], hI⟩
      · have h2 : am_in p 4 = false := by simpa using h2
        exact ⟨-1, σ, σ, fun Q => by rw [n61]; simp only [x61_0, x61_1, x61_3, x61_6, x61_9, x61_10, x61_11, x61_14, x61_17, x61_18, x61_19, x61_22, x61_25, x61_27, x61_29, x61_32, x61_35, x61_36, x61_37, x61_39, x61_42, x61_43, x61_46, x61_48, x61_49, x61_50, x61_52, x61_53, x61_55, x61_56, x61_59, x61_60, x61_63, x61_66, x61_69, x61_72, x61_73, x61_76, x61_79, x61_82, x61_83, x61_85, x61_88, Option.toList_some, Option.toList_none, List.cons_append, List.nil_append, cat_i, cat_r, cat_n, cat_f, cs_n, cs_i, cs_r, cs_l, cs_f, Nat.reduceAdd, Nat.reduceLeDiff, Nat.zero_le, if_true, if_false, true_or, or_true, am_wr_at, Nat.reduceEqDiff, not_true_eq_false, not_false_eq_true, i_one, ite_not, bI_z, bI_nz, bI_t, bI_f, bI_or, Bool.false_eq_true, Bool.true_eq_false, reduceCtorEq, lt1, lt2, lt3, lt4, lt5, lt10, lt12, lt16, lt100, lt1000, bt1, bt2, bt3, bt4, bt5, bt10, bt12, bt16, bt100, bt1000, bt6, bt25, bt100000, s97, h0, h1, h2], fun Q => by rw [n109]; simp only [x109_0, x109_1, x109_4, x109_7, x109_8, x109_9, x109_10, x109_11, x109_14, x109_17, x109_18, x109_21, x109_24, x109_26, x109_27, x109_28, x109_31, x109_34, x109_37, x109_38, x109_39, x109_41, x109_44, x109_45, x109_48, x109_50, x109_51, x109_52, x109_54, x109_55, x109_57, x109_58, x109_61, x109_62, x109_65, x109_66, x109_67, x109_70, x109_71, x109_74, x109_75, x109_76, x109_78, x109_79, x109_82, x109_83, x109_86, x109_87, x109_89, x109_90, x109_93, x109_94, x109_97, x109_98, x109_100, x109_101, x109_103, Option.toList_some, Option.toList_none, List.cons_append, List.nil_append, cat_i, cat_r, cat_n, cat_f, cs_n, cs_i, cs_r, cs_l, cs_f, Nat.reduceAdd, Nat.reduceLeDiff, Nat.zero_le, if_true, if_false, true_or, or_true, am_wr_at, Nat.reduceEqDiff, not_true_eq_false, not_false_eq_true, i_one, ite_not, bI_z, bI_nz, bI_t, bI_f, bI_or, Bool.false_eq_true, Bool.true_eq_false, reduceCtorEq, lt1, lt2, lt3, lt4, lt5, lt10, lt12, lt16, lt100, lt1000, bt1, bt2, bt3, bt4, bt5, bt10, bt12, bt16, bt100, bt1000, bt6, bt25, bt100000, s104, s106, s107, h0, h1, h2], hI⟩
    · have h1 : am_in w 2 = false := by simpa using h1
      exact ⟨-1, σ, σ, fun Q => by rw [n61]; simp only [x61_0, x61_1, x61_3, x61_6, x61_9, x61_10, x61_11, x61_14, x61_17, x61_18, x61_19, x61_22, x61_25, x61_27, x61_29, x61_32, x61_35, x61_36, x61_37, x61_39, x61_42, x61_43, x61_46, x61_48, x61_49, x61_50, x61_52, x61_53, x61_55, x61_56, x61_59, x61_60, x61_63, x61_66, x61_69, x61_72, x61_73, x61_76, x61_79, x61_82, x61_83, x61_85, x61_88, Option.toList_some, Option.toList_none, List.cons_append, List.nil_append, cat_i, cat_r, cat_n, cat_f, cs_n, cs_i, cs_r, cs_l, cs_f, Nat.reduceAdd, Nat.reduceLeDiff, Nat.zero_le, if_true, if_false, true_or, or_true, am_wr_at, Nat.reduceEqDiff, not_true_eq_false, not_false_eq_true, i_one, ite_not, bI_z, bI_nz, bI_t, bI_f, bI_or, Bool.false_eq_true, Bool.true_eq_false, reduceCtorEq, lt1, lt2, lt3, lt4, lt5, lt10, lt12, lt16, lt100, lt1000, bt1, bt2, bt3, bt4, bt5, bt10, bt12, bt16, bt100, bt1000, bt6, bt25, bt100000, s97, h0, h1], fun Q => by rw [n109]; simp only [x109_0, x109_1, x109_4, x109_7, x109_8, x109_9, x109_10, x109_11, x109_14, x109_17, x109_18, x109_21, x109_24, x109_26, x109_27, x109_28, x109_31, x109_34, x109_37, x109_38, x109_39, x109_41, x109_44, x109_45, x109_48, x109_50, x109_51, x109_52, x109_54, x109_55, x109_57, x109_58, x109_61, x109_62, x109_65, x109_66, x109_67, x109_70, x109_71, x109_74, x109_75, x109_76, x109_78, x109_79, x109_82, x109_83, x109_86, x109_87, x109_89, x109_90, x109_93, x109_94, x109_97, x109_98, x109_100, x109_101, x109_103, Option.toList_some, Option.toList_none, List.cons_append, List.nil_append, cat_i, cat_r, cat_n, cat_f, cs_n, cs_i, cs_r, cs_l, cs_f, Nat.reduceAdd, Nat.reduceLeDiff, Nat.zero_le, if_true, if_false, true_or, or_true, am_wr_at, Nat.reduceEqDiff, not_true_eq_false, not_false_eq_true, i_one, ite_not, bI_z, bI_nz, bI_t, bI_f, bI_or, Bool.false_eq_true, Bool.true_eq_false, reduceCtorEq, lt1, lt2, lt3, lt4, lt5, lt10, lt12, lt16, lt100, lt1000, bt1, bt2, bt3, bt4, bt5, bt10, bt12, bt16, bt100, bt1000, bt6, bt25, bt100000, s104, s106, s107, h0, h1], hI⟩
  · have h0 : am_in b 16 = false := by simpa using h0
    exact ⟨-1, σ, σ, fun Q => by rw [n61]; simp only [x61_0, x61_1, x61_3, x61_6, x61_9, x61_10, x61_11, x61_14, x61_17, x61_18, x61_19, x61_22, x61_25, x61_27, x61_29, x61_32, x61_35, x61_36, x61_37, x61_39, x61_42, x61_43, x61_46, x61_48, x61_49, x61_50, x61_52, x61_53, x61_55, x61_56, x61_59, x61_60, x61_63, x61_66, x61_69, x61_72, x61_73, x61_76, x61_79, x61_82, x61_83, x61_85, x61_88, Option.toList_some, Option.toList_none, List.cons_append, List.nil_append, cat_i, cat_r, cat_n, cat_f, cs_n, cs_i, cs_r, cs_l, cs_f, Nat.reduceAdd, Nat.reduceLeDiff, Nat.zero_le, if_true, if_false, true_or, or_true, am_wr_at, Nat.reduceEqDiff, not_true_eq_false, not_false_eq_true, i_one, ite_not, bI_z, bI_nz, bI_t, bI_f, bI_or, Bool.false_eq_true, Bool.true_eq_false, reduceCtorEq, lt1, lt2, lt3, lt4, lt5, lt10, lt12, lt16, lt100, lt1000, bt1, bt2, bt3, bt4, bt5, bt10, bt12, bt16, bt100, bt1000, bt6, bt25, bt100000, s97, h0], fun Q => by rw [n109]; simp only [x109_0, x109_1, x109_4, x109_7, x109_8, x109_9, x109_10, x109_11, x109_14, x109_17, x109_18, x109_21, x109_24, x109_26, x109_27, x109_28, x109_31, x109_34, x109_37, x109_38, x109_39, x109_41, x109_44, x109_45, x109_48, x109_50, x109_51, x109_52, x109_54, x109_55, x109_57, x109_58, x109_61, x109_62, x109_65, x109_66, x109_67, x109_70, x109_71, x109_74, x109_75, x109_76, x109_78, x109_79, x109_82, x109_83, x109_86, x109_87, x109_89, x109_90, x109_93, x109_94, x109_97, x109_98, x109_100, x109_101, x109_103, Option.toList_some, Option.toList_none, List.cons_append, List.nil_append, cat_i, cat_r, cat_n, cat_f, cs_n, cs_i, cs_r, cs_l, cs_f, Nat.reduceAdd, Nat.reduceLeDiff, Nat.zero_le, if_true, if_false, true_or, or_true, am_wr_at, Nat.reduceEqDiff, not_true_eq_false, not_false_eq_true, i_one, ite_not, bI_z, bI_nz, bI_t, bI_f, bI_or, Bool.false_eq_true, Bool.true_eq_false, reduceCtorEq, lt1, lt2, lt3, lt4, lt5, lt10, lt12, lt16, lt100, lt1000, bt1, bt2, bt3, bt4, bt5, bt10, bt12, bt16, bt100, bt1000, bt6, bt25, bt100000, s104, s106, s107, h0], hI⟩
/-- cue -/
theorem sim1 : ∀ x0 x1 x2 : Int32, SimOK sv Inv 62 110 [.int x0, .int x1, .int x2] := by
  intro b w v σ hI
  obtain ⟨hv, hok, hT, hS, hM⟩ := id hI
  by_cases h0 : am_in b 16 = true
  · by_cases h1 : am_in w 3 = true
    · obtain ⟨bb, hb, rfl⟩ := in_nI h0 (by decide)
      have d0 : (nI bb).toNatClampNeg = bb := nI_clamp (by omega)
      obtain ⟨-, -, r2, r3, r4⟩ := rd_row hv hb
      obtain ⟨ww, hw, rfl⟩ := in_nI h1 (by decide)
      by_cases hw2 : ww = 2
      · subst hw2
        have e1 : nI 2 = 2 := rfl
        have e2 : ¬ (2 : Int32) = 0 := by decide
        have e3 : ¬ (2 : Int32) = 1 := by decide
        have e4 : am_in 2 3 = true := by decide
        by_cases h2 : am_in v 2 = true
        · refine ⟨1 + σ.1 7 bb, am_wr σ 7 (upd (σ.1 7) bb v), am_wr (am_wr σ 7 (upd (σ.1 7) bb v)) 76 (upd (σ.1 76) bb v), ?_, ?_, Inv_row (i := 4) hI (by decide) hb rfl (by simp; exact inR h2)⟩
          · intro Q
            rw [n62]
            simp only [x62_0, x62_1, x62_3, x62_6, x62_9, x62_10, x62_11, x62_14, x62_17, x62_18, x62_19, x62_20, x62_21, x62_24, x62_25, x62_26, x62_29, x62_32, x62_33, x62_34, x62_37, x62_40, x62_43, x62_44, x62_45, x62_48, x62_49, x62_52, x62_53, x62_54, x62_55, x62_56, x62_59, x62_60, x62_61, x62_64, x62_65, x62_66, x62_67, x62_70, x62_71, x62_74, x62_77, x62_80, x62_83, x62_84, x62_87, x62_90, x62_93, x62_94, x62_95, x62_96, x62_97, x62_100, Option.toList_some, Option.toList_none, List.cons_append, List.nil_append, cat_i, cat_r, cat_n, cat_f, cs_n, cs_i, cs_r, cs_l, cs_f, Nat.reduceAdd, Nat.reduceLeDiff, Nat.zero_le, if_true, if_false, true_or, or_true, am_wr_at, Nat.reduceEqDiff, not_true_eq_false, not_false_eq_true, i_one, ite_not, bI_z, bI_nz, bI_t, bI_f, bI_or, Bool.false_eq_true, Bool.true_eq_false, reduceCtorEq, lt1, lt2, lt3, lt4, lt5, lt10, lt12, lt16, lt100, lt1000, bt1, bt2, bt3, bt4, bt5, bt10, bt12, bt16, bt100, bt1000, bt6, bt25, bt100000, st1, s97, s99, h0, h2, e1, e2, e3, e4, lc7, d0]
          · intro Q
            rw [n110]
            simp only [x110_0, x110_1, x110_4, x110_7, x110_8, x110_9, x110_10, x110_13, x110_16, x110_19, x110_20, x110_21, x110_22, x110_23, x110_26, x110_27, x110_30, x110_33, x110_34, x110_35, x110_38, x110_39, x110_42, x110_45, x110_48, x110_51, x110_52, x110_53, x110_54, x110_57, x110_58, x110_61, x110_62, x110_63, x110_66, x110_67, x110_68, x110_71, x110_72, x110_75, x110_76, x110_77, x110_80, x110_81, x110_84, x110_85, x110_86, x110_88, x110_89, x110_92, x110_93, x110_96, x110_97, x110_98, x110_99, x110_102, x110_103, x110_104, x110_107, x110_108, x110_111, x110_112, x110_113, x110_114, x110_117, x110_118, x110_121, x110_122, x110_123, x110_124, x110_125, x110_127, x110_128, Option.toList_some, Option.toList_none, List.cons_append, List.nil_append, cat_i, cat_r, cat_n, cat_f, cs_n, cs_i, cs_r, cs_l, cs_f, Nat.reduceAdd, Nat.reduceLeDiff, Nat.zero_le, if_true, if_false, true_or, or_true, am_wr_at, Nat.reduceEqDiff, not_true_eq_false, not_false_eq_true, i_one, ite_not, bI_z, bI_nz, bI_t, bI_f, bI_or, Bool.false_eq_true, Bool.true_eq_false, reduceCtorEq, lt1, lt2, lt3, lt4, lt5, lt10, lt12, lt16, lt100, lt1000, bt1, bt2, bt3, bt4, bt5, bt10, bt12, bt16, bt100, bt1000, bt6, bt25, bt100000, s104, s106, h0, h2, e1, e2, e3, e4, lc76, d0, r4]
        · have h2 : am_in v 2 = false := by simpa using h2
          exact ⟨-1, σ, σ, fun Q => by rw [n62]; simp only [x62_0, x62_1, x62_3, x62_6, x62_9, x62_10, x62_11, x62_14, x62_17, x62_18, x62_19, x62_20, x62_21, x62_24, x62_25, x62_26, x62_29, x62_32, x62_33, x62_34, x62_37, x62_40, x62_43, x62_44, x62_45, x62_48, x62_49, x62_52, x62_53, x62_54, x62_55, x62_56, x62_59, x62_60, x62_61, x62_64, x62_65, x62_66, x62_67, x62_70, x62_71, x62_74, x62_77, x62_80, x62_83, x62_84, x62_87, x62_90, x62_93, x62_94, x62_95, x62_96, x62_97, x62_100, Option.toList_some, Option.toList_none, List.cons_append, List.nil_append, cat_i, cat_r, cat_n, cat_f, cs_n, cs_i, cs_r, cs_l, cs_f, Nat.reduceAdd, Nat.reduceLeDiff, Nat.zero_le, if_true, if_false, true_or, or_true, am_wr_at, Nat.reduceEqDiff, not_true_eq_false, not_false_eq_true, i_one, ite_not, bI_z, bI_nz, bI_t, bI_f, bI_or, Bool.false_eq_true, Bool.true_eq_false, reduceCtorEq, lt1, lt2, lt3, lt4, lt5, lt10, lt12, lt16, lt100, lt1000, bt1, bt2, bt3, bt4, bt5, bt10, bt12, bt16, bt100, bt1000, bt6, bt25, bt100000, s97, h0, h2, e1, e2, e3, e4], fun Q => by rw [n110]; simp only [x110_0, x110_1, x110_4, x110_7, x110_8, x110_9, x110_10, x110_13, x110_16, x110_19, x110_20, x110_21, x110_22, x110_23, x110_26, x110_27, x110_30, x110_33, x110_34, x110_35, x110_38, x110_39, x110_42, x110_45, x110_48, x110_51, x110_52, x110_53, x110_54, x110_57, x110_58, x110_61, x110_62, x110_63, x110_66, x110_67, x110_68, x110_71, x110_72, x110_75, x110_76, x110_77, x110_80, x110_81, x110_84, x110_85, x110_86, x110_88, x110_89, x110_92, x110_93, x110_96, x110_97, x110_98, x110_99, x110_102, x110_103, x110_104, x110_107, x110_108, x110_111, x110_112, x110_113, x110_114, x110_117, x110_118, x110_121, x110_122, x110_123, x110_124, x110_125, x110_127, x110_128, Option.toList_some, Option.toList_none, List.cons_append, List.nil_append, cat_i, cat_r, cat_n, cat_f, cs_n, cs_i, cs_r, cs_l, cs_f, Nat.reduceAdd, Nat.reduceLeDiff, Nat.zero_le, if_true, if_false, true_or, or_true, am_wr_at, Nat.reduceEqDiff, not_true_eq_false, not_false_eq_true, i_one, ite_not, bI_z, bI_nz, bI_t, bI_f, bI_or, Bool.false_eq_true, Bool.true_eq_false, reduceCtorEq, lt1, lt2, lt3, lt4, lt5, lt10, lt12, lt16, lt100, lt1000, bt1, bt2, bt3, bt4, bt5, bt10, bt12, bt16, bt100, bt1000, bt6, bt25, bt100000, s104, s106, h0, h2, e1, e2, e3, e4], hI⟩
      · have hww : ww = 0 ∨ ww = 1 := by omega
        have e2 : ¬ nI ww = 2 := by rcases hww with rfl | rfl <;> decide
        by_cases h2 : am_bt v.toInt64 (-1) 3 = true
        · have h3 := of_decide_eq_true h2
          rw [Int32.toInt_toInt64, show (-1 : Int64).toInt = -1 by decide, show (3 : Int64).toInt = 3 by decide] at h3
          have g1 : ¬ v < -1 := by
            intro q
            have := Int32.lt_iff_toInt_lt.mp q
            rw [show (-1 : Int32).toInt = -1 by decide] at this
            omega
          have g2 : ¬ 4 ≤ v := by
            intro q
            have := Int32.le_iff_toInt_le.mp q
            rw [show (4 : Int32).toInt = 4 by decide] at this
            omega
          have g2 : v < 4 := Int32.not_le.mp g2
          have g3 : rg (1 + v) 0 4 := by
            have : (1 + v).toInt = 1 + v.toInt := by
              rw [Int32.toInt_add, show (1 : Int32).toInt = 1 by decide]
              exact Int.bmod_eq_of_le (by omega) (by omega)
            exact ⟨by omega, by omega⟩
          rcases hww with rfl | rfl
          · have e1 : nI 0 = 0 := nI_0
            have e5 : am_in 0 3 = true := by decide
            have e6 : ¬ (0 : Int32) = 2 := by decide
            refine ⟨σ.1 5 bb, am_wr σ 5 (upd (σ.1 5) bb (1 + v)), am_wr (am_wr σ 5 (upd (σ.1 5) bb (1 + v))) 74 (upd (σ.1 74) bb v), ?_, ?_, Inv_row (i := 2) hI (by decide) hb (by simp [Int32.add_comm]) (by simp; exact g3)⟩
            · intro Q
              rw [n62]
              simp only [x62_0, x62_1, x62_3, x62_6, x62_9, x62_10, x62_11, x62_14, x62_17, x62_18, x62_19, x62_20, x62_21, x62_24, x62_25, x62_26, x62_29, x62_32, x62_33, x62_34, x62_37, x62_40, x62_43, x62_44, x62_45, x62_48, x62_49, x62_52, x62_53, x62_54, x62_55, x62_56, x62_59, x62_60, x62_61, x62_64, x62_65, x62_66, x62_67, x62_70, x62_71, x62_74, x62_77, x62_80, x62_83, x62_84, x62_87, x62_90, x62_93, x62_94, x62_95, x62_96, x62_97, x62_100, Option.toList_some, Option.toList_none, List.cons_append, List.nil_append, cat_i, cat_r, cat_n, cat_f, cs_n, cs_i, cs_r, cs_l, cs_f, Nat.reduceAdd, Nat.reduceLeDiff, Nat.zero_le, if_true, if_false, true_or, or_true, am_wr_at, Nat.reduceEqDiff, not_true_eq_false, not_false_eq_true, i_one, ite_not, bI_z, bI_nz, bI_t, bI_f, bI_or, Bool.false_eq_true, Bool.true_eq_false, reduceCtorEq, lt1, lt2, lt3, lt4, lt5, lt10, lt12, lt16, lt100, lt1000, bt1, bt2, bt3, bt4, bt5, bt10, bt12, bt16, bt100, bt1000, bt6, bt25, bt100000, st1, s97, s99, h0, e1, e5, e6, g1, g2, lc5, d0]
            · intro Q
              rw [n110, r2, Int32.add_comm (σ.1 74 bb) 1]
              simp only [x110_0, x110_1, x110_4, x110_7, x110_8, x110_9, x110_10, x110_13, x110_16, x110_19, x110_20, x110_21, x110_22, x110_23, x110_26, x110_27, x110_30, x110_33, x110_34, x110_35, x110_38, x110_39, x110_42, x110_45, x110_48, x110_51, x110_52, x110_53, x110_54, x110_57, x110_58, x110_61, x110_62, x110_63, x110_66, x110_67, x110_68, x110_71, x110_72, x110_75, x110_76, x110_77, x110_80, x110_81, x110_84, x110_85, x110_86, x110_88, x110_89, x110_92, x110_93, x110_96, x110_97, x110_98, x110_99, x110_102, x110_103, x110_104, x110_107, x110_108, x110_111, x110_112, x110_113, x110_114, x110_117, x110_118, x110_121, x110_122, x110_123, x110_124, x110_125, x110_127, x110_128, Option.toList_some, Option.toList_none, List.cons_append, List.nil_append, cat_i, cat_r, cat_n, cat_f, cs_n, cs_i, cs_r, cs_l, cs_f, Nat.reduceAdd, Nat.reduceLeDiff, Nat.zero_le, if_true, if_false, true_or, or_true, am_wr_at, Nat.reduceEqDiff, not_true_eq_false, not_false_eq_true, i_one, ite_not, bI_z, bI_nz, bI_t, bI_f, bI_or, Bool.false_eq_true, Bool.true_eq_false, reduceCtorEq, lt1, lt2, lt3, lt4, lt5, lt10, lt12, lt16, lt100, lt1000, bt1, bt2, bt3, bt4, bt5, bt10, bt12, bt16, bt100, bt1000, bt6, bt25, bt100000, s104, s106, h0, h2, e1, e5, e6, lc74, d0]
          · have e1 : nI 1 = 1 := rfl
            have e5 : am_in 1 3 = true := by decide
            have e6 : ¬ (1 : Int32) = 2 := by decide
            refine ⟨σ.1 6 bb, am_wr σ 6 (upd (σ.1 6) bb (1 + v)), am_wr (am_wr σ 6 (upd (σ.1 6) bb (1 + v))) 75 (upd (σ.1 75) bb v), ?_, ?_, Inv_row (i := 3) hI (by decide) hb (by simp [Int32.add_comm]) (by simp; exact g3)⟩
            · intro Q
              rw [n62]
              simp only [x62_0, x62_1, x62_3, x62_6, x62_9, x62_10, x62_11, x62_14, x62_17, x62_18, x62_19, x62_20, x62_21, x62_24, x62_25, x62_26, x62_29, x62_32, x62_33, x62_34, x62_37, x62_40, x62_43, x62_44, x62_45, x62_48, x62_49, x62_52, x62_53, x62_54, x62_55, x62_56, x62_59, x62_60, x62_61, x62_64, x62_65, x62_66, x62_67, x62_70, x62_71, x62_74, x62_77, x62_80, x62_83, x62_84, x62_87, x62_90, x62_93, x62_94, x62_95, x62_96, x62_97, x62_100, Option.toList_some, Option.toList_none, List.cons_append, List.nil_append, cat_i, cat_r, cat_n, cat_f, cs_n, cs_i, cs_r, cs_l, cs_f, Nat.reduceAdd, Nat.reduceLeDiff, Nat.zero_le, if_true, if_false, true_or, or_true, am_wr_at, Nat.reduceEqDiff, not_true_eq_false, not_false_eq_true, i_one, ite_not, bI_z, bI_nz, bI_t, bI_f, bI_or, Bool.false_eq_true, Bool.true_eq_false, reduceCtorEq, lt1, lt2, lt3, lt4, lt5, lt10, lt12, lt16, lt100, lt1000, bt1, bt2, bt3, bt4, bt5, bt10, bt12, bt16, bt100, bt1000, bt6, bt25, bt100000, st1, s97, s99, h0, e1, e5, e6, g1, g2, lc6, d0]
            · intro Q
              rw [n110, r3, Int32.add_comm (σ.1 75 bb) 1]
              simp only [x110_0, x110_1, x110_4, x110_7, x110_8, x110_9, x110_10, x110_13, x110_16, x110_19, x110_20, x110_21, x110_22, x110_23, x110_26, x110_27, x110_30, x110_33, x110_34, x110_35, x110_38, x110_39, x110_42, x110_45, x110_48, x110_51, x110_52, x110_53, x110_54, x110_57, x110_58, x110_61, x110_62, x110_63, x110_66, x110_67, x110_68, x110_71, x110_72, x110_75, x110_76, x110_77, x110_80, x110_81, x110_84, x110_85, x110_86, x110_88, x110_89, x110_92, x110_93, x110_96, x110_97, x110_98, x110_99, x110_102, x110_103, x110_104, x110_107, x110_108, x110_111, x110_112, x110_113, x110_114, x110_117, x110_118, x110_121, x110_122, x110_123, x110_124, x110_125, x110_127, x110_128, Option.toList_some, Option.toList_none, List.cons_append, List.nil_append, cat_i, cat_r, cat_n, cat_f, cs_n, cs_i, cs_r, cs_l, cs_f, Nat.reduceAdd, Nat.reduceLeDiff, Nat.zero_le, if_true, if_false, true_or, or_true, am_wr_at, Nat.reduceEqDiff, not_true_eq_false, not_false_eq_true, i_one, ite_not, bI_z, bI_nz, bI_t, bI_f, bI_or, Bool.false_eq_true, Bool.true_eq_false, reduceCtorEq, lt1, lt2, lt3, lt4, lt5, lt10, lt12, lt16, lt100, lt1000, bt1, bt2, bt3, bt4, bt5, bt10, bt12, bt16, bt100, bt1000, bt6, bt25, bt100000, s104, s106, h0, h2, e1, e5, e6, lc75, d0]
        · have h2 : am_bt v.toInt64 (-1) 3 = false := by simpa using h2
          have h3 : ¬ (-1 ≤ v.toInt ∧ v.toInt ≤ 3) := by
            have := of_decide_eq_false h2
            rw [Int32.toInt_toInt64, show (-1 : Int64).toInt = -1 by decide, show (3 : Int64).toInt = 3 by decide] at this
            exact this
          have g1 : v < -1 ∨ 4 ≤ v := by
            by_cases q : v < -1
            · exact Or.inl q
            · refine Or.inr (Int32.le_iff_toInt_le.mpr ?_)
              have := Int32.le_iff_toInt_le.mp (Int32.not_lt.mp q)
              rw [show (-1 : Int32).toInt = -1 by decide] at this
              rw [show (4 : Int32).toInt = 4 by decide]
              omega
          refine ⟨-1, σ, σ, fun Q => ?_, fun Q => ?_, hI⟩
          · rw [n62]
            by_cases q : v < -1
            · simp only [x62_0, x62_1, x62_3, x62_6, x62_9, x62_10, x62_11, x62_14, x62_17, x62_18, x62_19, x62_20, x62_21, x62_24, x62_25, x62_26, x62_29, x62_32, x62_33, x62_34, x62_37, x62_40, x62_43, x62_44, x62_45, x62_48, x62_49, x62_52, x62_53, x62_54, x62_55, x62_56, x62_59, x62_60, x62_61, x62_64, x62_65, x62_66, x62_67, x62_70, x62_71, x62_74, x62_77, x62_80, x62_83, x62_84, x62_87, x62_90, x62_93, x62_94, x62_95, x62_96, x62_97, x62_100, Option.toList_some, Option.toList_none, List.cons_append, List.nil_append, cat_i, cat_r, cat_n, cat_f, cs_n, cs_i, cs_r, cs_l, cs_f, Nat.reduceAdd, Nat.reduceLeDiff, Nat.zero_le, if_true, if_false, true_or, or_true, am_wr_at, Nat.reduceEqDiff, not_true_eq_false, not_false_eq_true, i_one, ite_not, bI_z, bI_nz, bI_t, bI_f, bI_or, Bool.false_eq_true, Bool.true_eq_false, reduceCtorEq, lt1, lt2, lt3, lt4, lt5, lt10, lt12, lt16, lt100, lt1000, bt1, bt2, bt3, bt4, bt5, bt10, bt12, bt16, bt100, bt1000, bt6, bt25, bt100000, s97, h0, h1, e2, q]
            · have q2 : ¬ v < 4 := Int32.not_lt.mpr (g1.resolve_left q)
              simp only [x62_0, x62_1, x62_3, x62_6, x62_9, x62_10, x62_11, x62_14, x62_17, x62_18, x62_19, x62_20, x62_21, x62_24, x62_25, x62_26, x62_29, x62_32, x62_33, x62_34, x62_37, x62_40, x62_43, x62_44, x62_45, x62_48, x62_49, x62_52, x62_53, x62_54, x62_55, x62_56, x62_59, x62_60, x62_61, x62_64, x62_65, x62_66, x62_67, x62_70, x62_71, x62_74, x62_77, x62_80, x62_83, x62_84, x62_87, x62_90, x62_93, x62_94, x62_95, x62_96, x62_97, x62_100, Option.toList_some, Option.toList_none, List.cons_append, List.nil_append, cat_i, cat_r, cat_n, cat_f, cs_n, cs_i, cs_r, cs_l, cs_f, Nat.reduceAdd, Nat.reduceLeDiff, Nat.zero_le, if_true, if_false, true_or, or_true, am_wr_at, Nat.reduceEqDiff, not_true_eq_false, not_false_eq_true, i_one, ite_not, bI_z, bI_nz, bI_t, bI_f, bI_or, Bool.false_eq_true, Bool.true_eq_false, reduceCtorEq, lt1, lt2, lt3, lt4, lt5, lt10, lt12, lt16, lt100, lt1000, bt1, bt2, bt3, bt4, bt5, bt10, bt12, bt16, bt100, bt1000, bt6, bt25, bt100000, s97, h0, h1, e2, q, q2]
          · rw [n110]
            simp only [x110_0, x110_1, x110_4, x110_7, x110_8, x110_9, x110_10, x110_13, x110_16, x110_19, x110_20, x110_21, x110_22, x110_23, x110_26, x110_27, x110_30, x110_33, x110_34, x110_35, x110_38, x110_39, x110_42, x110_45, x110_48, x110_51, x110_52, x110_53, x110_54, x110_57, x110_58, x110_61, x110_62, x110_63, x110_66, x110_67, x110_68, x110_71, x110_72, x110_75, x110_76, x110_77, x110_80, x110_81, x110_84, x110_85, x110_86, x110_88, x110_89, x110_92, x110_93, x110_96, x110_97, x110_98, x110_99, x110_102, x110_103, x110_104, x110_107, x110_108, x110_111, x110_112, x110_113, x110_114, x110_117, x110_118, x110_121, x110_122, x110_123, x110_124, x110_125, x110_127, x110_128, Option.toList_some, Option.toList_none, List.cons_append, List.nil_append, cat_i, cat_r, cat_n, cat_f, cs_n, cs_i, cs_r, cs_l, cs_f, Nat.reduceAdd, Nat.reduceLeDiff, Nat.zero_le, if_true, if_false, true_or, or_true, am_wr_at, Nat.reduceEqDiff, not_true_eq_false, not_false_eq_true, i_one, ite_not, bI_z, bI_nz, bI_t, bI_f, bI_or, Bool.false_eq_true, Bool.true_eq_false, reduceCtorEq, lt1, lt2, lt3, lt4, lt5, lt10, lt12, lt16, lt100, lt1000, bt1, bt2, bt3, bt4, bt5, bt10, bt12, bt16, bt100, bt1000, bt6, bt25, bt100000, s104, s106, h0, h1, h2, e2]
    · have h1 : am_in w 3 = false := by simpa using h1
      refine ⟨-1, σ, σ, fun Q => by rw [n62]; simp only [x62_0, x62_1, x62_3, x62_6, x62_9, x62_10, x62_11, x62_14, x62_17, x62_18, x62_19, x62_20, x62_21, x62_24, x62_25, x62_26, x62_29, x62_32, x62_33, x62_34, x62_37, x62_40, x62_43, x62_44, x62_45, x62_48, x62_49, x62_52, x62_53, x62_54, x62_55, x62_56, x62_59, x62_60, x62_61, x62_64, x62_65, x62_66, x62_67, x62_70, x62_71, x62_74, x62_77, x62_80, x62_83, x62_84, x62_87, x62_90, x62_93, x62_94, x62_95, x62_96, x62_97, x62_100, Option.toList_some, Option.toList_none, List.cons_append, List.nil_append, cat_i, cat_r, cat_n, cat_f, cs_n, cs_i, cs_r, cs_l, cs_f, Nat.reduceAdd, Nat.reduceLeDiff, Nat.zero_le, if_true, if_false, true_or, or_true, am_wr_at, Nat.reduceEqDiff, not_true_eq_false, not_false_eq_true, i_one, ite_not, bI_z, bI_nz, bI_t, bI_f, bI_or, Bool.false_eq_true, Bool.true_eq_false, reduceCtorEq, lt1, lt2, lt3, lt4, lt5, lt10, lt12, lt16, lt100, lt1000, bt1, bt2, bt3, bt4, bt5, bt10, bt12, bt16, bt100, bt1000, bt6, bt25, bt100000, s97, h0, h1], fun Q => by rw [n110]; simp only [x110_0, x110_1, x110_4, x110_7, x110_8, x110_9, x110_10, x110_13, x110_16, x110_19, x110_20, x110_21, x110_22, x110_23, x110_26, x110_27, x110_30, x110_33, x110_34, x110_35, x110_38, x110_39, x110_42, x110_45, x110_48, x110_51, x110_52, x110_53, x110_54, x110_57, x110_58, x110_61, x110_62, x110_63, x110_66, x110_67, x110_68, x110_71, x110_72, x110_75, x110_76, x110_77, x110_80, x110_81, x110_84, x110_85, x110_86, x110_88, x110_89, x110_92, x110_93, x110_96, x110_97, x110_98, x110_99, x110_102, x110_103, x110_104, x110_107, x110_108, x110_111, x110_112, x110_113, x110_114, x110_117, x110_118, x110_121, x110_122, x110_123, x110_124, x110_125, x110_127, x110_128, Option.toList_some, Option.toList_none, List.cons_append, List.nil_append, cat_i, cat_r, cat_n, cat_f, cs_n, cs_i, cs_r, cs_l, cs_f, Nat.reduceAdd, Nat.reduceLeDiff, Nat.zero_le, if_true, if_false, true_or, or_true, am_wr_at, Nat.reduceEqDiff, not_true_eq_false, not_false_eq_true, i_one, ite_not, bI_z, bI_nz, bI_t, bI_f, bI_or, Bool.false_eq_true, Bool.true_eq_false, reduceCtorEq, lt1, lt2, lt3, lt4, lt5, lt10, lt12, lt16, lt100, lt1000, bt1, bt2, bt3, bt4, bt5, bt10, bt12, bt16, bt100, bt1000, bt6, bt25, bt100000, s104, s106, h0, h1], hI⟩
  · have h0 : am_in b 16 = false := by simpa using h0
    exact ⟨-1, σ, σ, fun Q => by rw [n62]; simp only [x62_0, x62_1, x62_3, x62_6, x62_9, x62_10, x62_11, x62_14, x62_17, x62_18, x62_19, x62_20, x62_21, x62_24, x62_25, x62_26, x62_29, x62_32, x62_33, x62_34, x62_37, x62_40, x62_43, x62_44, x62_45, x62_48, x62_49, x62_52, x62_53, x62_54, x62_55, x62_56, x62_59, x62_60, x62_61, x62_64, x62_65, x62_66, x62_67, x62_70, x62_71, x62_74, x62_77, x62_80, x62_83, x62_84, x62_87, x62_90, x62_93, x62_94, x62_95, x62_96, x62_97, x62_100, Option.toList_some, Option.toList_none, List.cons_append, List.nil_append, cat_i, cat_r, cat_n, cat_f, cs_n, cs_i, cs_r, cs_l, cs_f, Nat.reduceAdd, Nat.reduceLeDiff, Nat.zero_le, if_true, if_false, true_or, or_true, am_wr_at, Nat.reduceEqDiff, not_true_eq_false, not_false_eq_true, i_one, ite_not, bI_z, bI_nz, bI_t, bI_f, bI_or, Bool.false_eq_true, Bool.true_eq_false, reduceCtorEq, lt1, lt2, lt3, lt4, lt5, lt10, lt12, lt16, lt100, lt1000, bt1, bt2, bt3, bt4, bt5, bt10, bt12, bt16, bt100, bt1000, bt6, bt25, bt100000, s97, h0], fun Q => by rw [n110]; simp only [x110_0, x110_1, x110_4, x110_7, x110_8, x110_9, x110_10, x110_13, x110_16, x110_19, x110_20, x110_21, x110_22, x110_23, x110_26, x110_27, x110_30, x110_33, x110_34, x110_35, x110_38, x110_39, x110_42, x110_45, x110_48, x110_51, x110_52, x110_53, x110_54, x110_57, x110_58, x110_61, x110_62, x110_63, x110_66, x110_67, x110_68, x110_71, x110_72, x110_75, x110_76, x110_77, x110_80, x110_81, x110_84, x110_85, x110_86, x110_88, x110_89, x110_92, x110_93, x110_96, x110_97, x110_98, x110_99, x110_102, x110_103, x110_104, x110_107, x110_108, x110_111, x110_112, x110_113, x110_114, x110_117, x110_118, x110_121, x110_122, x110_123, x110_124, x110_125, x110_127, x110_128, Option.toList_some, Option.toList_none, List.cons_append, List.nil_append, cat_i, cat_r, cat_n, cat_f, cs_n, cs_i, cs_r, cs_l, cs_f, Nat.reduceAdd, Nat.reduceLeDiff, Nat.zero_le, if_true, if_false, true_or, or_true, am_wr_at, Nat.reduceEqDiff, not_true_eq_false, not_false_eq_true, i_one, ite_not, bI_z, bI_nz, bI_t, bI_f, bI_or, Bool.false_eq_true, Bool.true_eq_false, reduceCtorEq, lt1, lt2, lt3, lt4, lt5, lt10, lt12, lt16, lt100, lt1000, bt1, bt2, bt3, bt4, bt5, bt10, bt12, bt16, bt100, bt1000, bt6, bt25, bt100000, s104, s106, h0], hI⟩
/-- habit -/
theorem sim3 (h50 : (sv 0).1 = 5) (h5 : ∀ j, j < 5 → (sv 0).2 j = if j = 4 then 10 else 9) : ∀ x0 x1 : Int32, SimOK sv Inv 64 112 [.int x0, .int x1] := by
  intro w v σ hI
  obtain ⟨hv, hok, hT, hS, hM⟩ := id hI
  by_cases h1 : am_in w 5 = true
  · obtain ⟨ww, hw, rfl⟩ := in_nI h1 (by decide)
    have d0 : (nI ww).toNatClampNeg = ww := nI_clamp (by omega)
    have r5 : σ.1 20 ww = σ.1 77 ww := by
      have := congrFun (congrFun hv 5) ww
      simpa only [cV, mV, hw, if_true] using this
    have hlim : (sv 0).2 ww = if nI ww = 4 then 10 else 9 := by
      rw [h5 ww hw]
      rcases (show ww = 0 ∨ ww = 1 ∨ ww = 2 ∨ ww = 3 ∨ ww = 4 by omega) with rfl | rfl | rfl | rfl | rfl <;> decide
    have h1s : am_in (nI ww) (sv 0).1 = true := by rw [h50]; exact h1
    by_cases h2 : rg v 0 (if ww = 4 then 10 else 9)
    · have g1 : ¬ v < 0 := by
        intro q
        have := Int32.lt_iff_toInt_lt.mp q
        rw [show (0 : Int32).toInt = 0 by decide] at this
        have := h2.1
        omega
      have e4 : (nI ww = 4) = (ww = 4) := by
        apply propext
        exact nI_eq (by omega) (by decide)
      have g2 : v ≤ (sv 0).2 ww := by
        rw [hlim]
        apply Int32.le_iff_toInt_le.mpr
        simp only [e4]
        have := h2.2
        by_cases q : ww = 4
        · simp only [q, if_true] at this ⊢
          exact this
        · simp only [q, if_false] at this ⊢
          exact this
      refine ⟨σ.1 20 ww, am_wr σ 20 (upd (σ.1 20) ww v), am_wr (am_wr σ 20 (upd (σ.1 20) ww v)) 77 (upd (σ.1 77) ww v), ?_, ?_, ?_⟩
      · intro Q
        rw [n64]
        simp only [x64_0, x64_1, x64_2, x64_5, x64_8, x64_9, x64_12, x64_13, x64_16, x64_17, x64_17s, x64_18, x64_21, x64_22, x64_23, x64_24, x64_27, x64_30, x64_31, x64_32, x64_35, Option.toList_some, Option.toList_none, List.cons_append, List.nil_append, cat_i, cat_r, cat_n, cat_f, cs_n, cs_i, cs_r, cs_l, cs_f, Nat.reduceAdd, Nat.reduceLeDiff, Nat.zero_le, if_true, if_false, true_or, or_true, am_wr_at, Nat.reduceEqDiff, not_true_eq_false, not_false_eq_true, i_one, ite_not, bI_z, bI_nz, bI_t, bI_f, bI_or, Bool.false_eq_true, Bool.true_eq_false, reduceCtorEq, lt1, lt2, lt3, lt4, lt5, lt10, lt12, lt16, lt100, lt1000, bt1, bt2, bt3, bt4, bt5, bt10, bt12, bt16, bt100, bt1000, bt6, bt25, bt100000, st1, s97, s99, h1, h1s, d0, g1, g2, lc20]
        done
      · intro Q
        rw [n112, r5]
        by_cases q : ww = 4
        · subst q
          have z1 : nI 4 = 4 := rfl
          have z2 : am_in 4 5 = true := by decide
          have z3 : (4 : Int32).toNatClampNeg = 4 := by decide
          have z4 : am_bt v.toInt64 0 10 = true := by rw [bt_in (k := 11) (by decide)]; exact rg_in h2
          simp only [x112_0, x112_1, x112_2, x112_3, x112_6, x112_9, x112_12, x112_13, x112_14, x112_15, x112_16, x112_17, x112_20, x112_23, x112_26, x112_29, x112_32, x112_35, x112_36, x112_37, x112_38, x112_41, x112_42, x112_43, x112_44, x112_45, x112_48, x112_49, x112_50, x112_51, x112_52, Option.toList_some, Option.toList_none, List.cons_append, List.nil_append, cat_i, cat_r, cat_n, cat_f, cs_n, cs_i, cs_r, cs_l, cs_f, Nat.reduceAdd, Nat.reduceLeDiff, Nat.zero_le, if_true, if_false, true_or, or_true, am_wr_at, Nat.reduceEqDiff, not_true_eq_false, not_false_eq_true, i_one, ite_not, bI_z, bI_nz, bI_t, bI_f, bI_or, Bool.false_eq_true, Bool.true_eq_false, reduceCtorEq, lt1, lt2, lt3, lt4, lt5, lt10, lt12, lt16, lt100, lt1000, bt1, bt2, bt3, bt4, bt5, bt10, bt12, bt16, bt100, bt1000, bt6, bt25, bt100000, s104, z1, z2, z3, z4, lc77]
        · have z1 : ¬ nI ww = 4 := by rw [e4]; exact q
          have z4 : am_in v 10 = true := by
            simp only [q, if_false] at h2
            exact rg_in h2
          simp only [x112_0, x112_1, x112_2, x112_3, x112_6, x112_9, x112_12, x112_13, x112_14, x112_15, x112_16, x112_17, x112_20, x112_23, x112_26, x112_29, x112_32, x112_35, x112_36, x112_37, x112_38, x112_41, x112_42, x112_43, x112_44, x112_45, x112_48, x112_49, x112_50, x112_51, x112_52, Option.toList_some, Option.toList_none, List.cons_append, List.nil_append, cat_i, cat_r, cat_n, cat_f, cs_n, cs_i, cs_r, cs_l, cs_f, Nat.reduceAdd, Nat.reduceLeDiff, Nat.zero_le, if_true, if_false, true_or, or_true, am_wr_at, Nat.reduceEqDiff, not_true_eq_false, not_false_eq_true, i_one, ite_not, bI_z, bI_nz, bI_t, bI_f, bI_or, Bool.false_eq_true, Bool.true_eq_false, reduceCtorEq, lt1, lt2, lt3, lt4, lt5, lt10, lt12, lt16, lt100, lt1000, bt1, bt2, bt3, bt4, bt5, bt10, bt12, bt16, bt100, bt1000, bt6, bt25, bt100000, s104, h1, z1, z4, lc77, d0]
      · have e1 : (am_wr σ 20 (upd (σ.1 20) ww v)).1 77 = σ.1 77 := am_wr_ne (by decide)
        refine Inv_mk (V := vset (mV σ) 5 ww v) hI ⟨?_, ?_, ?_, ?_, ?_, ?_, ?_, ?_, ?_, ?_, ?_, ?_, ?_, fun k q1 q2 => ?_⟩ ?_ ?_ (okV_set hok (by simp; exact h2))
        iterate 14 first | rw [am_wr_ne (by omega), am_wr_ne (by omega)]
        · rw [cV_of (σ := am_wr σ 20 (upd (σ.1 20) ww v)) (fun k q1 q2 => am_wr_ne (by omega)) (by rw [am_wr_ne (by omega)]), ← hv]
          exact cV_law (a := 1) hw
        · have h2 := mV_law (σ := am_wr σ 20 (upd (σ.1 20) ww v)) (x := v) hw
          rw [e1] at h2
          rw [h2, mV_of (σ := σ) (fun k q1 q2 => am_wr_ne (by omega)) ⟨am_wr_ne (by omega), am_wr_ne (by omega), am_wr_ne (by omega)⟩ ⟨by rw [am_wr_ne (by omega)], by rw [am_wr_ne (by omega)], by rw [am_wr_ne (by omega)], by rw [am_wr_ne (by omega)]⟩]
    · have e4 : (nI ww = 4) = (ww = 4) := by
        apply propext
        exact nI_eq (by omega) (by decide)
      refine ⟨-1, σ, σ, fun Q => ?_, fun Q => ?_, hI⟩
      · rw [n64]
        by_cases q : v < 0
        · simp only [x64_0, x64_1, x64_2, x64_5, x64_8, x64_9, x64_12, x64_13, x64_16, x64_17, x64_17s, x64_18, x64_21, x64_22, x64_23, x64_24, x64_27, x64_30, x64_31, x64_32, x64_35, Option.toList_some, Option.toList_none, List.cons_append, List.nil_append, cat_i, cat_r, cat_n, cat_f, cs_n, cs_i, cs_r, cs_l, cs_f, Nat.reduceAdd, Nat.reduceLeDiff, Nat.zero_le, if_true, if_false, true_or, or_true, am_wr_at, Nat.reduceEqDiff, not_true_eq_false, not_false_eq_true, i_one, ite_not, bI_z, bI_nz, bI_t, bI_f, bI_or, Bool.false_eq_true, Bool.true_eq_false, reduceCtorEq, lt1, lt2, lt3, lt4, lt5, lt10, lt12, lt16, lt100, lt1000, bt1, bt2, bt3, bt4, bt5, bt10, bt12, bt16, bt100, bt1000, bt6, bt25, bt100000, s97, h1, q]
        · have g2 : ¬ v ≤ (sv 0).2 ww := by
            intro q2
            apply h2
            have q3 := Int32.le_iff_toInt_le.mp (Int32.not_lt.mp q)
            have q4 := Int32.le_iff_toInt_le.mp q2
            rw [hlim] at q4
            simp only [e4] at q4
            refine ⟨q3, ?_⟩
            by_cases q5 : ww = 4
            · simp only [q5, if_true] at q4 ⊢
              exact q4
            · simp only [q5, if_false] at q4 ⊢
              exact q4
          simp only [x64_0, x64_1, x64_2, x64_5, x64_8, x64_9, x64_12, x64_13, x64_16, x64_17, x64_17s, x64_18, x64_21, x64_22, x64_23, x64_24, x64_27, x64_30, x64_31, x64_32, x64_35, Option.toList_some, Option.toList_none, List.cons_append, List.nil_append, cat_i, cat_r, cat_n, cat_f, cs_n, cs_i, cs_r, cs_l, cs_f, Nat.reduceAdd, Nat.reduceLeDiff, Nat.zero_le, if_true, if_false, true_or, or_true, am_wr_at, Nat.reduceEqDiff, not_true_eq_false, not_false_eq_true, i_one, ite_not, bI_z, bI_nz, bI_t, bI_f, bI_or, Bool.false_eq_true, Bool.true_eq_false, reduceCtorEq, lt1, lt2, lt3, lt4, lt5, lt10, lt12, lt16, lt100, lt1000, bt1, bt2, bt3, bt4, bt5, bt10, bt12, bt16, bt100, bt1000, bt6, bt25, bt100000, st1, s97, h1, h1s, d0, q, g2, lc20]
      · rw [n112]
        by_cases q : ww = 4
        · subst q
          have z1 : nI 4 = 4 := rfl
          have z2 : am_in 4 5 = true := by decide
          have z4 : am_bt v.toInt64 0 10 = false := by
            rw [bt_in (k := 11) (by decide)]
            apply decide_eq_false
            intro q2
            exact h2 ⟨q2.1, by have := q2.2; simp; omega⟩
          simp only [x112_0, x112_1, x112_2, x112_3, x112_6, x112_9, x112_12, x112_13, x112_14, x112_15, x112_16, x112_17, x112_20, x112_23, x112_26, x112_29, x112_32, x112_35, x112_36, x112_37, x112_38, x112_41, x112_42, x112_43, x112_44, x112_45, x112_48, x112_49, x112_50, x112_51, x112_52, Option.toList_some, Option.toList_none, List.cons_append, List.nil_append, cat_i, cat_r, cat_n, cat_f, cs_n, cs_i, cs_r, cs_l, cs_f, Nat.reduceAdd, Nat.reduceLeDiff, Nat.zero_le, if_true, if_false, true_or, or_true, am_wr_at, Nat.reduceEqDiff, not_true_eq_false, not_false_eq_true, i_one, ite_not, bI_z, bI_nz, bI_t, bI_f, bI_or, Bool.false_eq_true, Bool.true_eq_false, reduceCtorEq, lt1, lt2, lt3, lt4, lt5, lt10, lt12, lt16, lt100, lt1000, bt1, bt2, bt3, bt4, bt5, bt10, bt12, bt16, bt100, bt1000, bt6, bt25, bt100000, s104, z1, z2, z4]
        · have z1 : ¬ nI ww = 4 := by rw [e4]; exact q
          have z4 : am_in v 10 = false := by
            apply decide_eq_false
            intro q2
            exact h2 ⟨q2.1, by have := q2.2; simp [q]; omega⟩
          simp only [x112_0, x112_1, x112_2, x112_3, x112_6, x112_9, x112_12, x112_13, x112_14, x112_15, x112_16, x112_17, x112_20, x112_23, x112_26, x112_29, x112_32, x112_35, x112_36, x112_37, x112_38, x112_41, x112_42, x112_43, x112_44, x112_45, x112_48, x112_49, x112_50, x112_51, x112_52, Option.toList_some, Option.toList_none, List.cons_append, List.nil_append, cat_i, cat_r, cat_n, cat_f, cs_n, cs_i, cs_r, cs_l, cs_f, Nat.reduceAdd, Nat.reduceLeDiff, Nat.zero_le, if_true, if_false, true_or, or_true, am_wr_at, Nat.reduceEqDiff, not_true_eq_false, not_false_eq_true, i_one, ite_not, bI_z, bI_nz, bI_t, bI_f, bI_or, Bool.false_eq_true, Bool.true_eq_false, reduceCtorEq, lt1, lt2, lt3, lt4, lt5, lt10, lt12, lt16, lt100, lt1000, bt1, bt2, bt3, bt4, bt5, bt10, bt12, bt16, bt100, bt1000, bt6, bt25, bt100000, s104, h1, z1, z4]
  · have h1 : am_in w 5 = false := by simpa using h1
    exact ⟨-1, σ, σ, fun Q => by rw [n64]; simp only [x64_0, x64_1, x64_2, x64_5, x64_8, x64_9, x64_12, x64_13, x64_16, x64_17, x64_17s, x64_18, x64_21, x64_22, x64_23, x64_24, x64_27, x64_30, x64_31, x64_32, x64_35, Option.toList_some, Option.toList_none, List.cons_append, List.nil_append, cat_i, cat_r, cat_n, cat_f, cs_n, cs_i, cs_r, cs_l, cs_f, Nat.reduceAdd, Nat.reduceLeDiff, Nat.zero_le, if_true, if_false, true_or, or_true, am_wr_at, Nat.reduceEqDiff, not_true_eq_false, not_false_eq_true, i_one, ite_not, bI_z, bI_nz, bI_t, bI_f, bI_or, Bool.false_eq_true, Bool.true_eq_false, reduceCtorEq, lt1, lt2, lt3, lt4, lt5, lt10, lt12, lt16, lt100, lt1000, bt1, bt2, bt3, bt4, bt5, bt10, bt12, bt16, bt100, bt1000, bt6, bt25, bt100000, s97, h1], fun Q => by rw [n112]; simp only [x112_0, x112_1, x112_2, x112_3, x112_6, x112_9, x112_12, x112_13, x112_14, x112_15, x112_16, x112_17, x112_20, x112_23, x112_26, x112_29, x112_32, x112_35, x112_36, x112_37, x112_38, x112_41, x112_42, x112_43, x112_44, x112_45, x112_48, x112_49, x112_50, x112_51, x112_52, Option.toList_some, Option.toList_none, List.cons_append, List.nil_append, cat_i, cat_r, cat_n, cat_f, cs_n, cs_i, cs_r, cs_l, cs_f, Nat.reduceAdd, Nat.reduceLeDiff, Nat.zero_le, if_true, if_false, true_or, or_true, am_wr_at, Nat.reduceEqDiff, not_true_eq_false, not_false_eq_true, i_one, ite_not, bI_z, bI_nz, bI_t, bI_f, bI_or, Bool.false_eq_true, Bool.true_eq_false, reduceCtorEq, lt1, lt2, lt3, lt4, lt5, lt10, lt12, lt16, lt100, lt1000, bt1, bt2, bt3, bt4, bt5, bt10, bt12, bt16, bt100, bt1000, bt6, bt25, bt100000, s104, h1], hI⟩
end I44
