/-! SIMULATIONS: clear, doubt -/
def vclr (V : Nat → Nat → Int32) : Nat → Nat → Int32 := fun i j => if (i = 9 ∧ (j = 2 ∨ j = 3)) ∨ 10 ≤ i then 0 else V i j
theorem z32 : (0 : Int32).toNatClampNeg = 0 := by decide
theorem cV_clr {σ : am_S} {a : Nat} : cV (am_wr (am_wr σ (a + 11) (upd (σ.1 (a + 11)) 4 0)) (a + 16) (upd (σ.1 (a + 16)) 2 0)) a = vclr (cV σ a) := by
  funext i j
  unfold vclr cV
  simp only [am_wr_at, upd_at, Nat.reduceEqDiff, if_true, if_false, z32, Nat.not_lt_zero]
  by_cases h10 : 10 ≤ i
  · simp [h10]
    split <;> first | rfl | omega | simp_all
  · by_cases e9 : i = 9
    · subst e9
      match j with
      | 0 => simp
      | 1 => simp
      | 2 => simp [upd_at]
      | 3 => simp [upd_at]
      | j + 4 => simp
    · simp [e9, h10]
      split <;> first | rfl | omega | simp_all
theorem mV_clr {σ : am_S} : mV (am_wr σ 71 (upd (upd (σ.1 71) 16 0) 19 0)) = vclr (mV σ) := by
  funext i j
  unfold vclr mV
  simp only [am_wr_at, upd_at, Nat.reduceEqDiff, if_true, if_false, z32, Nat.not_lt_zero]
  by_cases h10 : 10 ≤ i
  · simp [h10]
    split <;> first | rfl | omega | simp_all
  · by_cases e9 : i = 9
    · subst e9
      match j with
      | 0 => simp
      | 1 => simp
      | 2 => simp [upd_at]
      | 3 => simp [upd_at]
      | j + 4 => simp
    · simp [e9, h10]
      split <;> first | rfl | omega | simp_all
theorem okV_clr {V : Nat → Nat → Int32} (h : okV V) : okV (vclr V) := by
  obtain ⟨o1, o2, o3, o4, o5, o6, o7, o8, o9⟩ := h
  refine ⟨o1, o2, o3, o4, (show rg 0 0 8 from ⟨by decide, by decide⟩), (show rg 0 0 24 from ⟨by decide, by decide⟩), o7, fun j hj => ?_, fun j hj => ?_⟩
  · have : j < (0 : Int32).toNatClampNeg := hj
    rw [z32] at this
    omega
  · have : j < (0 : Int32).toNatClampNeg := hj
    rw [z32] at this
    omega
theorem cV_dbt {σ : am_S} {a w : Nat} {x : Int32} (hw : w < (σ.1 (a + 7) 3).toNatClampNeg) : cV (am_wr σ (a + 10) (upd (σ.1 (a + 10)) w x)) a = vset (cV σ a) 8 w x := by
  funext i' j'
  unfold vset cV
  by_cases h9 : i' = 8
  · subst h9
    simp [am_wr_at, upd_at] <;> (by_cases h : j' = w <;> simp_all)
  · simp [am_wr_at, upd_at, h9]
    split <;> first | rfl | simp_all
theorem mV_dbt {σ : am_S} {w : Nat} {x : Int32} (hw : w < (σ.1 71 7).toNatClampNeg) : mV (am_wr σ 78 (upd (σ.1 78) (3 * w + 2) x)) = vset (mV σ) 8 w x := by
  have f1 : ∀ j, (3 * j = 3 * w + 2) = False := fun j => eq_false (by omega)
  have f2 : ∀ j, (3 * j + 1 = 3 * w + 2) = False := fun j => eq_false (by omega)
  have f3 : ∀ j, (3 * j + 2 = 3 * w + 2) = (j = w) := fun j => propext ⟨fun h => by omega, fun h => by omega⟩
  funext i' j'
  unfold vset mV
  simp only [am_wr_at, upd_at, Nat.reduceEqDiff, if_true, if_false, f1, f2, f3]
  by_cases h9 : i' = 8
  · subst h9
    by_cases h : j' = w
    · subst h
      simp [hw]
    · simp [h]
  · simp [h9]
    split <;> first | rfl | simp_all
theorem okV_dbt {V : Nat → Nat → Int32} {w : Nat} {x : Int32} (h : okV V) (hx : rg x 0 9) (hk : ¬ V 7 w = 0) : okV (vset V 8 w x) := by
  obtain ⟨o1, o2, o3, o4, o5, o6, o7, o8, o9⟩ := h
  refine ⟨o1, o2, o3, o4, o5, o6, fun j hj => ?_, o8, o9⟩
  obtain ⟨q1, q2, q3, q4, q5⟩ := o7 j hj
  refine ⟨q1, q2, ?_, fun e => ?_, q5⟩
  · show rg (if j = w then x else V 8 j) 0 9
    split <;> assumption
  · have e : V 7 j = 0 := e
    show (if j = w then x else V 8 j) = 3
    by_cases c : j = w
    · subst c; exact absurd e hk
    · rw [if_neg c]; exact q4 e
section I49
variable {sv : am_V} {h : am_H} {σ : am_S} {Q : Option Value → am_H → Prop} {x y : Int32}
/-- clear -/
theorem sim28 : SimOK sv Inv 89 157 [] := by
  intro σ hI
  have e2 : σ.1 12 4 = σ.1 71 16 := congrFun (congrFun hI.1 9) 2
  have e3 : σ.1 17 2 = σ.1 71 19 := congrFun (congrFun hI.1 9) 3
  refine ⟨σ.1 71 16 + σ.1 71 19, am_wr (am_wr σ 12 (upd (σ.1 12) 4 0)) 17 (upd (σ.1 17) 2 0), am_wr (am_wr (am_wr σ 12 (upd (σ.1 12) 4 0)) 17 (upd (σ.1 17) 2 0)) 71 (upd (upd (σ.1 71) 16 0) 19 0), fun Q => ?_, fun Q => ?_, ?_⟩
  · rw [n89]
    simp only [x89_0, x89_1, x89_4, x89_7, x89_10, x89_11, x89_14, x89_17, x89_20, x89_21, x89_22, x89_23, x89_26, x89_29, x89_30, x89_33, x89_34, x89_37, x89_40, x89_41, x89_44, x89_45, Option.toList_some, Option.toList_none, List.cons_append, List.nil_append, cat_i, cat_r, cat_n, cat_f, cs_n, cs_i, cs_r, cs_l, cs_f, Nat.reduceAdd, Nat.reduceLeDiff, Nat.zero_le, if_true, if_false, true_or, or_true, am_wr_at, Nat.reduceEqDiff, not_true_eq_false, not_false_eq_true, i_one, ite_not, bI_z, bI_nz, bI_t, bI_f, bI_or, Bool.false_eq_true, Bool.true_eq_false, reduceCtorEq, st1, e2, e3]
  · rw [n157]
    simp only [x157_0, x157_1, x157_4, x157_5, x157_8, x157_9, x157_10, x157_11, x157_12, x157_15, x157_16, x157_17, x157_20, x157_21, Option.toList_some, Option.toList_none, List.cons_append, List.nil_append, cat_i, cat_r, cat_n, cat_f, cs_n, cs_i, cs_r, cs_l, cs_f, Nat.reduceAdd, Nat.reduceLeDiff, Nat.zero_le, if_true, if_false, true_or, or_true, am_wr_at, Nat.reduceEqDiff, not_true_eq_false, not_false_eq_true, i_one, ite_not, bI_z, bI_nz, bI_t, bI_f, bI_or, Bool.false_eq_true, Bool.true_eq_false, reduceCtorEq, am_wr_wr]
  · refine Inv_mk (V := vclr (mV σ)) hI ⟨?_, ?_, ?_, ?_, ?_, ?_, ?_, ?_, ?_, ?_, ?_, ?_, ?_, fun k q1 q2 => ?_⟩ ?_ ?_ (okV_clr hI.2.1)
    iterate 13 (simp only [Option.toList_some, Option.toList_none, List.cons_append, List.nil_append, cat_i, cat_r, cat_n, cat_f, cs_n, cs_i, cs_r, cs_l, cs_f, Nat.reduceAdd, Nat.reduceLeDiff, Nat.zero_le, if_true, if_false, true_or, or_true, am_wr_at, Nat.reduceEqDiff, not_true_eq_false, not_false_eq_true, i_one, ite_not, bI_z, bI_nz, bI_t, bI_f, bI_or, Bool.false_eq_true, Bool.true_eq_false, reduceCtorEq, upd_at])
    · rw [am_wr_ne (by omega), am_wr_ne (by omega), am_wr_ne (by omega)]
    · rw [← hI.1, cV_of (σ := am_wr (am_wr σ 12 (upd (σ.1 12) 4 0)) 17 (upd (σ.1 17) 2 0)) (fun k q1 q2 => am_wr_ne (by omega)) (by rw [am_wr_ne (by omega)])]
      exact cV_clr (a := 1)
    · have h2 := mV_clr (σ := am_wr (am_wr σ 12 (upd (σ.1 12) 4 0)) 17 (upd (σ.1 17) 2 0))
      simp only [Option.toList_some, Option.toList_none, List.cons_append, List.nil_append, cat_i, cat_r, cat_n, cat_f, cs_n, cs_i, cs_r, cs_l, cs_f, Nat.reduceAdd, Nat.reduceLeDiff, Nat.zero_le, if_true, if_false, true_or, or_true, am_wr_at, Nat.reduceEqDiff, not_true_eq_false, not_false_eq_true, i_one, ite_not, bI_z, bI_nz, bI_t, bI_f, bI_or, Bool.false_eq_true, Bool.true_eq_false, reduceCtorEq] at h2
      rw [h2, mV_of (σ := σ) (fun k q1 q2 => by rw [am_wr_ne (by omega), am_wr_ne (by omega)]) ⟨by simp only [Option.toList_some, Option.toList_none, List.cons_append, List.nil_append, cat_i, cat_r, cat_n, cat_f, cs_n, cs_i, cs_r, cs_l, cs_f, Nat.reduceAdd, Nat.reduceLeDiff, Nat.zero_le, if_true, if_false, true_or, or_true, am_wr_at, Nat.reduceEqDiff, not_true_eq_false, not_false_eq_true, i_one, ite_not, bI_z, bI_nz, bI_t, bI_f, bI_or, Bool.false_eq_true, Bool.true_eq_false, reduceCtorEq], by simp only [Option.toList_some, Option.toList_none, List.cons_append, List.nil_append, cat_i, cat_r, cat_n, cat_f, cs_n, cs_i, cs_r, cs_l, cs_f, Nat.reduceAdd, Nat.reduceLeDiff, Nat.zero_le, if_true, if_false, true_or, or_true, am_wr_at, Nat.reduceEqDiff, not_true_eq_false, not_false_eq_true, i_one, ite_not, bI_z, bI_nz, bI_t, bI_f, bI_or, Bool.false_eq_true, Bool.true_eq_false, reduceCtorEq], by simp only [Option.toList_some, Option.toList_none, List.cons_append, List.nil_append, cat_i, cat_r, cat_n, cat_f, cs_n, cs_i, cs_r, cs_l, cs_f, Nat.reduceAdd, Nat.reduceLeDiff, Nat.zero_le, if_true, if_false, true_or, or_true, am_wr_at, Nat.reduceEqDiff, not_true_eq_false, not_false_eq_true, i_one, ite_not, bI_z, bI_nz, bI_t, bI_f, bI_or, Bool.false_eq_true, Bool.true_eq_false, reduceCtorEq]⟩ ⟨by simp only [Option.toList_some, Option.toList_none, List.cons_append, List.nil_append, cat_i, cat_r, cat_n, cat_f, cs_n, cs_i, cs_r, cs_l, cs_f, Nat.reduceAdd, Nat.reduceLeDiff, Nat.zero_le, if_true, if_false, true_or, or_true, am_wr_at, Nat.reduceEqDiff, not_true_eq_false, not_false_eq_true, i_one, ite_not, bI_z, bI_nz, bI_t, bI_f, bI_or, Bool.false_eq_true, Bool.true_eq_false, reduceCtorEq], by simp only [Option.toList_some, Option.toList_none, List.cons_append, List.nil_append, cat_i, cat_r, cat_n, cat_f, cs_n, cs_i, cs_r, cs_l, cs_f, Nat.reduceAdd, Nat.reduceLeDiff, Nat.zero_le, if_true, if_false, true_or, or_true, am_wr_at, Nat.reduceEqDiff, not_true_eq_false, not_false_eq_true, i_one, ite_not, bI_z, bI_nz, bI_t, bI_f, bI_or, Bool.false_eq_true, Bool.true_eq_false, reduceCtorEq], by simp only [Option.toList_some, Option.toList_none, List.cons_append, List.nil_append, cat_i, cat_r, cat_n, cat_f, cs_n, cs_i, cs_r, cs_l, cs_f, Nat.reduceAdd, Nat.reduceLeDiff, Nat.zero_le, if_true, if_false, true_or, or_true, am_wr_at, Nat.reduceEqDiff, not_true_eq_false, not_false_eq_true, i_one, ite_not, bI_z, bI_nz, bI_t, bI_f, bI_or, Bool.false_eq_true, Bool.true_eq_false, reduceCtorEq], by simp only [Option.toList_some, Option.toList_none, List.cons_append, List.nil_append, cat_i, cat_r, cat_n, cat_f, cs_n, cs_i, cs_r, cs_l, cs_f, Nat.reduceAdd, Nat.reduceLeDiff, Nat.zero_le, if_true, if_false, true_or, or_true, am_wr_at, Nat.reduceEqDiff, not_true_eq_false, not_false_eq_true, i_one, ite_not, bI_z, bI_nz, bI_t, bI_f, bI_or, Bool.false_eq_true, Bool.true_eq_false, reduceCtorEq]⟩]
/-- a watcher's number, on both sides -/
theorem isW (hI : Inv σ) : ∃ n, n ≤ 8 ∧ σ.1 8 3 = nI n ∧ σ.1 71 7 = nI n ∧ (∀ x, am_lt x (nI n) = am_in x n) ∧ ∀ x : Int32, am_bt x.toInt64 0 (nI n - 1).toInt64 = am_in x n := by
  have e0 : σ.1 8 3 = σ.1 71 7 := congrFun (congrFun hI.1 9) 0
  obtain ⟨n, hn, hm⟩ := rg_nI (n := 8) (by decide) hI.2.1.2.2.1
  have hm : σ.1 71 7 = nI n := hm
  refine ⟨n, hn, e0.trans hm, hm, fun x => lt_in (nI_toInt (by omega)), fun x => bt_in ?_⟩
  rw [Int32.toInt_toInt64, Int32.toInt_sub, nI_toInt (by omega), show (1 : Int32).toInt = 1 by decide, Int.bmod_eq_of_le (by omega) (by omega)]
  omega
theorem rd_w (hI : Inv σ) {n w : Nat} (hn : n ≤ 8) (h1 : σ.1 8 3 = nI n) (h2 : σ.1 71 7 = nI n) (hw : w < n) : σ.1 9 w = σ.1 78 (3 * w) ∧ σ.1 10 w = σ.1 78 (3 * w + 1) ∧ σ.1 11 w = σ.1 78 (3 * w + 2) ∧ rg (σ.1 9 w) 0 11 ∧ rg (σ.1 10 w) 0 3 ∧ rg (σ.1 11 w) 0 9 := by
  have c1 : (nI n).toNatClampNeg = n := nI_clamp (by omega)
  have g6 := congrFun (congrFun hI.1 6) w
  have g7 := congrFun (congrFun hI.1 7) w
  have g8 := congrFun (congrFun hI.1 8) w
  obtain ⟨q1, q2, q3, -⟩ := hI.2.1.2.2.2.2.2.2.1 w (by show w < (σ.1 71 7).toNatClampNeg; rw [h2, c1]; exact hw)
  simp only [cV, mV, h1, h2, c1, hw, if_true, Nat.reduceAdd] at g6 g7 g8 q1 q2 q3
  rw [← g6] at q1
  rw [← g7] at q2
  rw [← g8] at q3
  exact ⟨g6, g7, g8, q1, q2, q3⟩
theorem ix3 {w i : Nat} : 3 * nI w + nI i = nI (3 * w + i) := by
  show nI 3 * nI w + nI i = _
  unfold nI
  rw [← Int32.ofNat_mul, ← Int32.ofNat_add]
theorem ix31 {w : Nat} : 3 * nI w + 1 = nI (3 * w + 1) := ix3 (i := 1)
theorem ix32 {w : Nat} : 3 * nI w + 2 = nI (3 * w + 2) := ix3 (i := 2)
theorem ix30 {w : Nat} : 3 * nI w = nI (3 * w) := by
  show nI 3 * nI w = _
  unfold nI
  rw [← Int32.ofNat_mul]
/-- doubt -/
theorem sim5 : ∀ x0 x1 : Int32, SimOK sv Inv 66 116 [.int x0, .int x1] := by
  intro w v σ hI
  obtain ⟨n, hn, a1, a2, a3, a4⟩ := isW hI
  by_cases h0 : am_in w n = true
  · by_cases h1 : am_in v 10 = true
    · obtain ⟨ww, hw, rfl⟩ := in_nI h0 (by omega)
      obtain ⟨g1, g2, g3, r1, r2, r3⟩ := rd_w hI hn a1 a2 hw
      have d0 : (nI ww).toNatClampNeg = ww := nI_clamp (by omega)
      have b0 : am_in (nI ww) 12 = true := nI_in' (by omega) (by omega)
      have b1 : am_in (nI (3 * ww + 1)) 24 = true := nI_in' (by omega) (by omega)
      have b2 : am_in (nI (3 * ww + 2)) 24 = true := nI_in' (by omega) (by omega)
      have d1 : (nI (3 * ww + 1)).toNatClampNeg = 3 * ww + 1 := nI_clamp (by omega)
      have d2 : (nI (3 * ww + 2)).toNatClampNeg = 3 * ww + 2 := nI_clamp (by omega)
      have c1 : (nI n).toNatClampNeg = n := nI_clamp (by omega)
      by_cases hk : σ.1 78 (3 * ww + 1) = 1
      · refine ⟨σ.1 11 ww, am_wr σ 11 (upd (σ.1 11) ww v), am_wr (am_wr σ 11 (upd (σ.1 11) ww v)) 78 (upd (σ.1 78) (3 * ww + 2) v), fun Q => ?_, fun Q => ?_, ?_⟩
        · rw [n66]
          simp only [x66_0, x66_1, x66_2, x66_5, x66_8, x66_11, x66_14, x66_17, x66_18, x66_20, x66_23, x66_26, x66_27, x66_28, x66_29, x66_32, x66_35, x66_38, x66_39, x66_40, x66_41, x66_44, x66_46, x66_47, x66_48, x66_51, x66_54, x66_57, x66_58, x66_59, x66_62, Option.toList_some, Option.toList_none, List.cons_append, List.nil_append, cat_i, cat_r, cat_n, cat_f, cs_n, cs_i, cs_r, cs_l, cs_f, Nat.reduceAdd, Nat.reduceLeDiff, Nat.zero_le, if_true, if_false, true_or, or_true, am_wr_at, Nat.reduceEqDiff, not_true_eq_false, not_false_eq_true, i_one, ite_not, bI_z, bI_nz, bI_t, bI_f, bI_or, Bool.false_eq_true, Bool.true_eq_false, reduceCtorEq, lt1, lt2, lt3, lt4, lt5, lt10, lt12, lt16, lt100, lt1000, bt1, bt2, bt3, bt4, bt5, bt10, bt12, bt16, bt100, bt1000, bt6, bt25, bt100000, st1, s97, s99, a1, a3, h0, h1, b0, d0, lc10, lc11, g2, hk]
        · rw [n116, g3]
          simp only [x116_0, x116_1, x116_2, x116_5, x116_8, x116_9, x116_10, x116_11, x116_14, x116_17, x116_20, x116_21, x116_22, x116_23, x116_26, x116_27, x116_28, x116_29, x116_30, x116_31, x116_32, x116_33, x116_36, x116_38, x116_39, x116_40, x116_43, x116_44, x116_45, x116_46, x116_47, x116_48, x116_49, x116_50, x116_51, x116_54, x116_55, x116_56, x116_57, x116_58, x116_59, x116_60, x116_61, x116_62, Option.toList_some, Option.toList_none, List.cons_append, List.nil_append, cat_i, cat_r, cat_n, cat_f, cs_n, cs_i, cs_r, cs_l, cs_f, Nat.reduceAdd, Nat.reduceLeDiff, Nat.zero_le, if_true, if_false, true_or, or_true, am_wr_at, Nat.reduceEqDiff, not_true_eq_false, not_false_eq_true, i_one, ite_not, bI_z, bI_nz, bI_t, bI_f, bI_or, Bool.false_eq_true, Bool.true_eq_false, reduceCtorEq, lt1, lt2, lt3, lt4, lt5, lt10, lt12, lt16, lt100, lt1000, bt1, bt2, bt3, bt4, bt5, bt10, bt12, bt16, bt100, bt1000, bt6, bt25, bt100000, s104, s108, a2, a4, h0, h1, ix31, ix32, b1, b2, d1, d2, lc78, hk]
        · refine Inv_mk (V := vset (mV σ) 8 ww v) hI ⟨?_, ?_, ?_, ?_, ?_, ?_, ?_, ?_, ?_, ?_, ?_, ?_, ?_, fun k q1 q2 => ?_⟩ ?_ ?_ (okV_dbt hI.2.1 (inR h1) (by show ¬ (if ww < (σ.1 71 7).toNatClampNeg then σ.1 78 (3 * ww + 1) else 0) = 0; rw [a2, c1, if_pos hw, hk]; decide))
          iterate 13 (simp only [Option.toList_some, Option.toList_none, List.cons_append, List.nil_append, cat_i, cat_r, cat_n, cat_f, cs_n, cs_i, cs_r, cs_l, cs_f, Nat.reduceAdd, Nat.reduceLeDiff, Nat.zero_le, if_true, if_false, true_or, or_true, am_wr_at, Nat.reduceEqDiff, not_true_eq_false, not_false_eq_true, i_one, ite_not, bI_z, bI_nz, bI_t, bI_f, bI_or, Bool.false_eq_true, Bool.true_eq_false, reduceCtorEq])
          · rw [am_wr_ne (by omega), am_wr_ne (by omega)]
          · rw [← hI.1, cV_of (σ := am_wr σ 11 (upd (σ.1 11) ww v)) (fun k q1 q2 => am_wr_ne (by omega)) (by rw [am_wr_ne (by omega)])]
            exact cV_dbt (a := 1) (by show ww < (σ.1 8 3).toNatClampNeg; rw [a1, c1]; exact hw)
          · have h2 := mV_dbt (σ := am_wr σ 11 (upd (σ.1 11) ww v)) (w := ww) (x := v) (by simp only [Option.toList_some, Option.toList_none, List.cons_append, List.nil_append, cat_i, cat_r, cat_n, cat_f, cs_n, cs_i, cs_r, cs_l, cs_f, Nat.reduceAdd, Nat.reduceLeDiff, Nat.zero_le, if_true, if_false, true_or, or_true, am_wr_at, Nat.reduceEqDiff, not_true_eq_false, not_false_eq_true, i_one, ite_not, bI_z, bI_nz, bI_t, bI_f, bI_or, Bool.false_eq_true, Bool.true_eq_false, reduceCtorEq]; rw [a2, c1]; exact hw)
            simp only [Option.toList_some, Option.toList_none, List.cons_append, List.nil_append, cat_i, cat_r, cat_n, cat_f, cs_n, cs_i, cs_r, cs_l, cs_f, Nat.reduceAdd, Nat.reduceLeDiff, Nat.zero_le, if_true, if_false, true_or, or_true, am_wr_at, Nat.reduceEqDiff, not_true_eq_false, not_false_eq_true, i_one, ite_not, bI_z, bI_nz, bI_t, bI_f, bI_or, Bool.false_eq_true, Bool.true_eq_false, reduceCtorEq] at h2
            rw [h2, mV_of (σ := σ) (fun k q1 q2 => by rw [am_wr_ne (by omega)]) ⟨by simp only [Option.toList_some, Option.toList_none, List.cons_append, List.nil_append, cat_i, cat_r, cat_n, cat_f, cs_n, cs_i, cs_r, cs_l, cs_f, Nat.reduceAdd, Nat.reduceLeDiff, Nat.zero_le, if_true, if_false, true_or, or_true, am_wr_at, Nat.reduceEqDiff, not_true_eq_false, not_false_eq_true, i_one, ite_not, bI_z, bI_nz, bI_t, bI_f, bI_or, Bool.false_eq_true, Bool.true_eq_false, reduceCtorEq], by simp only [Option.toList_some, Option.toList_none, List.cons_append, List.nil_append, cat_i, cat_r, cat_n, cat_f, cs_n, cs_i, cs_r, cs_l, cs_f, Nat.reduceAdd, Nat.reduceLeDiff, Nat.zero_le, if_true, if_false, true_or, or_true, am_wr_at, Nat.reduceEqDiff, not_true_eq_false, not_false_eq_true, i_one, ite_not, bI_z, bI_nz, bI_t, bI_f, bI_or, Bool.false_eq_true, Bool.true_eq_false, reduceCtorEq], by simp only [Option.toList_some, Option.toList_none, List.cons_append, List.nil_append, cat_i, cat_r, cat_n, cat_f, cs_n, cs_i, cs_r, cs_l, cs_f, Nat.reduceAdd, Nat.reduceLeDiff, Nat.zero_le, if_true, if_false, true_or, or_true, am_wr_at, Nat.reduceEqDiff, not_true_eq_false, not_false_eq_true, i_one, ite_not, bI_z, bI_nz, bI_t, bI_f, bI_or, Bool.false_eq_true, Bool.true_eq_false, reduceCtorEq]⟩ ⟨by simp only [Option.toList_some, Option.toList_none, List.cons_append, List.nil_append, cat_i, cat_r, cat_n, cat_f, cs_n, cs_i, cs_r, cs_l, cs_f, Nat.reduceAdd, Nat.reduceLeDiff, Nat.zero_le, if_true, if_false, true_or, or_true, am_wr_at, Nat.reduceEqDiff, not_true_eq_false, not_false_eq_true, i_one, ite_not, bI_z, bI_nz, bI_t, bI_f, bI_or, Bool.false_eq_true, Bool.true_eq_false, reduceCtorEq], by simp only [Option.toList_some, Option.toList_none, List.cons_append, List.nil_append, cat_i, cat_r, cat_n, cat_f, cs_n, cs_i, cs_r, cs_l, cs_f, Nat.reduceAdd, Nat.reduceLeDiff, Nat.zero_le, if_true, if_false, true_or, or_true, am_wr_at, Nat.reduceEqDiff, not_true_eq_false, not_false_eq_true, i_one, ite_not, bI_z, bI_nz, bI_t, bI_f, bI_or, Bool.false_eq_true, Bool.true_eq_false, reduceCtorEq], by simp only [Option.toList_some, Option.toList_none, List.cons_append, List.nil_append, cat_i, cat_r, cat_n, cat_f, cs_n, cs_i, cs_r, cs_l, cs_f, Nat.reduceAdd, Nat.reduceLeDiff, Nat.zero_le, if_true, if_false, true_or, or_true, am_wr_at, Nat.reduceEqDiff, not_true_eq_false, not_false_eq_true, i_one, ite_not, bI_z, bI_nz, bI_t, bI_f, bI_or, Bool.false_eq_true, Bool.true_eq_false, reduceCtorEq], by simp only [Option.toList_some, Option.toList_none, List.cons_append, List.nil_append, cat_i, cat_r, cat_n, cat_f, cs_n, cs_i, cs_r, cs_l, cs_f, Nat.reduceAdd, Nat.reduceLeDiff, Nat.zero_le, if_true, if_false, true_or, or_true, am_wr_at, Nat.reduceEqDiff, not_true_eq_false, not_false_eq_true, i_one, ite_not, bI_z, bI_nz, bI_t, bI_f, bI_or, Bool.false_eq_true, Bool.true_eq_false, reduceCtorEq]⟩]
      · exact ⟨-12, σ, σ, fun Q => by rw [n66]; simp only [x66_0, x66_1, x66_2, x66_5, x66_8, x66_11, x66_14, x66_17, x66_18, x66_20, x66_23, x66_26, x66_27, x66_28, x66_29, x66_32, x66_35, x66_38, x66_39, x66_40, x66_41, x66_44, x66_46, x66_47, x66_48, x66_51, x66_54, x66_57, x66_58, x66_59, x66_62, Option.toList_some, Option.toList_none, List.cons_append, List.nil_append, cat_i, cat_r, cat_n, cat_f, cs_n, cs_i, cs_r, cs_l, cs_f, Nat.reduceAdd, Nat.reduceLeDiff, Nat.zero_le, if_true, if_false, true_or, or_true, am_wr_at, Nat.reduceEqDiff, not_true_eq_false, not_false_eq_true, i_one, ite_not, bI_z, bI_nz, bI_t, bI_f, bI_or, Bool.false_eq_true, Bool.true_eq_false, reduceCtorEq, lt1, lt2, lt3, lt4, lt5, lt10, lt12, lt16, lt100, lt1000, bt1, bt2, bt3, bt4, bt5, bt10, bt12, bt16, bt100, bt1000, bt6, bt25, bt100000, st1, s97, s99, a1, a3, h0, h1, b0, d0, lc10, lc11, g2, hk], fun Q => by rw [n116]; simp only [x116_0, x116_1, x116_2, x116_5, x116_8, x116_9, x116_10, x116_11, x116_14, x116_17, x116_20, x116_21, x116_22, x116_23, x116_26, x116_27, x116_28, x116_29, x116_30, x116_31, x116_32, x116_33, x116_36, x116_38, x116_39, x116_40, x116_43, x116_44, x116_45, x116_46, x116_47, x116_48, x116_49, x116_50, x116_51, x116_54, x116_55, x116_56, x116_57, x116_58, x116_59, x116_60, x116_61, x116_62, Option.toList_some, Option.toList_none, List.cons_append, List.nil_append, cat_i, cat_r, cat_n, cat_f, cs_n, cs_i, cs_r, cs_l, cs_f, Nat.reduceAdd, Nat.reduceLeDiff, Nat.zero_le, if_true, if_false, true_or, or_true, am_wr_at, Nat.reduceEqDiff, not_true_eq_false, not_false_eq_true, i_one, ite_not, bI_z, bI_nz, bI_t, bI_f, bI_or, Bool.false_eq_true, Bool.true_eq_false, reduceCtorEq, lt1, lt2, lt3, lt4, lt5, lt10, lt12, lt16, lt100, lt1000, bt1, bt2, bt3, bt4, bt5, bt10, bt12, bt16, bt100, bt1000, bt6, bt25, bt100000, s104, s108, a2, a4, h0, h1, ix31, ix32, b1, b2, d1, d2, lc78, hk], hI⟩
    · have h1 : am_in v 10 = false := by simpa using h1
      exact ⟨-1, σ, σ, fun Q => by rw [n66]; simp only [x66_0, x66_1, x66_2, x66_5, x66_8, x66_11, x66_14, x66_17, x66_18, x66_20, x66_23, x66_26, x66_27, x66_28, x66_29, x66_32, x66_35, x66_38, x66_39, x66_40, x66_41, x66_44, x66_46, x66_47, x66_48, x66_51, x66_54, x66_57, x66_58, x66_59, x66_62, Option.toList_some, Option.toList_none, List.cons_append, List.nil_append, cat_i, cat_r, cat_n, cat_f, cs_n, cs_i, cs_r, cs_l, cs_f, Nat.reduceAdd, Nat.reduceLeDiff, Nat.zero_le, if_true, if_false, true_or, or_true, am_wr_at, Nat.reduceEqDiff, not_true_eq_false, not_false_eq_true, i_one, ite_not, bI_z, bI_nz, bI_t, bI_f, bI_or, Bool.false_eq_true, Bool.true_eq_false, reduceCtorEq, lt1, lt2, lt3, lt4, lt5, lt10, lt12, lt16, lt100, lt1000, bt1, bt2, bt3, bt4, bt5, bt10, bt12, bt16, bt100, bt1000, bt6, bt25, bt100000, st1, s97, a1, a3, h0, h1], fun Q => by rw [n116]; simp only [x116_0, x116_1, x116_2, x116_5, x116_8, x116_9, x116_10, x116_11, x116_14, x116_17, x116_20, x116_21, x116_22, x116_23, x116_26, x116_27, x116_28, x116_29, x116_30, x116_31, x116_32, x116_33, x116_36, x116_38, x116_39, x116_40, x116_43, x116_44, x116_45, x116_46, x116_47, x116_48, x116_49, x116_50, x116_51, x116_54, x116_55, x116_56, x116_57, x116_58, x116_59, x116_60, x116_61, x116_62, Option.toList_some, Option.toList_none, List.cons_append, List.nil_append, cat_i, cat_r, cat_n, cat_f, cs_n, cs_i, cs_r, cs_l, cs_f, Nat.reduceAdd, Nat.reduceLeDiff, Nat.zero_le, if_true, if_false, true_or, or_true, am_wr_at, Nat.reduceEqDiff, not_true_eq_false, not_false_eq_true, i_one, ite_not, bI_z, bI_nz, bI_t, bI_f, bI_or, Bool.false_eq_true, Bool.true_eq_false, reduceCtorEq, lt1, lt2, lt3, lt4, lt5, lt10, lt12, lt16, lt100, lt1000, bt1, bt2, bt3, bt4, bt5, bt10, bt12, bt16, bt100, bt1000, bt6, bt25, bt100000, s104, s108, a2, a4, h0, h1], hI⟩
  · have h0 : am_in w n = false := by simpa using h0
    exact ⟨-1, σ, σ, fun Q => by rw [n66]; simp only [x66_0, x66_1, x66_2, x66_5, x66_8, x66_11, x66_14, x66_17, x66_18, x66_20, x66_23, x66_26, x66_27, x66_28, x66_29, x66_32, x66_35, x66_38, x66_39, x66_40, x66_41, x66_44, x66_46, x66_47, x66_48, x66_51, x66_54, x66_57, x66_58, x66_59, x66_62, Option.toList_some, Option.toList_none, List.cons_append, List.nil_append, cat_i, cat_r, cat_n, cat_f, cs_n, cs_i, cs_r, cs_l, cs_f, Nat.reduceAdd, Nat.reduceLeDiff, Nat.zero_le, if_true, if_false, true_or, or_true, am_wr_at, Nat.reduceEqDiff, not_true_eq_false, not_false_eq_true, i_one, ite_not, bI_z, bI_nz, bI_t, bI_f, bI_or, Bool.false_eq_true, Bool.true_eq_false, reduceCtorEq, lt1, lt2, lt3, lt4, lt5, lt10, lt12, lt16, lt100, lt1000, bt1, bt2, bt3, bt4, bt5, bt10, bt12, bt16, bt100, bt1000, bt6, bt25, bt100000, st1, s97, a1, a3, h0], fun Q => by rw [n116]; simp only [x116_0, x116_1, x116_2, x116_5, x116_8, x116_9, x116_10, x116_11, x116_14, x116_17, x116_20, x116_21, x116_22, x116_23, x116_26, x116_27, x116_28, x116_29, x116_30, x116_31, x116_32, x116_33, x116_36, x116_38, x116_39, x116_40, x116_43, x116_44, x116_45, x116_46, x116_47, x116_48, x116_49, x116_50, x116_51, x116_54, x116_55, x116_56, x116_57, x116_58, x116_59, x116_60, x116_61, x116_62, Option.toList_some, Option.toList_none, List.cons_append, List.nil_append, cat_i, cat_r, cat_n, cat_f, cs_n, cs_i, cs_r, cs_l, cs_f, Nat.reduceAdd, Nat.reduceLeDiff, Nat.zero_le, if_true, if_false, true_or, or_true, am_wr_at, Nat.reduceEqDiff, not_true_eq_false, not_false_eq_true, i_one, ite_not, bI_z, bI_nz, bI_t, bI_f, bI_or, Bool.false_eq_true, Bool.true_eq_false, reduceCtorEq, lt1, lt2, lt3, lt4, lt5, lt10, lt12, lt16, lt100, lt1000, bt1, bt2, bt3, bt4, bt5, bt10, bt12, bt16, bt100, bt1000, bt6, bt25, bt100000, s104, s108, a2, a4, h0], hI⟩
end I49
