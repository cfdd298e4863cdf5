/-! SIMULATIONS: act, cue, stand, habit -/
theorem okV_set {V : Nat → Nat → Int32} {i j : Nat} {x : Int32} (h : okV V) (hx : (i = 0 ∧ deed x) ∨ (i = 1 ∧ deed x) ∨ (i = 2 ∧ rg x 0 4) ∨ (i = 3 ∧ rg x 0 4) ∨ (i = 4 ∧ rg x 0 1) ∨ (i = 5 ∧ rg x 0 (if j = 4 then 10 else 9)) ∨ (i = 9 ∧ j = 1 ∧ rg x 0 3)) : okV (vset V i j x) := by
  obtain ⟨o1, o2, o3, o4, o5, o6, o7, o8, o9⟩ := h
  rcases hx with ⟨rfl, hx⟩ | ⟨rfl, hx⟩ | ⟨rfl, hx⟩ | ⟨rfl, hx⟩ | ⟨rfl, hx⟩ | ⟨rfl, hx⟩ | ⟨rfl, rfl, hx⟩
  · refine ⟨fun j' hj' => ?_, o2, o3, o4, o5, o6, o7, o8, o9⟩
    obtain ⟨q1, q2, q3, q4, q5⟩ := o1 j' hj'
    refine ⟨?_, q2, q3, q4, q5⟩
    show deed (if j' = j then x else V 0 j')
    split <;> assumption
  · refine ⟨fun j' hj' => ?_, o2, o3, o4, o5, o6, o7, o8, o9⟩
    obtain ⟨q1, q2, q3, q4, q5⟩ := o1 j' hj'
    refine ⟨q1, ?_, q3, q4, q5⟩
    show deed (if j' = j then x else V 1 j')
    split <;> assumption
  · refine ⟨fun j' hj' => ?_, o2, o3, o4, o5, o6, o7, o8, o9⟩
    obtain ⟨q1, q2, q3, q4, q5⟩ := o1 j' hj'
    refine ⟨q1, q2, ?_, q4, q5⟩
    show rg (if j' = j then x else V 2 j') 0 4
    split <;> assumption
  · refine ⟨fun j' hj' => ?_, o2, o3, o4, o5, o6, o7, o8, o9⟩
    obtain ⟨q1, q2, q3, q4, q5⟩ := o1 j' hj'
    refine ⟨q1, q2, q3, ?_, q5⟩
    show rg (if j' = j then x else V 3 j') 0 4
    split <;> assumption
  · refine ⟨fun j' hj' => ?_, o2, o3, o4, o5, o6, o7, o8, o9⟩
    obtain ⟨q1, q2, q3, q4, q5⟩ := o1 j' hj'
    refine ⟨q1, q2, q3, q4, ?_⟩
    show rg (if j' = j then x else V 4 j') 0 1
    split <;> assumption
  · refine ⟨o1, fun j' hj' => ?_, o3, o4, o5, o6, o7, o8, o9⟩
    have q := o2 j' hj'
    show rg (if j' = j then x else V 5 j') 0 _
    split
    · rename_i e
      rw [e]; exact hx
    · exact q
  · exact ⟨o1, o2, o3, hx, o5, o6, o7, o8, o9⟩
/-- what leaves the tape, the sheets and the image as they were -/
theorem inT_of {σ τ : am_S} (h1 : τ.1 65 1 = σ.1 65 1 ∧ τ.1 66 = σ.1 66 ∧ τ.1 79 = σ.1 79 ∧ τ.1 71 10 = σ.1 71 10) (h : inT σ) : inT τ := by
  unfold inT
  rw [h1.1, h1.2.1, h1.2.2.1, h1.2.2.2]
  exact h
theorem inS_of {σ τ : am_S} (h1 : τ.1 68 = σ.1 68 ∧ τ.1 69 = σ.1 69 ∧ τ.1 70 = σ.1 70 ∧ τ.1 86 = σ.1 86 ∧ τ.1 87 = σ.1 87 ∧ τ.1 88 = σ.1 88) (h : inS σ) : inS τ := by
  unfold inS
  rw [h1.1, h1.2.1, h1.2.2.1, h1.2.2.2.1, h1.2.2.2.2.1, h1.2.2.2.2.2]
  exact h
theorem inI_of {σ τ : am_S} (h1 : τ.1 0 2 = σ.1 0 2 ∧ τ.1 71 23 = σ.1 71 23 ∧ τ.1 85 = σ.1 85) (h2 : ∀ k, 22 ≤ k → k ≤ 41 → τ.1 k = σ.1 k) (h : inI σ) : inI τ := by
  unfold inI
  rw [h1.1, h1.2.1, iV_of h1.2.2, cV_of (σ := σ) (τ := τ) (a := 22) (fun k q1 q2 => h2 k (by omega) (by omega)) (by rw [h2 22 (by omega) (by omega)])]
  exact h
section I43
variable {sv : am_V} {σ : am_S} {x : Int32}
theorem inR {x : Int32} {n : Nat} (h : am_in x n = true) : rg x 0 ((n : Int) - 1) := by
  have := of_decide_eq_true h
  exact ⟨this.1, by omega⟩
/-- stand -/
theorem sim2 : ∀ x : Int32, SimOK sv Inv 63 111 [.int x] := by
  intro x σ hI
  obtain ⟨hv, hok, hT, hS, hM⟩ := id hI
  have e0 : σ.1 1 5 = σ.1 71 5 := congrFun (congrFun hv 9) 1
  by_cases hx : am_in x 4 = true
  · have el : am_lt x 4 = true := by rw [lt_in (k := 4) (by decide)]; exact hx
    have eb : am_bt x.toInt64 0 3 = true := by rw [bt_in (k := 4) (by decide)]; exact hx
    refine ⟨σ.1 1 5, am_wr σ 1 (upd (σ.1 1) 5 x), am_wr (am_wr σ 1 (upd (σ.1 1) 5 x)) 71 (upd (σ.1 71) 5 x), ?_, ?_, ?_⟩
    · intro Q
      rw [n63]
      simp only [x63_0, x63_1, x63_2, x63_5, x63_8, x63_9, x63_10, x63_11, x63_14, x63_17, x63_18, x63_19, x63_22, x63_23, x63_26, x63_27, Option.toList_some, Option.toList_none, List.cons_append, List.nil_append, cat_i, cat_r, cat_n, cat_f, cs_n, cs_i, cs_r, cs_l, cs_f, Nat.reduceAdd, Nat.reduceLeDiff, Nat.zero_le, if_true, if_false, true_or, or_true, am_wr_at, Nat.reduceEqDiff, not_true_eq_false, not_false_eq_true, i_one, ite_not, bI_z, bI_nz, bI_t, bI_f, bI_or, Bool.false_eq_true, Bool.true_eq_false, reduceCtorEq, st1, s97, el]
    · intro Q
      rw [n111]
      simp only [x111_0, x111_1, x111_2, x111_3, x111_6, x111_9, x111_12, x111_13, x111_14, x111_15, x111_18, x111_19, x111_20, x111_21, x111_24, x111_25, Option.toList_some, Option.toList_none, List.cons_append, List.nil_append, cat_i, cat_r, cat_n, cat_f, cs_n, cs_i, cs_r, cs_l, cs_f, Nat.reduceAdd, Nat.reduceLeDiff, Nat.zero_le, if_true, if_false, true_or, or_true, am_wr_at, Nat.reduceEqDiff, not_true_eq_false, not_false_eq_true, i_one, ite_not, bI_z, bI_nz, bI_t, bI_f, bI_or, Bool.false_eq_true, Bool.true_eq_false, reduceCtorEq, s104, eb, e0]
    · have ec : cV (am_wr (am_wr σ 1 (upd (σ.1 1) 5 x)) 71 (upd (σ.1 71) 5 x)) 1 = vset (cV σ 1) 9 1 x := by
        rw [cV_of (σ := am_wr σ 1 (upd (σ.1 1) 5 x)) (fun k q1 q2 => am_wr_ne (by omega)) (by simp only [Option.toList_some, Option.toList_none, List.cons_append, List.nil_append, cat_i, cat_r, cat_n, cat_f, cs_n, cs_i, cs_r, cs_l, cs_f, Nat.reduceAdd, Nat.reduceLeDiff, Nat.zero_le, if_true, if_false, true_or, or_true, am_wr_at, Nat.reduceEqDiff, not_true_eq_false, not_false_eq_true, i_one, ite_not, bI_z, bI_nz, bI_t, bI_f, bI_or, Bool.false_eq_true, Bool.true_eq_false, reduceCtorEq]), cV_col]
      have em : mV (am_wr (am_wr σ 1 (upd (σ.1 1) 5 x)) 71 (upd (σ.1 71) 5 x)) = vset (mV σ) 9 1 x := by
        have : mV (am_wr (am_wr σ 1 (upd (σ.1 1) 5 x)) 71 (upd ((am_wr σ 1 (upd (σ.1 1) 5 x)).1 71) 5 x)) = vset (mV (am_wr σ 1 (upd (σ.1 1) 5 x))) 9 1 x := mV_col
        rw [mV_of (σ := σ) (τ := am_wr σ 1 (upd (σ.1 1) 5 x)) (fun k q1 q2 => am_wr_ne (by omega)) ⟨am_wr_ne (by omega), am_wr_ne (by omega), am_wr_ne (by omega)⟩ ⟨by simp only [Option.toList_some, Option.toList_none, List.cons_append, List.nil_append, cat_i, cat_r, cat_n, cat_f, cs_n, cs_i, cs_r, cs_l, cs_f, Nat.reduceAdd, Nat.reduceLeDiff, Nat.zero_le, if_true, if_false, true_or, or_true, am_wr_at, Nat.reduceEqDiff, not_true_eq_false, not_false_eq_true, i_one, ite_not, bI_z, bI_nz, bI_t, bI_f, bI_or, Bool.false_eq_true, Bool.true_eq_false, reduceCtorEq], by simp only [Option.toList_some, Option.toList_none, List.cons_append, List.nil_append, cat_i, cat_r, cat_n, cat_f, cs_n, cs_i, cs_r, cs_l, cs_f, Nat.reduceAdd, Nat.reduceLeDiff, Nat.zero_le, if_true, if_false, true_or, or_true, am_wr_at, Nat.reduceEqDiff, not_true_eq_false, not_false_eq_true, i_one, ite_not, bI_z, bI_nz, bI_t, bI_f, bI_or, Bool.false_eq_true, Bool.true_eq_false, reduceCtorEq], by simp only [Option.toList_some, Option.toList_none, List.cons_append, List.nil_append, cat_i, cat_r, cat_n, cat_f, cs_n, cs_i, cs_r, cs_l, cs_f, Nat.reduceAdd, Nat.reduceLeDiff, Nat.zero_le, if_true, if_false, true_or, or_true, am_wr_at, Nat.reduceEqDiff, not_true_eq_false, not_false_eq_true, i_one, ite_not, bI_z, bI_nz, bI_t, bI_f, bI_or, Bool.false_eq_true, Bool.true_eq_false, reduceCtorEq], by simp only [Option.toList_some, Option.toList_none, List.cons_append, List.nil_append, cat_i, cat_r, cat_n, cat_f, cs_n, cs_i, cs_r, cs_l, cs_f, Nat.reduceAdd, Nat.reduceLeDiff, Nat.zero_le, if_true, if_false, true_or, or_true, am_wr_at, Nat.reduceEqDiff, not_true_eq_false, not_false_eq_true, i_one, ite_not, bI_z, bI_nz, bI_t, bI_f, bI_or, Bool.false_eq_true, Bool.true_eq_false, reduceCtorEq]⟩] at this
        simpa only [Option.toList_some, Option.toList_none, List.cons_append, List.nil_append, cat_i, cat_r, cat_n, cat_f, cs_n, cs_i, cs_r, cs_l, cs_f, Nat.reduceAdd, Nat.reduceLeDiff, Nat.zero_le, if_true, if_false, true_or, or_true, am_wr_at, Nat.reduceEqDiff, not_true_eq_false, not_false_eq_true, i_one, ite_not, bI_z, bI_nz, bI_t, bI_f, bI_or, Bool.false_eq_true, Bool.true_eq_false, reduceCtorEq] using this
      refine ⟨by rw [ec, em, hv], by rw [em]; exact okV_set hok (by simp; exact inR hx), inT_of ⟨?_, ?_, ?_, ?_⟩ hT, inS_of ⟨?_, ?_, ?_, ?_, ?_, ?_⟩ hS, inI_of ⟨?_, ?_, ?_⟩ (fun k q1 q2 => ?_) hM⟩
      all_goals first | (simp only [Option.toList_some, Option.toList_none, List.cons_append, List.nil_append, cat_i, cat_r, cat_n, cat_f, cs_n, cs_i, cs_r, cs_l, cs_f, Nat.reduceAdd, Nat.reduceLeDiff, Nat.zero_le, if_true, if_false, true_or, or_true, am_wr_at, Nat.reduceEqDiff, not_true_eq_false, not_false_eq_true, i_one, ite_not, bI_z, bI_nz, bI_t, bI_f, bI_or, Bool.false_eq_true, Bool.true_eq_false, reduceCtorEq, upd_at]; done) | (rw [am_wr_ne (by omega), am_wr_ne (by omega)])
  · have hx' : am_in x 4 = false := by simpa using hx
    have el : am_lt x 4 = false := by rw [lt_in (k := 4) (by decide)]; exact hx'
    have eb : am_bt x.toInt64 0 3 = false := by rw [bt_in (k := 4) (by decide)]; exact hx'
    refine ⟨-1, σ, σ, ?_, ?_, hI⟩
    · intro Q
      rw [n63]
      simp only [x63_0, x63_1, x63_2, x63_5, x63_8, x63_9, x63_10, x63_11, x63_14, x63_17, x63_18, x63_19, x63_22, x63_23, x63_26, x63_27, Option.toList_some, Option.toList_none, List.cons_append, List.nil_append, cat_i, cat_r, cat_n, cat_f, cs_n, cs_i, cs_r, cs_l, cs_f, Nat.reduceAdd, Nat.reduceLeDiff, Nat.zero_le, if_true, if_false, true_or, or_true, am_wr_at, Nat.reduceEqDiff, not_true_eq_false, not_false_eq_true, i_one, ite_not, bI_z, bI_nz, bI_t, bI_f, bI_or, Bool.false_eq_true, Bool.true_eq_false, reduceCtorEq, st1, s97, el]
    · intro Q
      rw [n111]
      simp only [x111_0, x111_1, x111_2, x111_3, x111_6, x111_9, x111_12, x111_13, x111_14, x111_15, x111_18, x111_19, x111_20, x111_21, x111_24, x111_25, Option.toList_some, Option.toList_none, List.cons_append, List.nil_append, cat_i, cat_r, cat_n, cat_f, cs_n, cs_i, cs_r, cs_l, cs_f, Nat.reduceAdd, Nat.reduceLeDiff, Nat.zero_le, if_true, if_false, true_or, or_true, am_wr_at, Nat.reduceEqDiff, not_true_eq_false, not_false_eq_true, i_one, ite_not, bI_z, bI_nz, bI_t, bI_f, bI_or, Bool.false_eq_true, Bool.true_eq_false, reduceCtorEq, s104, eb]
end I43
