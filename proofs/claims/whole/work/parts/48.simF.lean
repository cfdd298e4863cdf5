/-! SIMULATIONS: clear, point, cover -/
/-- the points' rows get one more -/
def vpt (V : Nat → Nat → Int32) (n : Nat) (x y : Int32) : Nat → Nat → Int32 := fun i j => if i = 9 ∧ j = 3 then nI (n + 1) else if i = 14 ∧ j = n then x else if i = 15 ∧ j = n then y else V i j
theorem cV_pt {σ τ : am_S} {a n : Nat} {x y : Int32} (hn : σ.1 (a + 16) 2 = nI n) (hl : n < 24) (h1 : ∀ k, (k = a + 16 ∨ k = a + 17 ∨ k = a + 18) ∨ τ.1 k = σ.1 k) (h2 : τ.1 (a + 16) 2 = nI (n + 1)) (h3 : τ.1 (a + 17) = upd (σ.1 (a + 17)) n x) (h4 : τ.1 (a + 18) = upd (σ.1 (a + 18)) n y) : cV τ a = vpt (cV σ a) n x y := by
  have f : ∀ k, k ≠ 16 → k ≠ 17 → k ≠ 18 → τ.1 (a + k) = σ.1 (a + k) := by
    intro k q1 q2 q3
    rcases h1 (a + k) with q | q
    · omega
    · exact q
  have f0 : τ.1 a = σ.1 a := by
    rcases h1 a with q | q
    · omega
    · exact q
  have c1 : (nI n).toNatClampNeg = n := nI_clamp (by omega)
  have c2 : (nI (n + 1)).toNatClampNeg = n + 1 := nI_clamp (by omega)
  funext i j
  unfold vpt cV
  simp only [f 2 (by decide) (by decide) (by decide), f 3 (by decide) (by decide) (by decide), f 4 (by decide) (by decide) (by decide), f 5 (by decide) (by decide) (by decide), f 6 (by decide) (by decide) (by decide), f 7 (by decide) (by decide) (by decide), f 8 (by decide) (by decide) (by decide), f 9 (by decide) (by decide) (by decide), f 10 (by decide) (by decide) (by decide), f 11 (by decide) (by decide) (by decide), f 12 (by decide) (by decide) (by decide), f 13 (by decide) (by decide) (by decide), f 14 (by decide) (by decide) (by decide), f 15 (by decide) (by decide) (by decide), f 19 (by decide) (by decide) (by decide), f0, h2, h3, h4, hn, c1, c2]
  by_cases e9 : i = 9
  · subst e9
    by_cases e3 : j = 3
    · subst e3; simp
    · simp [e3]
      split <;> first | rfl | simp_all
  · by_cases e14 : i = 14
    · subst e14
      simp only [upd_at]
      by_cases ej : j = n
      · subst ej; simp
      · simp [ej]
        by_cases q : j < n
        · simp [q, show j < n + 1 by omega]
        · simp [q, show ¬ j < n + 1 by omega]
    · by_cases e15 : i = 15
      · subst e15
        simp only [upd_at]
        by_cases ej : j = n
        · subst ej; simp
        · simp [ej]
          by_cases q : j < n
          · simp [q, show j < n + 1 by omega]
          · simp [q, show ¬ j < n + 1 by omega]
      · simp [e9, e14, e15]
        split <;> first | rfl | simp_all
theorem mV_pt {σ τ : am_S} {n : Nat} {x y : Int32} (hn : σ.1 71 19 = nI n) (hl : n < 24) (h1 : ∀ k, (k = 71 ∨ k = 83 ∨ k = 84) ∨ τ.1 k = σ.1 k) (h0 : τ.1 71 5 = σ.1 71 5 ∧ τ.1 71 7 = σ.1 71 7 ∧ τ.1 71 16 = σ.1 71 16) (h2 : τ.1 71 19 = nI (n + 1)) (h3 : τ.1 83 = upd (σ.1 83) n x) (h4 : τ.1 84 = upd (σ.1 84) n y) : mV τ = vpt (mV σ) n x y := by
  have f : ∀ k, k ≠ 71 → k ≠ 83 → k ≠ 84 → τ.1 k = σ.1 k := by
    intro k q1 q2 q3
    rcases h1 k with q | q
    · omega
    · exact q
  have c1 : (nI n).toNatClampNeg = n := nI_clamp (by omega)
  have c2 : (nI (n + 1)).toNatClampNeg = n + 1 := nI_clamp (by omega)
  funext i j
  unfold vpt mV
  simp only [f 72 (by decide) (by decide) (by decide), f 73 (by decide) (by decide) (by decide), f 74 (by decide) (by decide) (by decide), f 75 (by decide) (by decide) (by decide), f 76 (by decide) (by decide) (by decide), f 77 (by decide) (by decide) (by decide), f 78 (by decide) (by decide) (by decide), f 81 (by decide) (by decide) (by decide), h0.1, h0.2.1, h0.2.2, h2, h3, h4, hn, c1, c2]
  by_cases e9 : i = 9
  · subst e9
    by_cases e3 : j = 3
    · subst e3; simp
    · simp [e3]
      split <;> first | rfl | simp_all
  · by_cases e14 : i = 14
    · subst e14
      simp only [upd_at]
      by_cases ej : j = n
      · subst ej; simp
      · simp [ej]
        by_cases q : j < n
        · simp [q, show j < n + 1 by omega]
        · simp [q, show ¬ j < n + 1 by omega]
    · by_cases e15 : i = 15
      · subst e15
        simp only [upd_at]
        by_cases ej : j = n
        · subst ej; simp
        · simp [ej]
          by_cases q : j < n
          · simp [q, show j < n + 1 by omega]
          · simp [q, show ¬ j < n + 1 by omega]
      · simp [e9, e14, e15]
        split <;> first | rfl | simp_all
theorem okV_pt {V : Nat → Nat → Int32} {n : Nat} {x y : Int32} (h : okV V) (hn : V 9 3 = nI n) (hl : n < 24) (hx : rg x 0 15) (hy : rg y 0 3) : okV (vpt V n x y) := by
  obtain ⟨o1, o2, o3, o4, o5, o6, o7, o8, o9⟩ := h
  refine ⟨o1, o2, o3, o4, o5, ?_, o7, o8, fun j hj => ?_⟩
  · show rg (nI (n + 1)) 0 24
    rw [rg, nI_toInt (by omega)]
    omega
  · have hj2 : j < n + 1 := by
      have : (vpt V n x y 9 3) = nI (n + 1) := by simp [vpt]
      rw [this, nI_clamp (by omega)] at hj
      exact hj
    by_cases e : j = n
    · subst e
      simp only [vpt]
      simp
      exact ⟨hx, hy⟩
    · have q := o9 j (by rw [hn, nI_clamp (by omega)]; omega)
      simp only [vpt]
      simp [e]
      exact q
section I48
variable {sv : am_V} {h : am_H} {σ : am_S} {Q : Option Value → am_H → Prop} {x y : Int32}
theorem s13 {n : Nat} (hn : σ.1 17 2 = nI n) (hl : n < 24) : AM sv 13 [.ref 17, .int x, .int y] (am_toH σ) Q = Q none (am_toH (am_wr (am_wr (am_wr σ 18 (upd (σ.1 18) n x)) 19 (upd (σ.1 19) n y)) 17 (upd (σ.1 17) 2 (nI (n + 1))))) := by
  have e1 : ¬ 24 ≤ nI n := nI_ge (b := 24) hl (by decide)
  have e2 : am_in (nI n) 24 = true := nI_in' hl (by omega)
  have e3 : (nI n).toNatClampNeg = n := nI_clamp (by omega)
  rw [n13]
  simp only [x13_0, x13_1, x13_4, x13_6, x13_9, x13_10, x13_13, x13_14, x13_17, x13_18, x13_19, x13_20, x13_23, x13_24, x13_27, x13_28, x13_29, x13_30, x13_31, x13_34, x13_35, x13_36, x13_39, Option.toList_some, Option.toList_none, List.cons_append, List.nil_append, cat_i, cat_r, cat_n, cat_f, cs_n, cs_i, cs_r, cs_l, cs_f, Nat.reduceAdd, Nat.reduceLeDiff, Nat.zero_le, if_true, if_false, true_or, or_true, am_wr_at, Nat.reduceEqDiff, not_true_eq_false, not_false_eq_true, i_one, ite_not, bI_z, bI_nz, bI_t, bI_f, bI_or, Bool.false_eq_true, Bool.true_eq_false, reduceCtorEq, st1, hn, e1, e2, e3, lc18, lc19, nI_1]
theorem s152 {n : Nat} (hn : σ.1 71 19 = nI n) (hl : n < 24) : AM sv 152 [.ref 71, .int x, .int y] (am_toH σ) Q = Q none (am_toH (am_wr (am_wr (am_wr σ 83 (upd (σ.1 83) n x)) 84 (upd (σ.1 84) n y)) 71 (upd (σ.1 71) 19 (nI (n + 1))))) := by
  have e2 : am_in (nI n) 24 = true := nI_in' hl (by omega)
  have e3 : (nI n).toNatClampNeg = n := nI_clamp (by omega)
  rw [n152]
  simp only [x152_0, x152_1, x152_4, x152_5, x152_8, x152_9, x152_10, x152_11, x152_14, x152_15, x152_18, x152_19, x152_20, x152_21, x152_22, x152_25, x152_26, x152_27, x152_30, Option.toList_some, Option.toList_none, List.cons_append, List.nil_append, cat_i, cat_r, cat_n, cat_f, cs_n, cs_i, cs_r, cs_l, cs_f, Nat.reduceAdd, Nat.reduceLeDiff, Nat.zero_le, if_true, if_false, true_or, or_true, am_wr_at, Nat.reduceEqDiff, not_true_eq_false, not_false_eq_true, i_one, ite_not, bI_z, bI_nz, bI_t, bI_f, bI_or, Bool.false_eq_true, Bool.true_eq_false, reduceCtorEq, hn, e2, e3, lc83, lc84, nI_1]
/-- one more point on both sides -/
theorem Inv_pt {n : Nat} (hI : Inv σ) (hn : σ.1 17 2 = nI n) (hl : n < 24) (hx : rg x 0 15) (hy : rg y 0 3) : Inv (am_wr (am_wr (am_wr (am_wr (am_wr (am_wr σ 18 (upd (σ.1 18) n x)) 19 (upd (σ.1 19) n y)) 17 (upd (σ.1 17) 2 (nI (n + 1)))) 83 (upd (σ.1 83) n x)) 84 (upd (σ.1 84) n y)) 71 (upd (σ.1 71) 19 (nI (n + 1)))) := by
  have e9 : σ.1 17 2 = σ.1 71 19 := congrFun (congrFun hI.1 9) 3
  have hm : σ.1 71 19 = nI n := by rw [← e9]; exact hn
  refine Inv_mk (V := vpt (mV σ) n x y) hI ⟨?_, ?_, ?_, ?_, ?_, ?_, ?_, ?_, ?_, ?_, ?_, ?_, ?_, fun k q1 q2 => ?_⟩ ?_ ?_ (okV_pt hI.2.1 hm hl hx hy)
  iterate 13 (simp only [Option.toList_some, Option.toList_none, List.cons_append, List.nil_append, cat_i, cat_r, cat_n, cat_f, cs_n, cs_i, cs_r, cs_l, cs_f, Nat.reduceAdd, Nat.reduceLeDiff, Nat.zero_le, if_true, if_false, true_or, or_true, am_wr_at, Nat.reduceEqDiff, not_true_eq_false, not_false_eq_true, i_one, ite_not, bI_z, bI_nz, bI_t, bI_f, bI_or, Bool.false_eq_true, Bool.true_eq_false, reduceCtorEq, upd_at])
  · rw [am_wr_ne (by omega), am_wr_ne (by omega), am_wr_ne (by omega), am_wr_ne (by omega), am_wr_ne (by omega), am_wr_ne (by omega)]
  · rw [← hI.1]
    refine (cV_of (σ := am_wr (am_wr (am_wr σ 18 (upd (σ.1 18) n x)) 19 (upd (σ.1 19) n y)) 17 (upd (σ.1 17) 2 (nI (n + 1)))) (fun k q1 q2 => ?_) ?_).trans (cV_pt (a := 1) hn hl (fun k => ?_) ?_ ?_ ?_)
    · rw [am_wr_ne (by omega), am_wr_ne (by omega), am_wr_ne (by omega)]
    · rw [am_wr_ne (by omega), am_wr_ne (by omega), am_wr_ne (by omega)]
    · by_cases q : k = 17 ∨ k = 18 ∨ k = 19
      · exact Or.inl q
      · refine Or.inr ?_
        rw [am_wr_ne (by omega), am_wr_ne (by omega), am_wr_ne (by omega)]
    · simp only [Option.toList_some, Option.toList_none, List.cons_append, List.nil_append, cat_i, cat_r, cat_n, cat_f, cs_n, cs_i, cs_r, cs_l, cs_f, Nat.reduceAdd, Nat.reduceLeDiff, Nat.zero_le, if_true, if_false, true_or, or_true, am_wr_at, Nat.reduceEqDiff, not_true_eq_false, not_false_eq_true, i_one, ite_not, bI_z, bI_nz, bI_t, bI_f, bI_or, Bool.false_eq_true, Bool.true_eq_false, reduceCtorEq, upd_at]
    · simp only [Option.toList_some, Option.toList_none, List.cons_append, List.nil_append, cat_i, cat_r, cat_n, cat_f, cs_n, cs_i, cs_r, cs_l, cs_f, Nat.reduceAdd, Nat.reduceLeDiff, Nat.zero_le, if_true, if_false, true_or, or_true, am_wr_at, Nat.reduceEqDiff, not_true_eq_false, not_false_eq_true, i_one, ite_not, bI_z, bI_nz, bI_t, bI_f, bI_or, Bool.false_eq_true, Bool.true_eq_false, reduceCtorEq, upd_at]
    · simp only [Option.toList_some, Option.toList_none, List.cons_append, List.nil_append, cat_i, cat_r, cat_n, cat_f, cs_n, cs_i, cs_r, cs_l, cs_f, Nat.reduceAdd, Nat.reduceLeDiff, Nat.zero_le, if_true, if_false, true_or, or_true, am_wr_at, Nat.reduceEqDiff, not_true_eq_false, not_false_eq_true, i_one, ite_not, bI_z, bI_nz, bI_t, bI_f, bI_or, Bool.false_eq_true, Bool.true_eq_false, reduceCtorEq, upd_at]
  · have e0 : mV (am_wr (am_wr (am_wr σ 18 (upd (σ.1 18) n x)) 19 (upd (σ.1 19) n y)) 17 (upd (σ.1 17) 2 (nI (n + 1)))) = mV σ := mV_of (fun k q1 q2 => by rw [am_wr_ne (by omega), am_wr_ne (by omega), am_wr_ne (by omega)]) ⟨by simp only [Option.toList_some, Option.toList_none, List.cons_append, List.nil_append, cat_i, cat_r, cat_n, cat_f, cs_n, cs_i, cs_r, cs_l, cs_f, Nat.reduceAdd, Nat.reduceLeDiff, Nat.zero_le, if_true, if_false, true_or, or_true, am_wr_at, Nat.reduceEqDiff, not_true_eq_false, not_false_eq_true, i_one, ite_not, bI_z, bI_nz, bI_t, bI_f, bI_or, Bool.false_eq_true, Bool.true_eq_false, reduceCtorEq], by simp only [Option.toList_some, Option.toList_none, List.cons_append, List.nil_append, cat_i, cat_r, cat_n, cat_f, cs_n, cs_i, cs_r, cs_l, cs_f, Nat.reduceAdd, Nat.reduceLeDiff, Nat.zero_le, if_true, if_false, true_or, or_true, am_wr_at, Nat.reduceEqDiff, not_true_eq_false, not_false_eq_true, i_one, ite_not, bI_z, bI_nz, bI_t, bI_f, bI_or, Bool.false_eq_true, Bool.true_eq_false, reduceCtorEq], by simp only [Option.toList_some, Option.toList_none, List.cons_append, List.nil_append, cat_i, cat_r, cat_n, cat_f, cs_n, cs_i, cs_r, cs_l, cs_f, Nat.reduceAdd, Nat.reduceLeDiff, Nat.zero_le, if_true, if_false, true_or, or_true, am_wr_at, Nat.reduceEqDiff, not_true_eq_false, not_false_eq_true, i_one, ite_not, bI_z, bI_nz, bI_t, bI_f, bI_or, Bool.false_eq_true, Bool.true_eq_false, reduceCtorEq]⟩ ⟨by simp only [Option.toList_some, Option.toList_none, List.cons_append, List.nil_append, cat_i, cat_r, cat_n, cat_f, cs_n, cs_i, cs_r, cs_l, cs_f, Nat.reduceAdd, Nat.reduceLeDiff, Nat.zero_le, if_true, if_false, true_or, or_true, am_wr_at, Nat.reduceEqDiff, not_true_eq_false, not_false_eq_true, i_one, ite_not, bI_z, bI_nz, bI_t, bI_f, bI_or, Bool.false_eq_true, Bool.true_eq_false, reduceCtorEq], by simp only [Option.toList_some, Option.toList_none, List.cons_append, List.nil_append, cat_i, cat_r, cat_n, cat_f, cs_n, cs_i, cs_r, cs_l, cs_f, Nat.reduceAdd, Nat.reduceLeDiff, Nat.zero_le, if_true, if_false, true_or, or_true, am_wr_at, Nat.reduceEqDiff, not_true_eq_false, not_false_eq_true, i_one, ite_not, bI_z, bI_nz, bI_t, bI_f, bI_or, Bool.false_eq_true, Bool.true_eq_false, reduceCtorEq], by simp only [Option.toList_some, Option.toList_none, List.cons_append, List.nil_append, cat_i, cat_r, cat_n, cat_f, cs_n, cs_i, cs_r, cs_l, cs_f, Nat.reduceAdd, Nat.reduceLeDiff, Nat.zero_le, if_true, if_false, true_or, or_true, am_wr_at, Nat.reduceEqDiff, not_true_eq_false, not_false_eq_true, i_one, ite_not, bI_z, bI_nz, bI_t, bI_f, bI_or, Bool.false_eq_true, Bool.true_eq_false, reduceCtorEq], by simp only [Option.toList_some, Option.toList_none, List.cons_append, List.nil_append, cat_i, cat_r, cat_n, cat_f, cs_n, cs_i, cs_r, cs_l, cs_f, Nat.reduceAdd, Nat.reduceLeDiff, Nat.zero_le, if_true, if_false, true_or, or_true, am_wr_at, Nat.reduceEqDiff, not_true_eq_false, not_false_eq_true, i_one, ite_not, bI_z, bI_nz, bI_t, bI_f, bI_or, Bool.false_eq_true, Bool.true_eq_false, reduceCtorEq]⟩
    rw [← e0]
    refine mV_pt (by simp only [Option.toList_some, Option.toList_none, List.cons_append, List.nil_append, cat_i, cat_r, cat_n, cat_f, cs_n, cs_i, cs_r, cs_l, cs_f, Nat.reduceAdd, Nat.reduceLeDiff, Nat.zero_le, if_true, if_false, true_or, or_true, am_wr_at, Nat.reduceEqDiff, not_true_eq_false, not_false_eq_true, i_one, ite_not, bI_z, bI_nz, bI_t, bI_f, bI_or, Bool.false_eq_true, Bool.true_eq_false, reduceCtorEq]; exact hm) hl (fun k => ?_) ⟨?_, ?_, ?_⟩ ?_ ?_ ?_
    · by_cases q : k = 71 ∨ k = 83 ∨ k = 84
      · exact Or.inl q
      · refine Or.inr ?_
        rw [am_wr_ne (by omega), am_wr_ne (by omega), am_wr_ne (by omega)]
    iterate 6 (simp only [Option.toList_some, Option.toList_none, List.cons_append, List.nil_append, cat_i, cat_r, cat_n, cat_f, cs_n, cs_i, cs_r, cs_l, cs_f, Nat.reduceAdd, Nat.reduceLeDiff, Nat.zero_le, if_true, if_false, true_or, or_true, am_wr_at, Nat.reduceEqDiff, not_true_eq_false, not_false_eq_true, i_one, ite_not, bI_z, bI_nz, bI_t, bI_f, bI_or, Bool.false_eq_true, Bool.true_eq_false, reduceCtorEq, upd_at])
/-- point -/
theorem sim25 : ∀ x0 x1 : Int32, SimOK sv Inv 86 153 [.int x0, .int x1] := by
  intro b p σ hI
  have e9 : σ.1 17 2 = σ.1 71 19 := congrFun (congrFun hI.1 9) 3
  have r9 : rg (σ.1 71 19) 0 24 := hI.2.1.2.2.2.2.2.1
  by_cases h0 : am_in b 16 = true
  · by_cases h1 : am_in p 4 = true
    · obtain ⟨n, hn, hm⟩ := rg_nI (n := 24) (by decide) r9
      have hc : σ.1 17 2 = nI n := e9.trans hm
      by_cases hf : n = 24
      · subst hf
        have z1 : ¬ nI 24 < 24 := by decide
        have z2 : nI 24 = 24 := rfl
        have z3 : ¬ (24 : Int32) < 24 := by decide
        exact ⟨-3, σ, σ, fun Q => by rw [n86]; simp only [x86_0, x86_1, x86_3, x86_6, x86_9, x86_10, x86_11, x86_14, x86_17, x86_18, x86_19, x86_20, x86_23, x86_26, x86_29, x86_31, x86_34, x86_36, x86_37, x86_38, x86_41, x86_44, x86_45, x86_46, x86_49, x86_50, x86_53, x86_56, x86_59, Option.toList_some, Option.toList_none, List.cons_append, List.nil_append, cat_i, cat_r, cat_n, cat_f, cs_n, cs_i, cs_r, cs_l, cs_f, Nat.reduceAdd, Nat.reduceLeDiff, Nat.zero_le, if_true, if_false, true_or, or_true, am_wr_at, Nat.reduceEqDiff, not_true_eq_false, not_false_eq_true, i_one, ite_not, bI_z, bI_nz, bI_t, bI_f, bI_or, Bool.false_eq_true, Bool.true_eq_false, reduceCtorEq, lt1, lt2, lt3, lt4, lt5, lt10, lt12, lt16, lt100, lt1000, bt1, bt2, bt3, bt4, bt5, bt10, bt12, bt16, bt100, bt1000, bt6, bt25, bt100000, st1, s97, h0, h1, hc, z2, z3], fun Q => by rw [n153]; simp only [x153_0, x153_1, x153_4, x153_7, x153_8, x153_11, x153_14, x153_15, x153_16, x153_17, x153_20, x153_22, x153_25, x153_27, x153_28, x153_29, x153_30, x153_31, x153_34, x153_35, x153_38, Option.toList_some, Option.toList_none, List.cons_append, List.nil_append, cat_i, cat_r, cat_n, cat_f, cs_n, cs_i, cs_r, cs_l, cs_f, Nat.reduceAdd, Nat.reduceLeDiff, Nat.zero_le, if_true, if_false, true_or, or_true, am_wr_at, Nat.reduceEqDiff, not_true_eq_false, not_false_eq_true, i_one, ite_not, bI_z, bI_nz, bI_t, bI_f, bI_or, Bool.false_eq_true, Bool.true_eq_false, reduceCtorEq, lt1, lt2, lt3, lt4, lt5, lt10, lt12, lt16, lt100, lt1000, bt1, bt2, bt3, bt4, bt5, bt10, bt12, bt16, bt100, bt1000, bt6, bt25, bt100000, s106, s107, h0, h1, hm, z2], hI⟩
      · have z1 : nI n < 24 := nI_lt (b := 24) (by omega) (by decide)
        have z2 : ¬ nI n = 24 := by
          intro q
          rw [q] at z1
          exact absurd z1 (by decide)
        have hm2 : (am_wr (am_wr (am_wr σ 18 (upd (σ.1 18) n b)) 19 (upd (σ.1 19) n p)) 17 (upd (σ.1 17) 2 (nI (n + 1)))).1 71 19 = nI n := by simp only [Option.toList_some, Option.toList_none, List.cons_append, List.nil_append, cat_i, cat_r, cat_n, cat_f, cs_n, cs_i, cs_r, cs_l, cs_f, Nat.reduceAdd, Nat.reduceLeDiff, Nat.zero_le, if_true, if_false, true_or, or_true, am_wr_at, Nat.reduceEqDiff, not_true_eq_false, not_false_eq_true, i_one, ite_not, bI_z, bI_nz, bI_t, bI_f, bI_or, Bool.false_eq_true, Bool.true_eq_false, reduceCtorEq]; exact hm
        have k2 := fun Q => s152 (sv := sv) (Q := Q) (x := b) (y := p) hm2 (by omega : n < 24)
        simp only [Option.toList_some, Option.toList_none, List.cons_append, List.nil_append, cat_i, cat_r, cat_n, cat_f, cs_n, cs_i, cs_r, cs_l, cs_f, Nat.reduceAdd, Nat.reduceLeDiff, Nat.zero_le, if_true, if_false, true_or, or_true, am_wr_at, Nat.reduceEqDiff, not_true_eq_false, not_false_eq_true, i_one, ite_not, bI_z, bI_nz, bI_t, bI_f, bI_or, Bool.false_eq_true, Bool.true_eq_false, reduceCtorEq] at k2
        refine ⟨nI (n + 1), am_wr (am_wr (am_wr σ 18 (upd (σ.1 18) n b)) 19 (upd (σ.1 19) n p)) 17 (upd (σ.1 17) 2 (nI (n + 1))), _, fun Q => ?_, fun Q => ?_, Inv_pt (x := b) (y := p) hI hc (by omega) (inR h0) (inR h1)⟩
        · rw [n86]
          simp only [x86_0, x86_1, x86_3, x86_6, x86_9, x86_10, x86_11, x86_14, x86_17, x86_18, x86_19, x86_20, x86_23, x86_26, x86_29, x86_31, x86_34, x86_36, x86_37, x86_38, x86_41, x86_44, x86_45, x86_46, x86_49, x86_50, x86_53, x86_56, x86_59, Option.toList_some, Option.toList_none, List.cons_append, List.nil_append, cat_i, cat_r, cat_n, cat_f, cs_n, cs_i, cs_r, cs_l, cs_f, Nat.reduceAdd, Nat.reduceLeDiff, Nat.zero_le, if_true, if_false, true_or, or_true, am_wr_at, Nat.reduceEqDiff, not_true_eq_false, not_false_eq_true, i_one, ite_not, bI_z, bI_nz, bI_t, bI_f, bI_or, Bool.false_eq_true, Bool.true_eq_false, reduceCtorEq, lt1, lt2, lt3, lt4, lt5, lt10, lt12, lt16, lt100, lt1000, bt1, bt2, bt3, bt4, bt5, bt10, bt12, bt16, bt100, bt1000, bt6, bt25, bt100000, st1, s97, s13 hc (by omega : n < 24), h0, h1, hc, z1, upd_at]
        · rw [n153]
          simp only [x153_0, x153_1, x153_4, x153_7, x153_8, x153_11, x153_14, x153_15, x153_16, x153_17, x153_20, x153_22, x153_25, x153_27, x153_28, x153_29, x153_30, x153_31, x153_34, x153_35, x153_38, Option.toList_some, Option.toList_none, List.cons_append, List.nil_append, cat_i, cat_r, cat_n, cat_f, cs_n, cs_i, cs_r, cs_l, cs_f, Nat.reduceAdd, Nat.reduceLeDiff, Nat.zero_le, if_true, if_false, true_or, or_true, am_wr_at, Nat.reduceEqDiff, not_true_eq_false, not_false_eq_true, i_one, ite_not, bI_z, bI_nz, bI_t, bI_f, bI_or, Bool.false_eq_true, Bool.true_eq_false, reduceCtorEq, lt1, lt2, lt3, lt4, lt5, lt10, lt12, lt16, lt100, lt1000, bt1, bt2, bt3, bt4, bt5, bt10, bt12, bt16, bt100, bt1000, bt6, bt25, bt100000, s106, s107, h0, h1, hm, z2, k2, upd_at]
    · have h1 : am_in p 4 = false := by simpa using h1
      exact ⟨-1, σ, σ, fun Q => by rw [n86]; simp only [x86_0, x86_1, x86_3, x86_6, x86_9, x86_10, x86_11, x86_14, x86_17, x86_18, x86_19, x86_20, x86_23, x86_26, x86_29, x86_31, x86_34, x86_36, x86_37, x86_38, x86_41, x86_44, x86_45, x86_46, x86_49, x86_50, x86_53, x86_56, x86_59, Option.toList_some, Option.toList_none, List.cons_append, List.nil_append, cat_i, cat_r, cat_n, cat_f, cs_n, cs_i, cs_r, cs_l, cs_f, Nat.reduceAdd, Nat.reduceLeDiff, Nat.zero_le, if_true, if_false, true_or, or_true, am_wr_at, Nat.reduceEqDiff, not_true_eq_false, not_false_eq_true, i_one, ite_not, bI_z, bI_nz, bI_t, bI_f, bI_or, Bool.false_eq_true, Bool.true_eq_false, reduceCtorEq, lt1, lt2, lt3, lt4, lt5, lt10, lt12, lt16, lt100, lt1000, bt1, bt2, bt3, bt4, bt5, bt10, bt12, bt16, bt100, bt1000, bt6, bt25, bt100000, s97, h0, h1], fun Q => by rw [n153]; simp only [x153_0, x153_1, x153_4, x153_7, x153_8, x153_11, x153_14, x153_15, x153_16, x153_17, x153_20, x153_22, x153_25, x153_27, x153_28, x153_29, x153_30, x153_31, x153_34, x153_35, x153_38, Option.toList_some, Option.toList_none, List.cons_append, List.nil_append, cat_i, cat_r, cat_n, cat_f, cs_n, cs_i, cs_r, cs_l, cs_f, Nat.reduceAdd, Nat.reduceLeDiff, Nat.zero_le, if_true, if_false, true_or, or_true, am_wr_at, Nat.reduceEqDiff, not_true_eq_false, not_false_eq_true, i_one, ite_not, bI_z, bI_nz, bI_t, bI_f, bI_or, Bool.false_eq_true, Bool.true_eq_false, reduceCtorEq, lt1, lt2, lt3, lt4, lt5, lt10, lt12, lt16, lt100, lt1000, bt1, bt2, bt3, bt4, bt5, bt10, bt12, bt16, bt100, bt1000, bt6, bt25, bt100000, s106, s107, h0, h1], hI⟩
  · have h0 : am_in b 16 = false := by simpa using h0
    exact ⟨-1, σ, σ, fun Q => by rw [n86]; simp only [x86_0, x86_1, x86_3, x86_6, x86_9, x86_10, x86_11, x86_14, x86_17, x86_18, x86_19, x86_20, x86_23, x86_26, x86_29, x86_31, x86_34, x86_36, x86_37, x86_38, x86_41, x86_44, x86_45, x86_46, x86_49, x86_50, x86_53, x86_56, x86_59, Option.toList_some, Option.toList_none, List.cons_append, List.nil_append, cat_i, cat_r, cat_n, cat_f, cs_n, cs_i, cs_r, cs_l, cs_f, Nat.reduceAdd, Nat.reduceLeDiff, Nat.zero_le, if_true, if_false, true_or, or_true, am_wr_at, Nat.reduceEqDiff, not_true_eq_false, not_false_eq_true, i_one, ite_not, bI_z, bI_nz, bI_t, bI_f, bI_or, Bool.false_eq_true, Bool.true_eq_false, reduceCtorEq, lt1, lt2, lt3, lt4, lt5, lt10, lt12, lt16, lt100, lt1000, bt1, bt2, bt3, bt4, bt5, bt10, bt12, bt16, bt100, bt1000, bt6, bt25, bt100000, s97, h0], fun Q => by rw [n153]; simp only [x153_0, x153_1, x153_4, x153_7, x153_8, x153_11, x153_14, x153_15, x153_16, x153_17, x153_20, x153_22, x153_25, x153_27, x153_28, x153_29, x153_30, x153_31, x153_34, x153_35, x153_38, Option.toList_some, Option.toList_none, List.cons_append, List.nil_append, cat_i, cat_r, cat_n, cat_f, cs_n, cs_i, cs_r, cs_l, cs_f, Nat.reduceAdd, Nat.reduceLeDiff, Nat.zero_le, if_true, if_false, true_or, or_true, am_wr_at, Nat.reduceEqDiff, not_true_eq_false, not_false_eq_true, i_one, ite_not, bI_z, bI_nz, bI_t, bI_f, bI_or, Bool.false_eq_true, Bool.true_eq_false, reduceCtorEq, lt1, lt2, lt3, lt4, lt5, lt10, lt12, lt16, lt100, lt1000, bt1, bt2, bt3, bt4, bt5, bt10, bt12, bt16, bt100, bt1000, bt6, bt25, bt100000, s106, s107, h0], hI⟩
end I48
