/-! SIMULATIONS: watcher -/
def tak (f : Nat → Int32) (s : Int32) : Nat → Bool
  | 0 => false
  | w + 1 => tak f s w || decide (f w = s)
theorem tak_of {f g : Nat → Int32} {s : Int32} : ∀ n, (∀ w, w < n → f w = g w) → tak f s n = tak g s n := by
  intro n
  induction n with
  | zero => intro _; rfl
  | succ n ih =>
    intro h
    simp only [tak]
    rw [ih (fun w hw => h w (by omega)), h n (by omega)]
theorem tak_ff {f : Nat → Int32} {s : Int32} : ∀ n, tak f s n = false → ∀ i, i < n → ¬ f i = s := by
  intro n
  induction n with
  | zero => intro _ i hi; omega
  | succ n ih =>
    intro h i hi
    simp only [tak, Bool.or_eq_false_iff, decide_eq_false_iff_not] at h
    by_cases e : i = n
    · subst e; exact h.2
    · exact ih h.1 i (by omega)
/-- the watchers' rows get one more -/
def vwt (V : Nat → Nat → Int32) (n : Nat) (x y : Int32) : Nat → Nat → Int32 := fun i j => if i = 9 ∧ j = 0 then nI (n + 1) else if i = 6 ∧ j = n then x else if i = 7 ∧ j = n then y else if i = 8 ∧ j = n then 3 else V i j
theorem cV_wt {σ τ : am_S} {a n : Nat} {x y : Int32} (hn : σ.1 (a + 7) 3 = nI n) (hl : n < 12) (h1 : ∀ k, (k = a + 7 ∨ k = a + 8 ∨ k = a + 9 ∨ k = a + 10) ∨ τ.1 k = σ.1 k) (h2 : τ.1 (a + 7) 3 = nI (n + 1)) (h3 : τ.1 (a + 8) = upd (σ.1 (a + 8)) n x) (h4 : τ.1 (a + 9) = upd (σ.1 (a + 9)) n y) (h5 : τ.1 (a + 10) = upd (σ.1 (a + 10)) n 3) : cV τ a = vwt (cV σ a) n x y := by
  have f : ∀ k, (k < 7 ∨ 10 < k) → τ.1 (a + k) = σ.1 (a + k) := by
    intro k q1
    rcases h1 (a + k) with q | q
    · omega
    · exact q
  have f0 : τ.1 a = σ.1 a := f 0 (by omega)
  have c1 : (nI n).toNatClampNeg = n := nI_clamp (by omega)
  have c2 : (nI (n + 1)).toNatClampNeg = n + 1 := nI_clamp (by omega)
  funext i j
  unfold vwt cV
  simp only [f 2 (by omega), f 3 (by omega), f 4 (by omega), f 5 (by omega), f 6 (by omega), f 11 (by omega), f 12 (by omega), f 13 (by omega), f 14 (by omega), f 15 (by omega), f 16 (by omega), f 17 (by omega), f 18 (by omega), f 19 (by omega), f0, h2, h3, h4, h5, hn, c1, c2, upd_at, row1]
  by_cases e9 : i = 9
  · subst e9
    by_cases e3 : j = 0
    · subst e3; simp
    · simp [e3]
      split <;> first | rfl | simp_all
  · by_cases e10 : i = 6
    · subst e10; simp
    · by_cases e11 : i = 7
      · subst e11; simp
      · by_cases e12 : i = 8
        · subst e12; simp
        · simp [e9, e10, e11, e12]
          split <;> first | rfl | simp_all
theorem mV_wt {σ τ : am_S} {n : Nat} {x y : Int32} (hn : σ.1 71 7 = nI n) (hl : n < 8) (h1 : ∀ k, (k = 71 ∨ k = 78) ∨ τ.1 k = σ.1 k) (h0 : τ.1 71 5 = σ.1 71 5 ∧ τ.1 71 16 = σ.1 71 16 ∧ τ.1 71 19 = σ.1 71 19) (h2 : τ.1 71 7 = nI (n + 1)) (h3 : τ.1 78 = upd (upd (upd (σ.1 78) (3 * n) x) (3 * n + 1) y) (3 * n + 2) 3) : mV τ = vwt (mV σ) n x y := by
  have f : ∀ k, k ≠ 71 → k ≠ 78 → τ.1 k = σ.1 k := by
    intro k q1 q2
    rcases h1 k with q | q
    · omega
    · exact q
  have c1 : (nI n).toNatClampNeg = n := nI_clamp (by omega)
  have c2 : (nI (n + 1)).toNatClampNeg = n + 1 := nI_clamp (by omega)
  have g0 : ∀ j, τ.1 78 (3 * j) = if j = n then x else σ.1 78 (3 * j) := by
    intro j
    rw [h3]; simp only [upd_at]
    rw [if_neg (by omega), if_neg (by omega)]
    by_cases q : j = n
    · simp [q]
    · rw [if_neg (by omega), if_neg q]
  have g1 : ∀ j, τ.1 78 (3 * j + 1) = if j = n then y else σ.1 78 (3 * j + 1) := by
    intro j
    rw [h3]; simp only [upd_at]
    rw [if_neg (by omega)]
    by_cases q : j = n
    · simp [q]
    · rw [if_neg (by omega), if_neg (by omega), if_neg q]
  have g2 : ∀ j, τ.1 78 (3 * j + 2) = if j = n then 3 else σ.1 78 (3 * j + 2) := by
    intro j
    rw [h3]; simp only [upd_at]
    by_cases q : j = n
    · simp [q]
    · rw [if_neg (by omega), if_neg (by omega), if_neg (by omega), if_neg q]
  funext i j
  unfold vwt mV
  simp only [g0, g1, g2]
  have r1 : ∀ (f : Nat → Int32) (x : Int32), (if j < n + 1 then (if j = n then x else f j) else 0) = (if j = n then x else if j < n then f j else 0) := fun f x => row1
  have q0 := r1 (fun j => σ.1 78 (3 * j)) x
  have q1 := r1 (fun j => σ.1 78 (3 * j + 1)) y
  have q2 := r1 (fun j => σ.1 78 (3 * j + 2)) 3
  simp only [f 72 (by decide) (by decide), f 73 (by decide) (by decide), f 74 (by decide) (by decide), f 75 (by decide) (by decide), f 76 (by decide) (by decide), f 77 (by decide) (by decide), f 81 (by decide) (by decide), f 83 (by decide) (by decide), f 84 (by decide) (by decide), h0.1, h0.2.1, h0.2.2, h2, hn, c1, c2, q0, q1, q2]
  by_cases e9 : i = 9
  · subst e9
    by_cases e3 : j = 0
    · subst e3; simp
    · simp [e3]
      split <;> first | rfl | simp_all
  · by_cases e10 : i = 6
    · subst e10; simp
    · by_cases e11 : i = 7
      · subst e11; simp
      · by_cases e12 : i = 8
        · subst e12; simp
        · simp [e9, e10, e11, e12]
          split <;> first | rfl | simp_all
theorem okV_wt {V : Nat → Nat → Int32} {n : Nat} {x y : Int32} (h : okV V) (hn : V 9 0 = nI n) (hl : n < 8) (hx : rg x 0 11) (hy : rg y 0 3) (hf : ∀ i, i < n → ¬ V 6 i = x) : okV (vwt V n x y) := by
  obtain ⟨o1, o2, o3, o4, o5, o6, o7, o8, o9⟩ := h
  refine ⟨o1, o2, ?_, o4, o5, o6, fun j hj => ?_, o8, o9⟩
  · show rg (nI (n + 1)) 0 8
    rw [rg, nI_toInt (by omega)]
    omega
  · have hj2 : j < n + 1 := by
      have : (vwt V n x y 9 0) = nI (n + 1) := by simp [vwt]
      rw [this, nI_clamp (by omega)] at hj
      exact hj
    by_cases e : j = n
    · subst e
      have h6 : vwt V j x y 6 j = x := by simp [vwt]
      have h7 : vwt V j x y 7 j = y := by simp [vwt]
      have h8 : vwt V j x y 8 j = 3 := by simp [vwt]
      rw [h6, h7, h8]
      refine ⟨hx, hy, ⟨by decide, by decide⟩, fun _ => rfl, fun i hi => ?_⟩
      have e1 : ¬ i = j := by omega
      have e2 : vwt V j x y 6 i = V 6 i := by simp [vwt, e1]
      rw [e2]
      exact hf i hi
    · have q := o7 j (by rw [hn, nI_clamp (by omega)]; omega)
      have h6 : vwt V n x y 6 j = V 6 j := by simp [vwt, e]
      have h7 : vwt V n x y 7 j = V 7 j := by simp [vwt, e]
      have h8 : vwt V n x y 8 j = V 8 j := by simp [vwt, e]
      rw [h6, h7, h8]
      refine ⟨q.1, q.2.1, q.2.2.1, q.2.2.2.1, fun i hi => ?_⟩
      have e1 : ¬ i = n := by omega
      have e2 : vwt V n x y 6 i = V 6 i := by simp [vwt, e1]
      rw [e2]
      exact q.2.2.2.2 i hi
theorem nep {a k : Nat} : (a = a + (k + 1)) = False := eq_false (by omega)
theorem nep' {a k : Nat} : (a + (k + 1) = a) = False := eq_false (by omega)
section I54
variable {sv : am_V} {h : am_H} {σ : am_S} {Q : Option Value → am_H → Prop} {x y : Int32} {a : Nat}
theorem s7 {n : Nat} (ha : am_St a) (hn : σ.1 (a + 7) 3 = nI n) (hl : n ≤ 12) : AM sv 7 [.ref (a + 7), .int x] (am_toH σ) Q = Q (some (.int (bI (tak (σ.1 (a + 8)) x n)))) (am_toH σ) := by
  have key := am_up (N := n) (f := fun i => if tak (σ.1 (a + 8)) x i = true then Q (some (.int 1)) (am_toH σ) else AW sv 7 2 [.ref (a + 7), .int x, .int (nI i)] [] (am_toH σ) 0 0 Q) (by
    intro i hi
    have e1 : ¬ nI n ≤ nI i := nI_ge hi (by omega)
    have e2 : am_in (nI i) 12 = true := nI_in' (by omega) (by omega)
    have e3 : (nI i).toNatClampNeg = i := nI_clamp (by omega)
    simp only [tak]
    by_cases ht : tak (σ.1 (a + 8)) x i = true
    · simp only [ht, Bool.true_or, if_true]
    · have ht : tak (σ.1 (a + 8)) x i = false := by simpa using ht
      by_cases q : σ.1 (a + 8) i = x
      · simp only [ht, q, decide_true, Bool.or_true, if_true, Bool.false_eq_true, if_false]
        rw [x7_2]
        simp only [x7_3, x7_4, x7_7, x7_10, x7_11, x7_14, x7_15, x7_16, x7_17, x7_20, x7_21, x7_22, x7_25, x7_28, x7_29, Option.toList_some, Option.toList_none, List.cons_append, List.nil_append, cat_i, cat_r, cat_n, cat_f, cs_n, cs_i, cs_r, cs_l, cs_f, Nat.reduceAdd, Nat.reduceLeDiff, Nat.zero_le, if_true, if_false, true_or, or_true, am_wr_at, Nat.reduceEqDiff, not_true_eq_false, not_false_eq_true, i_one, ite_not, bI_z, bI_nz, bI_t, bI_f, bI_or, Bool.false_eq_true, Bool.true_eq_false, reduceCtorEq, ha, ln8, hn, e1, e2, e3, q]
      · simp only [ht, q, decide_false, Bool.or_false, Bool.false_eq_true, if_false]
        rw [x7_2]
        simp only [x7_3, x7_4, x7_7, x7_10, x7_11, x7_14, x7_15, x7_16, x7_17, x7_20, x7_21, x7_22, x7_25, x7_28, x7_29, Option.toList_some, Option.toList_none, List.cons_append, List.nil_append, cat_i, cat_r, cat_n, cat_f, cs_n, cs_i, cs_r, cs_l, cs_f, Nat.reduceAdd, Nat.reduceLeDiff, Nat.zero_le, if_true, if_false, true_or, or_true, am_wr_at, Nat.reduceEqDiff, not_true_eq_false, not_false_eq_true, i_one, ite_not, bI_z, bI_nz, bI_t, bI_f, bI_or, Bool.false_eq_true, Bool.true_eq_false, reduceCtorEq, ha, ln8, hn, e1, e2, e3, q, nI_1]) n (Nat.le_refl _)
  rw [n7]
  simp only [x7_0, x7_1, Option.toList_some, Option.toList_none, List.cons_append, List.nil_append, cat_i, cat_r, cat_n, cat_f, cs_n, cs_i, cs_r, cs_l, cs_f, Nat.reduceAdd, Nat.reduceLeDiff, Nat.zero_le, if_true, if_false, true_or, or_true, am_wr_at, Nat.reduceEqDiff, not_true_eq_false, not_false_eq_true, i_one, ite_not, bI_z, bI_nz, bI_t, bI_f, bI_or, Bool.false_eq_true, Bool.true_eq_false, reduceCtorEq]
  simp only [tak, Bool.false_eq_true, if_false] at key
  refine Eq.trans key ?_
  by_cases ht : tak (σ.1 (a + 8)) x n = true
  · simp only [ht, if_true, bI_t]
  · have ht : tak (σ.1 (a + 8)) x n = false := by simpa using ht
    have e1 : nI n ≤ nI n := nI_le (Nat.le_refl _) (by omega)
    simp only [ht, Bool.false_eq_true, if_false, bI_f]
    rw [x7_2]
    simp only [x7_3, x7_4, x7_7, x7_10, x7_11, x7_14, x7_15, x7_16, x7_17, x7_20, x7_21, x7_22, x7_25, x7_28, x7_29, Option.toList_some, Option.toList_none, List.cons_append, List.nil_append, cat_i, cat_r, cat_n, cat_f, cs_n, cs_i, cs_r, cs_l, cs_f, Nat.reduceAdd, Nat.reduceLeDiff, Nat.zero_le, if_true, if_false, true_or, or_true, am_wr_at, Nat.reduceEqDiff, not_true_eq_false, not_false_eq_true, i_one, ite_not, bI_z, bI_nz, bI_t, bI_f, bI_or, Bool.false_eq_true, Bool.true_eq_false, reduceCtorEq, ha, hn, e1]
theorem s113 {n : Nat} (hn : σ.1 71 7 = nI n) (hl : n ≤ 8) : AM sv 113 [.ref 71, .int x] (am_toH σ) Q = Q (some (.int (bI (tak (fun w => σ.1 78 (3 * w)) x n)))) (am_toH σ) := by
  have key := am_up (N := n) (f := fun i => AW sv 113 4 [.ref 71, .int x, .int (bI (tak (fun w => σ.1 78 (3 * w)) x i)), .int (nI i)] [] (am_toH σ) 0 0 Q) (by
    intro i hi
    have e1 : ¬ nI n ≤ nI i := nI_ge hi (by omega)
    have e2 : am_in (nI (3 * i)) 24 = true := nI_in' (by omega) (by omega)
    have e3 : (nI (3 * i)).toNatClampNeg = 3 * i := nI_clamp (by omega)
    simp only [tak]
    rw [x113_4]
    cases ht : tak (fun w => σ.1 78 (3 * w)) x i with
    | true => simp only [x113_5, x113_6, x113_9, x113_12, x113_13, x113_16, x113_17, x113_20, x113_21, x113_22, x113_23, x113_24, x113_25, x113_28, x113_29, x113_32, x113_33, x113_34, x113_37, x113_40, x113_41, Option.toList_some, Option.toList_none, List.cons_append, List.nil_append, cat_i, cat_r, cat_n, cat_f, cs_n, cs_i, cs_r, cs_l, cs_f, Nat.reduceAdd, Nat.reduceLeDiff, Nat.zero_le, if_true, if_false, true_or, or_true, am_wr_at, Nat.reduceEqDiff, not_true_eq_false, not_false_eq_true, i_one, ite_not, bI_z, bI_nz, bI_t, bI_f, bI_or, Bool.false_eq_true, Bool.true_eq_false, reduceCtorEq, lc78, hn, e1, ix30, e2, e3, nI_1, Bool.true_or]
    | false =>
      by_cases q : σ.1 78 (3 * i) = x
      · simp only [x113_5, x113_6, x113_9, x113_12, x113_13, x113_16, x113_17, x113_20, x113_21, x113_22, x113_23, x113_24, x113_25, x113_28, x113_29, x113_32, x113_33, x113_34, x113_37, x113_40, x113_41, Option.toList_some, Option.toList_none, List.cons_append, List.nil_append, cat_i, cat_r, cat_n, cat_f, cs_n, cs_i, cs_r, cs_l, cs_f, Nat.reduceAdd, Nat.reduceLeDiff, Nat.zero_le, if_true, if_false, true_or, or_true, am_wr_at, Nat.reduceEqDiff, not_true_eq_false, not_false_eq_true, i_one, ite_not, bI_z, bI_nz, bI_t, bI_f, bI_or, Bool.false_eq_true, Bool.true_eq_false, reduceCtorEq, lc78, hn, e1, ix30, e2, e3, nI_1, q, decide_true, Bool.or_true]
      · simp only [x113_5, x113_6, x113_9, x113_12, x113_13, x113_16, x113_17, x113_20, x113_21, x113_22, x113_23, x113_24, x113_25, x113_28, x113_29, x113_32, x113_33, x113_34, x113_37, x113_40, x113_41, Option.toList_some, Option.toList_none, List.cons_append, List.nil_append, cat_i, cat_r, cat_n, cat_f, cs_n, cs_i, cs_r, cs_l, cs_f, Nat.reduceAdd, Nat.reduceLeDiff, Nat.zero_le, if_true, if_false, true_or, or_true, am_wr_at, Nat.reduceEqDiff, not_true_eq_false, not_false_eq_true, i_one, ite_not, bI_z, bI_nz, bI_t, bI_f, bI_or, Bool.false_eq_true, Bool.true_eq_false, reduceCtorEq, lc78, hn, e1, ix30, e2, e3, nI_1, q, decide_false, Bool.or_false]) n (Nat.le_refl _)
  rw [n113]
  simp only [x113_0, x113_1, x113_2, x113_3, Option.toList_some, Option.toList_none, List.cons_append, List.nil_append, cat_i, cat_r, cat_n, cat_f, cs_n, cs_i, cs_r, cs_l, cs_f, Nat.reduceAdd, Nat.reduceLeDiff, Nat.zero_le, if_true, if_false, true_or, or_true, am_wr_at, Nat.reduceEqDiff, not_true_eq_false, not_false_eq_true, i_one, ite_not, bI_z, bI_nz, bI_t, bI_f, bI_or, Bool.false_eq_true, Bool.true_eq_false, reduceCtorEq]
  simp only [tak, bI_f] at key
  refine Eq.trans key ?_
  have e1 : nI n ≤ nI n := nI_le (Nat.le_refl _) (by omega)
  rw [x113_4]
  simp only [x113_5, x113_6, x113_9, x113_12, x113_13, x113_16, x113_17, x113_20, x113_21, x113_22, x113_23, x113_24, x113_25, x113_28, x113_29, x113_32, x113_33, x113_34, x113_37, x113_40, Option.toList_some, Option.toList_none, List.cons_append, List.nil_append, cat_i, cat_r, cat_n, cat_f, cs_n, cs_i, cs_r, cs_l, cs_f, Nat.reduceAdd, Nat.reduceLeDiff, Nat.zero_le, if_true, if_false, true_or, or_true, am_wr_at, Nat.reduceEqDiff, not_true_eq_false, not_false_eq_true, i_one, ite_not, bI_z, bI_nz, bI_t, bI_f, bI_or, Bool.false_eq_true, Bool.true_eq_false, reduceCtorEq, hn, e1]
  refine x113_41 ?_
  cases tak (fun w => σ.1 78 (3 * w)) x n <;> decide
theorem s8 {n : Nat} (ha : am_St a) (hn : σ.1 (a + 7) 3 = nI n) (hl : n < 12) : AM sv 8 [.ref (a + 7), .int x, .int y] (am_toH σ) Q = Q none (am_toH (am_wr (am_wr (am_wr (am_wr σ (a + 8) (upd (σ.1 (a + 8)) n x)) (a + 9) (upd (σ.1 (a + 9)) n y)) (a + 10) (upd (σ.1 (a + 10)) n 3)) (a + 7) (upd (σ.1 (a + 7)) 3 (nI (n + 1))))) := by
  have e1 : ¬ 12 ≤ nI n := nI_ge (b := 12) hl (by decide)
  have e2 : am_in (nI n) 12 = true := nI_in' hl (by omega)
  have e3 : (nI n).toNatClampNeg = n := nI_clamp (by omega)
  rw [n8]
  simp only [x8_0, x8_1, x8_4, x8_6, x8_9, x8_10, x8_13, x8_14, x8_17, x8_18, x8_19, x8_20, x8_23, x8_24, x8_27, x8_28, x8_29, x8_30, x8_33, x8_34, x8_37, x8_38, x8_39, x8_40, x8_41, x8_44, x8_45, x8_46, x8_49, Option.toList_some, Option.toList_none, List.cons_append, List.nil_append, cat_i, cat_r, cat_n, cat_f, cs_n, cs_i, cs_r, cs_l, cs_f, Nat.reduceAdd, Nat.reduceLeDiff, Nat.zero_le, if_true, if_false, true_or, or_true, am_wr_at, Nat.reduceEqDiff, not_true_eq_false, not_false_eq_true, i_one, ite_not, bI_z, bI_nz, bI_t, bI_f, bI_or, Bool.false_eq_true, Bool.true_eq_false, reduceCtorEq, ha, hn, e1, e2, e3, ln8, ln9, ln10, nI_1, nep, nep']
theorem s114 {n : Nat} (hn : σ.1 71 7 = nI n) (hl : n < 8) : AM sv 114 [.ref 71, .int x, .int y] (am_toH σ) Q = Q (some (.int (nI n))) (am_toH (am_wr (am_wr σ 78 (upd (upd (upd (σ.1 78) (3 * n) x) (3 * n + 1) y) (3 * n + 2) 3)) 71 (upd (σ.1 71) 7 (nI (n + 1))))) := by
  have y4 : nI (n + 1) - 1 = nI n := nI_pred n
  have m0 : am_in (nI (3 * n)) 24 = true := nI_in' (by omega) (by omega)
  have m1 : am_in (nI (3 * n + 1)) 24 = true := nI_in' (by omega) (by omega)
  have m2 : am_in (nI (3 * n + 2)) 24 = true := nI_in' (by omega) (by omega)
  have d0 : (nI (3 * n)).toNatClampNeg = 3 * n := nI_clamp (by omega)
  have d1 : (nI (3 * n + 1)).toNatClampNeg = 3 * n + 1 := nI_clamp (by omega)
  have d2 : (nI (3 * n + 2)).toNatClampNeg = 3 * n + 2 := nI_clamp (by omega)
  rw [n114]
  simp only [x114_0, x114_1, x114_4, x114_5, x114_6, x114_9, x114_10, x114_11, x114_12, x114_13, x114_16, x114_17, x114_18, x114_21, x114_22, x114_23, x114_24, x114_25, x114_26, x114_27, x114_30, x114_31, x114_32, x114_35, x114_36, x114_37, x114_38, x114_39, x114_40, x114_41, x114_42, x114_45, x114_46, x114_47, x114_50, x114_51, x114_54, x114_55, x114_56, Option.toList_some, Option.toList_none, List.cons_append, List.nil_append, cat_i, cat_r, cat_n, cat_f, cs_n, cs_i, cs_r, cs_l, cs_f, Nat.reduceAdd, Nat.reduceLeDiff, Nat.zero_le, if_true, if_false, true_or, or_true, am_wr_at, Nat.reduceEqDiff, not_true_eq_false, not_false_eq_true, i_one, ite_not, bI_z, bI_nz, bI_t, bI_f, bI_or, Bool.false_eq_true, Bool.true_eq_false, reduceCtorEq, hn, ix30, ix31, ix32, nI_1, nI_p2, m0, m1, m2, d0, d1, d2, lc78, am_wr_wr]
  simp only [upd_at, Option.toList_some, Option.toList_none, List.cons_append, List.nil_append, cat_i, cat_r, cat_n, cat_f, cs_n, cs_i, cs_r, cs_l, cs_f, Nat.reduceAdd, Nat.reduceLeDiff, Nat.zero_le, if_true, if_false, true_or, or_true, am_wr_at, Nat.reduceEqDiff, not_true_eq_false, not_false_eq_true, i_one, ite_not, bI_z, bI_nz, bI_t, bI_f, bI_or, Bool.false_eq_true, Bool.true_eq_false, reduceCtorEq, y4]
theorem Inv_wt {n : Nat} (hI : Inv σ) (hn : σ.1 8 3 = nI n) (hl : n < 8) (hx : rg x 0 11) (hy : rg y 0 3) (hf : ∀ i, i < n → ¬ mV σ 6 i = x) : Inv (am_wr (am_wr (am_wr (am_wr (am_wr (am_wr σ 9 (upd (σ.1 9) n x)) 10 (upd (σ.1 10) n y)) 11 (upd (σ.1 11) n 3)) 8 (upd (σ.1 8) 3 (nI (n + 1)))) 78 (upd (upd (upd (σ.1 78) (3 * n) x) (3 * n + 1) y) (3 * n + 2) 3)) 71 (upd (σ.1 71) 7 (nI (n + 1)))) := by
  have e9 : σ.1 8 3 = σ.1 71 7 := congrFun (congrFun hI.1 9) 0
  have hm : σ.1 71 7 = nI n := by rw [← e9]; exact hn
  refine Inv_mk (V := vwt (mV σ) n x y) hI ⟨?_, ?_, ?_, ?_, ?_, ?_, ?_, ?_, ?_, ?_, ?_, ?_, ?_, fun k q1 q2 => ?_⟩ ?_ ?_ (okV_wt hI.2.1 hm hl hx hy hf)
  iterate 13 (simp only [Option.toList_some, Option.toList_none, List.cons_append, List.nil_append, cat_i, cat_r, cat_n, cat_f, cs_n, cs_i, cs_r, cs_l, cs_f, Nat.reduceAdd, Nat.reduceLeDiff, Nat.zero_le, if_true, if_false, true_or, or_true, am_wr_at, Nat.reduceEqDiff, not_true_eq_false, not_false_eq_true, i_one, ite_not, bI_z, bI_nz, bI_t, bI_f, bI_or, Bool.false_eq_true, Bool.true_eq_false, reduceCtorEq, upd_at])
  · rw [am_wr_ne (by omega), am_wr_ne (by omega), am_wr_ne (by omega), am_wr_ne (by omega), am_wr_ne (by omega), am_wr_ne (by omega)]
  · rw [← hI.1]
    refine (cV_of (σ := am_wr (am_wr (am_wr (am_wr σ 9 (upd (σ.1 9) n x)) 10 (upd (σ.1 10) n y)) 11 (upd (σ.1 11) n 3)) 8 (upd (σ.1 8) 3 (nI (n + 1)))) (fun k q1 q2 => ?_) ?_).trans (cV_wt (a := 1) hn (by omega) (fun k => ?_) ?_ ?_ ?_ ?_)
    · rw [am_wr_ne (by omega), am_wr_ne (by omega)]
    · rw [am_wr_ne (by omega), am_wr_ne (by omega)]
    · by_cases q : k = 8 ∨ k = 9 ∨ k = 10 ∨ k = 11
      · exact Or.inl q
      · refine Or.inr ?_
        rw [am_wr_ne (by omega), am_wr_ne (by omega), am_wr_ne (by omega), am_wr_ne (by omega)]
    iterate 4 (simp only [Option.toList_some, Option.toList_none, List.cons_append, List.nil_append, cat_i, cat_r, cat_n, cat_f, cs_n, cs_i, cs_r, cs_l, cs_f, Nat.reduceAdd, Nat.reduceLeDiff, Nat.zero_le, if_true, if_false, true_or, or_true, am_wr_at, Nat.reduceEqDiff, not_true_eq_false, not_false_eq_true, i_one, ite_not, bI_z, bI_nz, bI_t, bI_f, bI_or, Bool.false_eq_true, Bool.true_eq_false, reduceCtorEq, upd_at])
  · have e0 : mV (am_wr (am_wr (am_wr (am_wr σ 9 (upd (σ.1 9) n x)) 10 (upd (σ.1 10) n y)) 11 (upd (σ.1 11) n 3)) 8 (upd (σ.1 8) 3 (nI (n + 1)))) = mV σ := mV_of (fun k q1 q2 => by rw [am_wr_ne (by omega), am_wr_ne (by omega), am_wr_ne (by omega), am_wr_ne (by omega)]) ⟨by simp only [Option.toList_some, Option.toList_none, List.cons_append, List.nil_append, cat_i, cat_r, cat_n, cat_f, cs_n, cs_i, cs_r, cs_l, cs_f, Nat.reduceAdd, Nat.reduceLeDiff, Nat.zero_le, if_true, if_false, true_or, or_true, am_wr_at, Nat.reduceEqDiff, not_true_eq_false, not_false_eq_true, i_one, ite_not, bI_z, bI_nz, bI_t, bI_f, bI_or, Bool.false_eq_true, Bool.true_eq_false, reduceCtorEq], by simp only [Option.toList_some, Option.toList_none, List.cons_append, List.nil_append, cat_i, cat_r, cat_n, cat_f, cs_n, cs_i, cs_r, cs_l, cs_f, Nat.reduceAdd, Nat.reduceLeDiff, Nat.zero_le, if_true, if_false, true_or, or_true, am_wr_at, Nat.reduceEqDiff, not_true_eq_false, not_false_eq_true, i_one, ite_not, bI_z, bI_nz, bI_t, bI_f, bI_or, Bool.false_eq_true, Bool.true_eq_false, reduceCtorEq], by simp only [Option.toList_some, Option.toList_none, List.cons_append, List.nil_append, cat_i, cat_r, cat_n, cat_f, cs_n, cs_i, cs_r, cs_l, cs_f, Nat.reduceAdd, Nat.reduceLeDiff, Nat.zero_le, if_true, if_false, true_or, or_true, am_wr_at, Nat.reduceEqDiff, not_true_eq_false, not_false_eq_true, i_one, ite_not, bI_z, bI_nz, bI_t, bI_f, bI_or, Bool.false_eq_true, Bool.true_eq_false, reduceCtorEq]⟩ ⟨by simp only [Option.toList_some, Option.toList_none, List.cons_append, List.nil_append, cat_i, cat_r, cat_n, cat_f, cs_n, cs_i, cs_r, cs_l, cs_f, Nat.reduceAdd, Nat.reduceLeDiff, Nat.zero_le, if_true, if_false, true_or, or_true, am_wr_at, Nat.reduceEqDiff, not_true_eq_false, not_false_eq_true, i_one, ite_not, bI_z, bI_nz, bI_t, bI_f, bI_or, Bool.false_eq_true, Bool.true_eq_false, reduceCtorEq], by simp only [Option.toList_some, Option.toList_none, List.cons_append, List.nil_append, cat_i, cat_r, cat_n, cat_f, cs_n, cs_i, cs_r, cs_l, cs_f, Nat.reduceAdd, Nat.reduceLeDiff, Nat.zero_le, if_true, if_false, true_or, or_true, am_wr_at, Nat.reduceEqDiff, not_true_eq_false, not_false_eq_true, i_one, ite_not, bI_z, bI_nz, bI_t, bI_f, bI_or, Bool.false_eq_true, Bool.true_eq_false, reduceCtorEq], by simp only [Option.toList_some, Option.toList_none, List.cons_append, List.nil_append, cat_i, cat_r, cat_n, cat_f, cs_n, cs_i, cs_r, cs_l, cs_f, Nat.reduceAdd, Nat.reduceLeDiff, Nat.zero_le, if_true, if_false, true_or, or_true, am_wr_at, Nat.reduceEqDiff, not_true_eq_false, not_false_eq_true, i_one, ite_not, bI_z, bI_nz, bI_t, bI_f, bI_or, Bool.false_eq_true, Bool.true_eq_false, reduceCtorEq], by simp only [Option.toList_some, Option.toList_none, List.cons_append, List.nil_append, cat_i, cat_r, cat_n, cat_f, cs_n, cs_i, cs_r, cs_l, cs_f, Nat.reduceAdd, Nat.reduceLeDiff, Nat.zero_le, if_true, if_false, true_or, or_true, am_wr_at, Nat.reduceEqDiff, not_true_eq_false, not_false_eq_true, i_one, ite_not, bI_z, bI_nz, bI_t, bI_f, bI_or, Bool.false_eq_true, Bool.true_eq_false, reduceCtorEq]⟩
    rw [← e0]
    refine mV_wt (by simp only [Option.toList_some, Option.toList_none, List.cons_append, List.nil_append, cat_i, cat_r, cat_n, cat_f, cs_n, cs_i, cs_r, cs_l, cs_f, Nat.reduceAdd, Nat.reduceLeDiff, Nat.zero_le, if_true, if_false, true_or, or_true, am_wr_at, Nat.reduceEqDiff, not_true_eq_false, not_false_eq_true, i_one, ite_not, bI_z, bI_nz, bI_t, bI_f, bI_or, Bool.false_eq_true, Bool.true_eq_false, reduceCtorEq]; exact hm) hl (fun k => ?_) ⟨?_, ?_, ?_⟩ ?_ ?_
    · by_cases q : k = 71 ∨ k = 78
      · exact Or.inl q
      · refine Or.inr ?_
        rw [am_wr_ne (by omega), am_wr_ne (by omega)]
    iterate 5 (simp only [Option.toList_some, Option.toList_none, List.cons_append, List.nil_append, cat_i, cat_r, cat_n, cat_f, cs_n, cs_i, cs_r, cs_l, cs_f, Nat.reduceAdd, Nat.reduceLeDiff, Nat.zero_le, if_true, if_false, true_or, or_true, am_wr_at, Nat.reduceEqDiff, not_true_eq_false, not_false_eq_true, i_one, ite_not, bI_z, bI_nz, bI_t, bI_f, bI_or, Bool.false_eq_true, Bool.true_eq_false, reduceCtorEq, upd_at])
/-- watcher -/
theorem sim4 : ∀ x0 x1 : Int32, SimOK sv Inv 65 115 [.int x0, .int x1] := by
  intro s k σ hI
  obtain ⟨n, hn, a1, a2, a3, a4⟩ := isW hI
  have ht : tak (σ.1 9) s n = tak (fun w => σ.1 78 (3 * w)) s n := tak_of n (fun w hw => (rd_w hI hn a1 a2 hw).1)
  have c7 := fun Q => s7 (sv := sv) (Q := Q) (x := s) st1 a1 (by omega : n ≤ 12)
  have m7 := fun Q => s113 (sv := sv) (Q := Q) (x := s) a2 hn
  simp only [Nat.reduceAdd] at c7
  by_cases h0 : am_in s 12 = true
  · by_cases h1 : am_in k 4 = true
    · by_cases hq : tak (fun w => σ.1 78 (3 * w)) s n = true
      · exact ⟨-2, σ, σ, fun Q => by rw [n65]; simp only [x65_0, x65_1, x65_3, x65_6, x65_9, x65_10, x65_11, x65_14, x65_17, x65_18, x65_19, x65_20, x65_23, x65_26, x65_27, x65_30, x65_33, x65_35, x65_36, x65_37, x65_40, x65_43, x65_46, x65_48, x65_51, x65_53, x65_54, x65_55, x65_58, x65_61, x65_62, x65_63, x65_66, x65_67, x65_70, x65_73, x65_76, x65_77, x65_78, Option.toList_some, Option.toList_none, List.cons_append, List.nil_append, cat_i, cat_r, cat_n, cat_f, cs_n, cs_i, cs_r, cs_l, cs_f, Nat.reduceAdd, Nat.reduceLeDiff, Nat.zero_le, if_true, if_false, true_or, or_true, am_wr_at, Nat.reduceEqDiff, not_true_eq_false, not_false_eq_true, i_one, ite_not, bI_z, bI_nz, bI_t, bI_f, bI_or, Bool.false_eq_true, Bool.true_eq_false, reduceCtorEq, lt1, lt2, lt3, lt4, lt5, lt10, lt12, lt16, lt100, lt1000, bt1, bt2, bt3, bt4, bt5, bt10, bt12, bt16, bt100, bt1000, bt6, bt25, bt100000, st1, s97, c7, h0, h1, ht, hq], fun Q => by rw [n115]; simp only [x115_0, x115_1, x115_2, x115_3, x115_6, x115_9, x115_12, x115_13, x115_14, x115_15, x115_18, x115_21, x115_24, x115_25, x115_26, x115_27, x115_28, x115_31, x115_34, x115_36, x115_37, x115_38, x115_41, x115_43, x115_46, x115_48, x115_51, x115_52, x115_53, x115_54, x115_57, Option.toList_some, Option.toList_none, List.cons_append, List.nil_append, cat_i, cat_r, cat_n, cat_f, cs_n, cs_i, cs_r, cs_l, cs_f, Nat.reduceAdd, Nat.reduceLeDiff, Nat.zero_le, if_true, if_false, true_or, or_true, am_wr_at, Nat.reduceEqDiff, not_true_eq_false, not_false_eq_true, i_one, ite_not, bI_z, bI_nz, bI_t, bI_f, bI_or, Bool.false_eq_true, Bool.true_eq_false, reduceCtorEq, lt1, lt2, lt3, lt4, lt5, lt10, lt12, lt16, lt100, lt1000, bt1, bt2, bt3, bt4, bt5, bt10, bt12, bt16, bt100, bt1000, bt6, bt25, bt100000, s104, m7, h0, h1, hq], hI⟩
      · have hq : tak (fun w => σ.1 78 (3 * w)) s n = false := by simpa using hq
        by_cases hf : n = 8
        · subst hf
          have y2 : nI 8 = 8 := rfl
          have y3 : ¬ (8 : Int32) < 8 := by decide
          exact ⟨-3, σ, σ, fun Q => by rw [n65]; simp only [x65_0, x65_1, x65_3, x65_6, x65_9, x65_10, x65_11, x65_14, x65_17, x65_18, x65_19, x65_20, x65_23, x65_26, x65_27, x65_30, x65_33, x65_35, x65_36, x65_37, x65_40, x65_43, x65_46, x65_48, x65_51, x65_53, x65_54, x65_55, x65_58, x65_61, x65_62, x65_63, x65_66, x65_67, x65_70, x65_73, x65_76, x65_77, x65_78, Option.toList_some, Option.toList_none, List.cons_append, List.nil_append, cat_i, cat_r, cat_n, cat_f, cs_n, cs_i, cs_r, cs_l, cs_f, Nat.reduceAdd, Nat.reduceLeDiff, Nat.zero_le, if_true, if_false, true_or, or_true, am_wr_at, Nat.reduceEqDiff, not_true_eq_false, not_false_eq_true, i_one, ite_not, bI_z, bI_nz, bI_t, bI_f, bI_or, Bool.false_eq_true, Bool.true_eq_false, reduceCtorEq, lt1, lt2, lt3, lt4, lt5, lt10, lt12, lt16, lt100, lt1000, bt1, bt2, bt3, bt4, bt5, bt10, bt12, bt16, bt100, bt1000, bt6, bt25, bt100000, st1, s97, c7, h0, h1, ht, hq, a1, y2, y3], fun Q => by rw [n115]; simp only [x115_0, x115_1, x115_2, x115_3, x115_6, x115_9, x115_12, x115_13, x115_14, x115_15, x115_18, x115_21, x115_24, x115_25, x115_26, x115_27, x115_28, x115_31, x115_34, x115_36, x115_37, x115_38, x115_41, x115_43, x115_46, x115_48, x115_51, x115_52, x115_53, x115_54, x115_57, Option.toList_some, Option.toList_none, List.cons_append, List.nil_append, cat_i, cat_r, cat_n, cat_f, cs_n, cs_i, cs_r, cs_l, cs_f, Nat.reduceAdd, Nat.reduceLeDiff, Nat.zero_le, if_true, if_false, true_or, or_true, am_wr_at, Nat.reduceEqDiff, not_true_eq_false, not_false_eq_true, i_one, ite_not, bI_z, bI_nz, bI_t, bI_f, bI_or, Bool.false_eq_true, Bool.true_eq_false, reduceCtorEq, lt1, lt2, lt3, lt4, lt5, lt10, lt12, lt16, lt100, lt1000, bt1, bt2, bt3, bt4, bt5, bt10, bt12, bt16, bt100, bt1000, bt6, bt25, bt100000, s104, m7, h0, h1, hq, a2, y2], hI⟩
        · have y1 : nI n < 8 := nI_lt (b := 8) (by omega) (by decide)
          have y2 : ¬ nI n = 8 := by
            intro q
            rw [q] at y1
            exact absurd y1 (by decide)
          have y4 : nI (n + 1) - 1 = nI n := nI_pred n
          have c8 := fun Q => s8 (sv := sv) (Q := Q) (x := s) (y := k) st1 a1 (by omega : n < 12)
          simp only [Nat.reduceAdd] at c8
          have t7 : tak (fun w => σ.1 78 (3 * w)) s n = false := hq
          have hm2 : (am_wr (am_wr (am_wr (am_wr σ 9 (upd (σ.1 9) n s)) 10 (upd (σ.1 10) n k)) 11 (upd (σ.1 11) n 3)) 8 (upd (σ.1 8) 3 (nI (n + 1)))).1 71 7 = nI n := by simp only [Option.toList_some, Option.toList_none, List.cons_append, List.nil_append, cat_i, cat_r, cat_n, cat_f, cs_n, cs_i, cs_r, cs_l, cs_f, Nat.reduceAdd, Nat.reduceLeDiff, Nat.zero_le, if_true, if_false, true_or, or_true, am_wr_at, Nat.reduceEqDiff, not_true_eq_false, not_false_eq_true, i_one, ite_not, bI_z, bI_nz, bI_t, bI_f, bI_or, Bool.false_eq_true, Bool.true_eq_false, reduceCtorEq]; exact a2
          have k2 := fun Q => s114 (sv := sv) (Q := Q) (x := s) (y := k) hm2 (by omega : n < 8)
          have k7 := fun Q => s113 (sv := sv) (Q := Q) (x := s) hm2 hn
          simp only [Option.toList_some, Option.toList_none, List.cons_append, List.nil_append, cat_i, cat_r, cat_n, cat_f, cs_n, cs_i, cs_r, cs_l, cs_f, Nat.reduceAdd, Nat.reduceLeDiff, Nat.zero_le, if_true, if_false, true_or, or_true, am_wr_at, Nat.reduceEqDiff, not_true_eq_false, not_false_eq_true, i_one, ite_not, bI_z, bI_nz, bI_t, bI_f, bI_or, Bool.false_eq_true, Bool.true_eq_false, reduceCtorEq] at k2 k7
          refine ⟨nI n, am_wr (am_wr (am_wr (am_wr σ 9 (upd (σ.1 9) n s)) 10 (upd (σ.1 10) n k)) 11 (upd (σ.1 11) n 3)) 8 (upd (σ.1 8) 3 (nI (n + 1))), _, fun Q => ?_, fun Q => ?_, Inv_wt (x := s) (y := k) hI a1 (by omega) (inR h0) (inR h1) (fun i hi => by
            show ¬ (if i < (σ.1 71 7).toNatClampNeg then σ.1 78 (3 * i) else 0) = s
            rw [a2, nI_clamp (by omega), if_pos hi]
            exact tak_ff n hq i hi)⟩
          · rw [n65]
            simp only [x65_0, x65_1, x65_3, x65_6, x65_9, x65_10, x65_11, x65_14, x65_17, x65_18, x65_19, x65_20, x65_23, x65_26, x65_27, x65_30, x65_33, x65_35, x65_36, x65_37, x65_40, x65_43, x65_46, x65_48, x65_51, x65_53, x65_54, x65_55, x65_58, x65_61, x65_62, x65_63, x65_66, x65_67, x65_70, x65_73, x65_76, x65_77, x65_78, Option.toList_some, Option.toList_none, List.cons_append, List.nil_append, cat_i, cat_r, cat_n, cat_f, cs_n, cs_i, cs_r, cs_l, cs_f, Nat.reduceAdd, Nat.reduceLeDiff, Nat.zero_le, if_true, if_false, true_or, or_true, am_wr_at, Nat.reduceEqDiff, not_true_eq_false, not_false_eq_true, i_one, ite_not, bI_z, bI_nz, bI_t, bI_f, bI_or, Bool.false_eq_true, Bool.true_eq_false, reduceCtorEq, lt1, lt2, lt3, lt4, lt5, lt10, lt12, lt16, lt100, lt1000, bt1, bt2, bt3, bt4, bt5, bt10, bt12, bt16, bt100, bt1000, bt6, bt25, bt100000, st1, s97, c7, c8, h0, h1, ht, hq, a1, y1, y4, upd_at]
          · rw [n115]
            simp only [x115_0, x115_1, x115_2, x115_3, x115_6, x115_9, x115_12, x115_13, x115_14, x115_15, x115_18, x115_21, x115_24, x115_25, x115_26, x115_27, x115_28, x115_31, x115_34, x115_36, x115_37, x115_38, x115_41, x115_43, x115_46, x115_48, x115_51, x115_52, x115_53, x115_54, x115_57, Option.toList_some, Option.toList_none, List.cons_append, List.nil_append, cat_i, cat_r, cat_n, cat_f, cs_n, cs_i, cs_r, cs_l, cs_f, Nat.reduceAdd, Nat.reduceLeDiff, Nat.zero_le, if_true, if_false, true_or, or_true, am_wr_at, Nat.reduceEqDiff, not_true_eq_false, not_false_eq_true, i_one, ite_not, bI_z, bI_nz, bI_t, bI_f, bI_or, Bool.false_eq_true, Bool.true_eq_false, reduceCtorEq, lt1, lt2, lt3, lt4, lt5, lt10, lt12, lt16, lt100, lt1000, bt1, bt2, bt3, bt4, bt5, bt10, bt12, bt16, bt100, bt1000, bt6, bt25, bt100000, s104, k7, k2, h0, h1, hq, a2, y2]
    · have h1 : am_in k 4 = false := by simpa using h1
      exact ⟨-1, σ, σ, fun Q => by rw [n65]; simp only [x65_0, x65_1, x65_3, x65_6, x65_9, x65_10, x65_11, x65_14, x65_17, x65_18, x65_19, x65_20, x65_23, x65_26, x65_27, x65_30, x65_33, x65_35, x65_36, x65_37, x65_40, x65_43, x65_46, x65_48, x65_51, x65_53, x65_54, x65_55, x65_58, x65_61, x65_62, x65_63, x65_66, x65_67, x65_70, x65_73, x65_76, x65_77, x65_78, Option.toList_some, Option.toList_none, List.cons_append, List.nil_append, cat_i, cat_r, cat_n, cat_f, cs_n, cs_i, cs_r, cs_l, cs_f, Nat.reduceAdd, Nat.reduceLeDiff, Nat.zero_le, if_true, if_false, true_or, or_true, am_wr_at, Nat.reduceEqDiff, not_true_eq_false, not_false_eq_true, i_one, ite_not, bI_z, bI_nz, bI_t, bI_f, bI_or, Bool.false_eq_true, Bool.true_eq_false, reduceCtorEq, lt1, lt2, lt3, lt4, lt5, lt10, lt12, lt16, lt100, lt1000, bt1, bt2, bt3, bt4, bt5, bt10, bt12, bt16, bt100, bt1000, bt6, bt25, bt100000, s97, h0, h1], fun Q => by rw [n115]; simp only [x115_0, x115_1, x115_2, x115_3, x115_6, x115_9, x115_12, x115_13, x115_14, x115_15, x115_18, x115_21, x115_24, x115_25, x115_26, x115_27, x115_28, x115_31, x115_34, x115_36, x115_37, x115_38, x115_41, x115_43, x115_46, x115_48, x115_51, x115_52, x115_53, x115_54, x115_57, Option.toList_some, Option.toList_none, List.cons_append, List.nil_append, cat_i, cat_r, cat_n, cat_f, cs_n, cs_i, cs_r, cs_l, cs_f, Nat.reduceAdd, Nat.reduceLeDiff, Nat.zero_le, if_true, if_false, true_or, or_true, am_wr_at, Nat.reduceEqDiff, not_true_eq_false, not_false_eq_true, i_one, ite_not, bI_z, bI_nz, bI_t, bI_f, bI_or, Bool.false_eq_true, Bool.true_eq_false, reduceCtorEq, lt1, lt2, lt3, lt4, lt5, lt10, lt12, lt16, lt100, lt1000, bt1, bt2, bt3, bt4, bt5, bt10, bt12, bt16, bt100, bt1000, bt6, bt25, bt100000, s104, h0, h1], hI⟩
  · have h0 : am_in s 12 = false := by simpa using h0
    exact ⟨-1, σ, σ, fun Q => by rw [n65]; simp only [x65_0, x65_1, x65_3, x65_6, x65_9, x65_10, x65_11, x65_14, x65_17, x65_18, x65_19, x65_20, x65_23, x65_26, x65_27, x65_30, x65_33, x65_35, x65_36, x65_37, x65_40, x65_43, x65_46, x65_48, x65_51, x65_53, x65_54, x65_55, x65_58, x65_61, x65_62, x65_63, x65_66, x65_67, x65_70, x65_73, x65_76, x65_77, x65_78, Option.toList_some, Option.toList_none, List.cons_append, List.nil_append, cat_i, cat_r, cat_n, cat_f, cs_n, cs_i, cs_r, cs_l, cs_f, Nat.reduceAdd, Nat.reduceLeDiff, Nat.zero_le, if_true, if_false, true_or, or_true, am_wr_at, Nat.reduceEqDiff, not_true_eq_false, not_false_eq_true, i_one, ite_not, bI_z, bI_nz, bI_t, bI_f, bI_or, Bool.false_eq_true, Bool.true_eq_false, reduceCtorEq, lt1, lt2, lt3, lt4, lt5, lt10, lt12, lt16, lt100, lt1000, bt1, bt2, bt3, bt4, bt5, bt10, bt12, bt16, bt100, bt1000, bt6, bt25, bt100000, s97, h0], fun Q => by rw [n115]; simp only [x115_0, x115_1, x115_2, x115_3, x115_6, x115_9, x115_12, x115_13, x115_14, x115_15, x115_18, x115_21, x115_24, x115_25, x115_26, x115_27, x115_28, x115_31, x115_34, x115_36, x115_37, x115_38, x115_41, x115_43, x115_46, x115_48, x115_51, x115_52, x115_53, x115_54, x115_57, Option.toList_some, Option.toList_none, List.cons_append, List.nil_append, cat_i, cat_r, cat_n, cat_f, cs_n, cs_i, cs_r, cs_l, cs_f, Nat.reduceAdd, Nat.reduceLeDiff, Nat.zero_le, if_true, if_false, true_or, or_true, am_wr_at, Nat.reduceEqDiff, not_true_eq_false, not_false_eq_true, i_one, ite_not, bI_z, bI_nz, bI_t, bI_f, bI_or, Bool.false_eq_true, Bool.true_eq_false, reduceCtorEq, lt1, lt2, lt3, lt4, lt5, lt10, lt12, lt16, lt100, lt1000, bt1, bt2, bt3, bt4, bt5, bt10, bt12, bt16, bt100, bt1000, bt6, bt25, bt100000, s104, h0], hI⟩
end I54
