/-! SIMULATIONS: leave -/
/-- the row F from w on, moved down by d up to k -/
def shf (F : Nat → Int32) (d w k : Nat) : Nat → Int32 := fun j => if w ≤ j ∧ j < k then F (j + d) else F j
theorem shf_0 {F : Nat → Int32} {d w : Nat} : shf F d w w = F := by
  funext j
  unfold shf
  rw [if_neg (by omega)]
theorem shf_at {F : Nat → Int32} {d w k : Nat} : shf F d w k (k + d) = F (k + d) := by
  unfold shf
  rw [if_neg (by omega)]
theorem shf_s {F : Nat → Int32} {d w k : Nat} (h : w ≤ k) : upd (shf F d w k) k (F (k + d)) = shf F d w (k + 1) := by
  funext j
  rw [upd_at]
  unfold shf
  by_cases q : j = k
  · subst q
    rw [if_pos rfl, if_pos (by omega)]
  · rw [if_neg q]
    by_cases q2 : w ≤ j ∧ j < k
    · rw [if_pos q2, if_pos (by omega)]
    · rw [if_neg q2, if_neg (by omega)]
/-- three rows of a house -/
def wr3 (σ : am_S) (a : Nat) (F G H : Nat → Int32) : am_S := am_wr (am_wr (am_wr σ (a + 8) F) (a + 9) G) (a + 10) H
section W55
variable {σ : am_S} {a : Nat} {F G H F' : Nat → Int32}
theorem w3_0 : wr3 σ a (σ.1 (a + 8)) (σ.1 (a + 9)) (σ.1 (a + 10)) = σ := by
  obtain ⟨f, g⟩ := σ
  unfold wr3 am_wr
  refine Prod.ext ?_ rfl
  funext k
  by_cases h1 : k = a + 10
  · simp [h1]
  · by_cases h2 : k = a + 9
    · simp [h2]
    · by_cases h3 : k = a + 8
      · simp [h3]
      · simp [h1, h2, h3]
theorem w3_8 : am_wr (wr3 σ a F G H) (a + 8) F' = wr3 σ a F' G H := by
  unfold wr3 am_wr
  refine Prod.ext ?_ rfl
  funext k
  by_cases h1 : k = a + 10
  · simp [h1]
  · by_cases h2 : k = a + 9
    · simp [h2]
    · by_cases h3 : k = a + 8
      · simp [h3]
      · simp [h1, h2, h3]
theorem w3_9 : am_wr (wr3 σ a F G H) (a + 9) F' = wr3 σ a F F' H := by
  unfold wr3 am_wr
  refine Prod.ext ?_ rfl
  funext k
  by_cases h1 : k = a + 10
  · simp [h1]
  · by_cases h2 : k = a + 9
    · simp [h2]
    · by_cases h3 : k = a + 8
      · simp [h3]
      · simp [h1, h2, h3]
theorem w3_10 : am_wr (wr3 σ a F G H) (a + 10) F' = wr3 σ a F G F' := am_wr_wr
theorem w3_r7 : (wr3 σ a F G H).1 (a + 7) = σ.1 (a + 7) := by
  unfold wr3
  rw [am_wr_ne (by omega), am_wr_ne (by omega), am_wr_ne (by omega)]
theorem w3_r8 : (wr3 σ a F G H).1 (a + 8) = F := by
  unfold wr3
  rw [am_wr_ne (by omega), am_wr_ne (by omega), am_wr_eq]
theorem w3_r9 : (wr3 σ a F G H).1 (a + 9) = G := by
  unfold wr3
  rw [am_wr_ne (by omega), am_wr_eq]
theorem w3_r10 : (wr3 σ a F G H).1 (a + 10) = H := by
  unfold wr3
  rw [am_wr_eq]
end W55
/-- the watchers' rows without one -/
def vlv (V : Nat → Nat → Int32) (m w : Nat) : Nat → Nat → Int32 := fun i j => if i = 9 ∧ j = 0 then nI m else if i = 6 ∨ i = 7 ∨ i = 8 then (if j < m then (if w ≤ j then V i (j + 1) else V i j) else 0) else V i j
theorem row_lv {F : Nat → Int32} {m w j : Nat} : (if j < m then shf F 1 w m j else 0) = (if j < m then (if w ≤ j then (if j + 1 < m + 1 then F (j + 1) else 0) else (if j < m + 1 then F j else 0)) else 0) := by
  unfold shf
  by_cases h : j < m
  · rw [if_pos h, if_pos h]
    by_cases q : w ≤ j
    · rw [if_pos ⟨q, h⟩, if_pos q, if_pos (by omega)]
    · rw [if_neg (by omega), if_neg q, if_pos (by omega)]
  · rw [if_neg h, if_neg h]
theorem cV_lv {σ τ : am_S} {a m w : Nat} (hn : σ.1 (a + 7) 3 = nI (m + 1)) (hl : m < 12) (h1 : ∀ k, (k = a + 7 ∨ k = a + 8 ∨ k = a + 9 ∨ k = a + 10) ∨ τ.1 k = σ.1 k) (h2 : τ.1 (a + 7) 3 = nI m) (h3 : τ.1 (a + 8) = shf (σ.1 (a + 8)) 1 w m) (h4 : τ.1 (a + 9) = shf (σ.1 (a + 9)) 1 w m) (h5 : τ.1 (a + 10) = shf (σ.1 (a + 10)) 1 w m) : cV τ a = vlv (cV σ a) m w := by
  have f : ∀ k, (k < 7 ∨ 10 < k) → τ.1 (a + k) = σ.1 (a + k) := by
    intro k q1
    rcases h1 (a + k) with q | q
    · omega
    · exact q
  have f0 : τ.1 a = σ.1 a := f 0 (by omega)
  have c1 : (nI m).toNatClampNeg = m := nI_clamp (by omega)
  have c2 : (nI (m + 1)).toNatClampNeg = m + 1 := nI_clamp (by omega)
  funext i j
  unfold vlv cV
  simp only [f 2 (by omega), f 3 (by omega), f 4 (by omega), f 5 (by omega), f 6 (by omega), f 11 (by omega), f 12 (by omega), f 13 (by omega), f 14 (by omega), f 15 (by omega), f 16 (by omega), f 17 (by omega), f 18 (by omega), f 19 (by omega), f0, h2, h3, h4, h5, hn, c1, c2, row_lv]
  by_cases e9 : i = 9
  · subst e9
    by_cases e3 : j = 0
    · subst e3; simp
    · simp [e3]
      split <;> first | rfl | simp_all
  · by_cases e10 : i = 6
    · subst e10; simp
    · by_cases e11 : i = 7
      · subst e11; simp
      · by_cases e12 : i = 8
        · subst e12; simp
        · simp [e9, e10, e11, e12]
          split <;> first | rfl | simp_all
theorem row_lv3 {F : Nat → Int32} {m w j t : Nat} (ht : t < 3) : (if j < m then shf F 3 (3 * w) (3 * m) (3 * j + t) else 0) = (if j < m then (if w ≤ j then (if j + 1 < m + 1 then F (3 * (j + 1) + t) else 0) else (if j < m + 1 then F (3 * j + t) else 0)) else 0) := by
  unfold shf
  by_cases h : j < m
  · rw [if_pos h, if_pos h]
    by_cases q : w ≤ j
    · rw [if_pos (by omega), if_pos q, if_pos (by omega), show 3 * j + t + 3 = 3 * (j + 1) + t by omega]
    · rw [if_neg (by omega), if_neg q, if_pos (by omega)]
  · rw [if_neg h, if_neg h]
theorem mV_lv {σ τ : am_S} {m w : Nat} (hn : σ.1 71 7 = nI (m + 1)) (hl : m < 8) (h1 : ∀ k, (k = 71 ∨ k = 78) ∨ τ.1 k = σ.1 k) (h0 : τ.1 71 5 = σ.1 71 5 ∧ τ.1 71 16 = σ.1 71 16 ∧ τ.1 71 19 = σ.1 71 19) (h2 : τ.1 71 7 = nI m) (h3 : τ.1 78 = shf (σ.1 78) 3 (3 * w) (3 * m)) : mV τ = vlv (mV σ) m w := by
  have f : ∀ k, k ≠ 71 → k ≠ 78 → τ.1 k = σ.1 k := by
    intro k q1 q2
    rcases h1 k with q | q
    · omega
    · exact q
  have c1 : (nI m).toNatClampNeg = m := nI_clamp (by omega)
  have c2 : (nI (m + 1)).toNatClampNeg = m + 1 := nI_clamp (by omega)
  have g0 := fun j => row_lv3 (F := σ.1 78) (m := m) (w := w) (j := j) (t := 0) (by decide)
  have g1 := fun j => row_lv3 (F := σ.1 78) (m := m) (w := w) (j := j) (t := 1) (by decide)
  have g2 := fun j => row_lv3 (F := σ.1 78) (m := m) (w := w) (j := j) (t := 2) (by decide)
  simp only [Nat.add_zero] at g0
  funext i j
  unfold vlv mV
  simp only [f 72 (by decide) (by decide), f 73 (by decide) (by decide), f 74 (by decide) (by decide), f 75 (by decide) (by decide), f 76 (by decide) (by decide), f 77 (by decide) (by decide), f 81 (by decide) (by decide), f 83 (by decide) (by decide), f 84 (by decide) (by decide), h0.1, h0.2.1, h0.2.2, h2, h3, hn, c1, c2, g0, g1, g2]
  by_cases e9 : i = 9
  · subst e9
    by_cases e3 : j = 0
    · subst e3; simp
    · simp [e3]
      split <;> first | rfl | simp_all
  · by_cases e10 : i = 6
    · subst e10; simp
    · by_cases e11 : i = 7
      · subst e11; simp
      · by_cases e12 : i = 8
        · subst e12; simp
        · simp [e9, e10, e11, e12]
          split <;> first | rfl | simp_all
theorem okV_lv {V : Nat → Nat → Int32} {m w : Nat} (h : okV V) (hn : V 9 0 = nI (m + 1)) (hl : m < 8) : okV (vlv V m w) := by
  obtain ⟨o1, o2, o3, o4, o5, o6, o7, o8, o9⟩ := h
  refine ⟨o1, o2, ?_, o4, o5, o6, fun j hj => ?_, o8, o9⟩
  · show rg (nI m) 0 8
    rw [rg, nI_toInt (by omega)]
    omega
  · have hj2 : j < m := by
      have : (vlv V m w 9 0) = nI m := by simp [vlv]
      rw [this, nI_clamp (by omega)] at hj
      exact hj
    have q0 := o7 j (by rw [hn, nI_clamp (by omega)]; omega)
    have q1 := o7 (j + 1) (by rw [hn, nI_clamp (by omega)]; omega)
    by_cases e : w ≤ j
    · have h6 : vlv V m w 6 j = V 6 (j + 1) := by simp [vlv, e, hj2]
      have h7 : vlv V m w 7 j = V 7 (j + 1) := by simp [vlv, e, hj2]
      have h8 : vlv V m w 8 j = V 8 (j + 1) := by simp [vlv, e, hj2]
      rw [h6, h7, h8]
      refine ⟨q1.1, q1.2.1, q1.2.2.1, q1.2.2.2.1, fun i hi => ?_⟩
      have him : i < m := by omega
      by_cases e' : w ≤ i
      · have h9 : vlv V m w 6 i = V 6 (i + 1) := by simp [vlv, e', him]
        rw [h9]; exact q1.2.2.2.2 (i + 1) (by omega)
      · have h9 : vlv V m w 6 i = V 6 i := by simp [vlv, e', him]
        rw [h9]; exact q1.2.2.2.2 i (by omega)
    · have h6 : vlv V m w 6 j = V 6 j := by simp [vlv, e, hj2]
      have h7 : vlv V m w 7 j = V 7 j := by simp [vlv, e, hj2]
      have h8 : vlv V m w 8 j = V 8 j := by simp [vlv, e, hj2]
      rw [h6, h7, h8]
      refine ⟨q0.1, q0.2.1, q0.2.2.1, q0.2.2.2.1, fun i hi => ?_⟩
      have him : i < m := by omega
      have e' : ¬ w ≤ i := by omega
      have h9 : vlv V m w 6 i = V 6 i := by simp [vlv, e', him]
      rw [h9]; exact q0.2.2.2.2 i hi
section I55
variable {sv : am_V} {h : am_H} {σ : am_S} {Q : Option Value → am_H → Prop} {x y : Int32} {a : Nat}
theorem s9 {m w : Nat} (ha : am_St a) (hn : σ.1 (a + 7) 3 = nI (m + 1)) (hl : m < 12) (hw : w ≤ m) : AM sv 9 [.ref (a + 7), .int (nI w)] (am_toH σ) Q = Q none (am_toH (am_wr (wr3 σ a (shf (σ.1 (a + 8)) 1 w m) (shf (σ.1 (a + 9)) 1 w m) (shf (σ.1 (a + 10)) 1 w m)) (a + 7) (upd (σ.1 (a + 7)) 3 (nI m)))) := by
  have key := am_up2 (L := w) (N := m) (f := fun i => AW sv 9 4 [.ref (a + 7), .int (nI w), .int (nI (i + 1))] [] (am_toH (wr3 σ a (shf (σ.1 (a + 8)) 1 w i) (shf (σ.1 (a + 9)) 1 w i) (shf (σ.1 (a + 10)) 1 w i))) 0 0 Q) (by
    intro i hl hi
    have e1 : ¬ nI (m + 1) ≤ nI (i + 1) := nI_ge (by omega) (by omega)
    have e2 : am_in (nI i) 12 = true := nI_in' (by omega) (by omega)
    have e3 : (nI i).toNatClampNeg = i := nI_clamp (by omega)
    have e4 : am_in (nI (i + 1)) 12 = true := nI_in' (by omega) (by omega)
    have e5 : (nI (i + 1)).toNatClampNeg = i + 1 := nI_clamp (by omega)
    have e6 : nI (i + 1) - 1 = nI i := nI_pred i
    have g := fun F => shf_s (F := F) (d := 1) hl
    have g' := fun F => shf_at (F := F) (d := 1) (w := w) (k := i)
    rw [x9_4]
    simp only [x9_5, x9_6, x9_9, x9_12, x9_13, x9_16, x9_17, x9_18, x9_19, x9_20, x9_23, x9_24, x9_25, x9_26, x9_27, x9_30, x9_31, x9_32, x9_33, x9_34, x9_37, x9_38, x9_39, x9_40, x9_41, x9_44, x9_45, x9_46, x9_47, x9_48, x9_51, x9_52, x9_53, x9_54, x9_57, Option.toList_some, Option.toList_none, List.cons_append, List.nil_append, cat_i, cat_r, cat_n, cat_f, cs_n, cs_i, cs_r, cs_l, cs_f, Nat.reduceAdd, Nat.reduceLeDiff, Nat.zero_le, if_true, if_false, true_or, or_true, ha, ln8, ln9, ln10, w3_r7, w3_r8, w3_r9, w3_r10, w3_8, w3_9, w3_10, hn, e1, e2, e3, e4, e5, e6, g, g', nI_1]) m hw (Nat.le_refl _)
  simp only [shf_0, w3_0] at key
  have e1 : nI (m + 1) ≤ nI (m + 1) := nI_le (Nat.le_refl _) (by omega)
  have e6 : nI (m + 1) - 1 = nI m := nI_pred m
  rw [n9]
  simp only [x9_0, x9_1, x9_2, x9_3, Option.toList_some, Option.toList_none, List.cons_append, List.nil_append, cat_i, cat_r, cat_n, cat_f, cs_n, cs_i, cs_r, cs_l, cs_f, Nat.reduceAdd, Nat.reduceLeDiff, Nat.zero_le, if_true, if_false, true_or, or_true, nI_1]
  refine Eq.trans key ?_
  rw [x9_4]
  simp only [x9_5, x9_6, x9_9, x9_60, x9_61, x9_62, x9_65, x9_66, x9_67, x9_70, Option.toList_some, Option.toList_none, List.cons_append, List.nil_append, cat_i, cat_r, cat_n, cat_f, cs_n, cs_i, cs_r, cs_l, cs_f, Nat.reduceAdd, Nat.reduceLeDiff, Nat.zero_le, if_true, if_false, true_or, or_true, ha, w3_r7, hn, e1, e6]
theorem s118l {m w : Nat} (hl : m < 8) (hw : w ≤ m) (hn : σ.1 71 7 = nI m) : AW sv 118 24 [.ref 71, .int (nI w), .int (nI (3 * w))] [] (am_toH σ) 0 0 Q = Q (some (.int (nI m))) (am_toH (am_wr σ 78 (shf (σ.1 78) 3 (3 * w) (3 * m)))) := by
  have key := am_up2 (L := 3 * w) (N := 3 * m) (f := fun i => AW sv 118 24 [.ref 71, .int (nI w), .int (nI i)] [] (am_toH (am_wr σ 78 (shf (σ.1 78) 3 (3 * w) i))) 0 0 Q) (by
    intro i hl hi
    have e1 : ¬ nI (3 * m) ≤ nI i := nI_ge (by omega) (by omega)
    have e2 : am_in (nI i) 24 = true := nI_in' (by omega) (by omega)
    have e3 : (nI i).toNatClampNeg = i := nI_clamp (by omega)
    have e4 : am_in (nI (i + 3)) 24 = true := nI_in' (by omega) (by omega)
    have e5 : (nI (i + 3)).toNatClampNeg = i + 3 := nI_clamp (by omega)
    have g := fun F => shf_s (F := F) (d := 3) hl
    have g' := fun F => shf_at (F := F) (d := 3) (w := 3 * w) (k := i)
    rw [x118_24]
    simp only [x118_25, x118_26, x118_27, x118_30, x118_31, x118_34, x118_35, x118_38, x118_39, x118_40, x118_43, x118_44, x118_45, x118_46, x118_47, x118_48, x118_51, Option.toList_some, Option.toList_none, List.cons_append, List.nil_append, cat_i, cat_r, cat_n, cat_f, cs_n, cs_i, cs_r, cs_l, cs_f, Nat.reduceAdd, Nat.reduceLeDiff, Nat.zero_le, if_true, if_false, true_or, or_true, am_wr_at, Nat.reduceEqDiff, not_true_eq_false, not_false_eq_true, i_one, ite_not, bI_z, bI_nz, bI_t, bI_f, bI_or, Bool.false_eq_true, Bool.true_eq_false, reduceCtorEq, lc78, hn, ix30, nI_p3, nI_1, e1, e2, e3, e4, e5, g, g', am_wr_wr]) (3 * m) (by omega) (Nat.le_refl _)
  simp only [shf_0, wr_id] at key
  refine Eq.trans key ?_
  have e1 : nI (3 * m) ≤ nI (3 * m) := nI_le (Nat.le_refl _) (by omega)
  rw [x118_24]
  simp only [x118_25, x118_26, x118_27, x118_30, x118_31, x118_54, x118_55, x118_58, Option.toList_some, Option.toList_none, List.cons_append, List.nil_append, cat_i, cat_r, cat_n, cat_f, cs_n, cs_i, cs_r, cs_l, cs_f, Nat.reduceAdd, Nat.reduceLeDiff, Nat.zero_le, if_true, if_false, true_or, or_true, am_wr_at, Nat.reduceEqDiff, not_true_eq_false, not_false_eq_true, i_one, ite_not, bI_z, bI_nz, bI_t, bI_f, bI_or, Bool.false_eq_true, Bool.true_eq_false, reduceCtorEq, hn, ix30, e1]
/-- leave -/
theorem sim7 : ∀ x0 : Int32, SimOK sv Inv 68 118 [.int x0] := by
  intro x σ hI
  obtain ⟨n, hn, a1, a2, a3, a4⟩ := isW hI
  by_cases h0 : am_in x n = true
  · obtain ⟨w, hw, rfl⟩ := in_nI h0 (by omega)
    obtain ⟨m, rfl⟩ : ∃ m, n = m + 1 := ⟨n - 1, by omega⟩
    have y4 : nI (m + 1) - 1 = nI m := nI_pred m
    rw [y4] at a4
    have c9 := fun Q => s9 (sv := sv) (Q := Q) st1 a1 (by omega : m < 12) (by omega : w ≤ m)
    simp only [Nat.reduceAdd] at c9
    have k9 := fun Q => s118l (sv := sv) (Q := Q) (w := w) (m := m) (σ := am_wr (am_wr (wr3 σ 1 (shf (σ.1 9) 1 w m) (shf (σ.1 10) 1 w m) (shf (σ.1 11) 1 w m)) 8 (upd (σ.1 8) 3 (nI m))) 71 (upd (σ.1 71) 7 (nI m))) (by omega) (by omega) (by simp only [Option.toList_some, Option.toList_none, List.cons_append, List.nil_append, cat_i, cat_r, cat_n, cat_f, cs_n, cs_i, cs_r, cs_l, cs_f, Nat.reduceAdd, Nat.reduceLeDiff, Nat.zero_le, if_true, if_false, true_or, or_true, am_wr_at, Nat.reduceEqDiff, not_true_eq_false, not_false_eq_true, i_one, ite_not, bI_z, bI_nz, bI_t, bI_f, bI_or, Bool.false_eq_true, Bool.true_eq_false, reduceCtorEq, upd_at])
    simp only [Option.toList_some, Option.toList_none, List.cons_append, List.nil_append, cat_i, cat_r, cat_n, cat_f, cs_n, cs_i, cs_r, cs_l, cs_f, Nat.reduceAdd, Nat.reduceLeDiff, Nat.zero_le, if_true, if_false, true_or, or_true, am_wr_at, Nat.reduceEqDiff, not_true_eq_false, not_false_eq_true, i_one, ite_not, bI_z, bI_nz, bI_t, bI_f, bI_or, Bool.false_eq_true, Bool.true_eq_false, reduceCtorEq, wr3] at k9
    refine ⟨nI m, am_wr (wr3 σ 1 (shf (σ.1 9) 1 w m) (shf (σ.1 10) 1 w m) (shf (σ.1 11) 1 w m)) 8 (upd (σ.1 8) 3 (nI m)), am_wr (am_wr (am_wr (wr3 σ 1 (shf (σ.1 9) 1 w m) (shf (σ.1 10) 1 w m) (shf (σ.1 11) 1 w m)) 8 (upd (σ.1 8) 3 (nI m))) 71 (upd (σ.1 71) 7 (nI m))) 78 (shf (σ.1 78) 3 (3 * w) (3 * m)), fun Q => ?_, fun Q => ?_, ?_⟩
    · rw [n68]
      simp only [x68_0, x68_1, x68_2, x68_5, x68_8, x68_11, x68_14, x68_17, x68_18, x68_19, x68_20, x68_23, x68_26, x68_27, x68_30, x68_31, x68_34, x68_37, x68_40, Option.toList_some, Option.toList_none, List.cons_append, List.nil_append, cat_i, cat_r, cat_n, cat_f, cs_n, cs_i, cs_r, cs_l, cs_f, Nat.reduceAdd, Nat.reduceLeDiff, Nat.zero_le, if_true, if_false, true_or, or_true, am_wr_at, Nat.reduceEqDiff, not_true_eq_false, not_false_eq_true, i_one, ite_not, bI_z, bI_nz, bI_t, bI_f, bI_or, Bool.false_eq_true, Bool.true_eq_false, reduceCtorEq, lt1, lt2, lt3, lt4, lt5, lt10, lt12, lt16, lt100, lt1000, bt1, bt2, bt3, bt4, bt5, bt10, bt12, bt16, bt100, bt1000, bt6, bt25, bt100000, st1, s97, a1, a3, h0, c9, upd_at]
    · rw [n118]
      simp only [wr3]
      simp only [x118_0, x118_1, x118_2, x118_5, x118_8, x118_9, x118_10, x118_11, x118_12, x118_15, x118_16, x118_17, x118_20, x118_21, x118_22, x118_23, Option.toList_some, Option.toList_none, List.cons_append, List.nil_append, cat_i, cat_r, cat_n, cat_f, cs_n, cs_i, cs_r, cs_l, cs_f, Nat.reduceAdd, Nat.reduceLeDiff, Nat.zero_le, if_true, if_false, true_or, or_true, am_wr_at, Nat.reduceEqDiff, not_true_eq_false, not_false_eq_true, i_one, ite_not, bI_z, bI_nz, bI_t, bI_f, bI_or, Bool.false_eq_true, Bool.true_eq_false, reduceCtorEq, lt1, lt2, lt3, lt4, lt5, lt10, lt12, lt16, lt100, lt1000, bt1, bt2, bt3, bt4, bt5, bt10, bt12, bt16, bt100, bt1000, bt6, bt25, bt100000, s108, a2, a4, h0, y4, ix30, k9]
    · refine Inv_mk (V := vlv (mV σ) m w) hI ⟨?_, ?_, ?_, ?_, ?_, ?_, ?_, ?_, ?_, ?_, ?_, ?_, ?_, fun k q1 q2 => ?_⟩ ?_ ?_ (okV_lv hI.2.1 a2 (by omega))
      iterate 13 (simp only [wr3, Option.toList_some, Option.toList_none, List.cons_append, List.nil_append, cat_i, cat_r, cat_n, cat_f, cs_n, cs_i, cs_r, cs_l, cs_f, Nat.reduceAdd, Nat.reduceLeDiff, Nat.zero_le, if_true, if_false, true_or, or_true, am_wr_at, Nat.reduceEqDiff, not_true_eq_false, not_false_eq_true, i_one, ite_not, bI_z, bI_nz, bI_t, bI_f, bI_or, Bool.false_eq_true, Bool.true_eq_false, reduceCtorEq, upd_at])
      · unfold wr3
        rw [am_wr_ne (by omega), am_wr_ne (by omega), am_wr_ne (by omega), am_wr_ne (by omega), am_wr_ne (by omega), am_wr_ne (by omega)]
      · rw [← hI.1]
        refine (cV_of (σ := am_wr (wr3 σ 1 (shf (σ.1 9) 1 w m) (shf (σ.1 10) 1 w m) (shf (σ.1 11) 1 w m)) 8 (upd (σ.1 8) 3 (nI m))) (fun k q1 q2 => ?_) ?_).trans (cV_lv (a := 1) a1 (by omega) (fun k => ?_) ?_ ?_ ?_ ?_)
        · rw [am_wr_ne (by omega), am_wr_ne (by omega)]
        · rw [am_wr_ne (by omega), am_wr_ne (by omega)]
        · by_cases q : k = 8 ∨ k = 9 ∨ k = 10 ∨ k = 11
          · exact Or.inl q
          · refine Or.inr ?_
            unfold wr3
            rw [am_wr_ne (by omega), am_wr_ne (by omega), am_wr_ne (by omega), am_wr_ne (by omega)]
        iterate 4 (simp only [wr3, Option.toList_some, Option.toList_none, List.cons_append, List.nil_append, cat_i, cat_r, cat_n, cat_f, cs_n, cs_i, cs_r, cs_l, cs_f, Nat.reduceAdd, Nat.reduceLeDiff, Nat.zero_le, if_true, if_false, true_or, or_true, am_wr_at, Nat.reduceEqDiff, not_true_eq_false, not_false_eq_true, i_one, ite_not, bI_z, bI_nz, bI_t, bI_f, bI_or, Bool.false_eq_true, Bool.true_eq_false, reduceCtorEq, upd_at])
      · have e0 : mV (am_wr (wr3 σ 1 (shf (σ.1 9) 1 w m) (shf (σ.1 10) 1 w m) (shf (σ.1 11) 1 w m)) 8 (upd (σ.1 8) 3 (nI m))) = mV σ := mV_of (fun k q1 q2 => by unfold wr3; rw [am_wr_ne (by omega), am_wr_ne (by omega), am_wr_ne (by omega), am_wr_ne (by omega)]) ⟨by simp only [wr3, Option.toList_some, Option.toList_none, List.cons_append, List.nil_append, cat_i, cat_r, cat_n, cat_f, cs_n, cs_i, cs_r, cs_l, cs_f, Nat.reduceAdd, Nat.reduceLeDiff, Nat.zero_le, if_true, if_false, true_or, or_true, am_wr_at, Nat.reduceEqDiff, not_true_eq_false, not_false_eq_true, i_one, ite_not, bI_z, bI_nz, bI_t, bI_f, bI_or, Bool.false_eq_true, Bool.true_eq_false, reduceCtorEq], by simp only [wr3, Option.toList_some, Option.toList_none, List.cons_append, List.nil_append, cat_i, cat_r, cat_n, cat_f, cs_n, cs_i, cs_r, cs_l, cs_f, Nat.reduceAdd, Nat.reduceLeDiff, Nat.zero_le, if_true, if_false, true_or, or_true, am_wr_at, Nat.reduceEqDiff, not_true_eq_false, not_false_eq_true, i_one, ite_not, bI_z, bI_nz, bI_t, bI_f, bI_or, Bool.false_eq_true, Bool.true_eq_false, reduceCtorEq], by simp only [wr3, Option.toList_some, Option.toList_none, List.cons_append, List.nil_append, cat_i, cat_r, cat_n, cat_f, cs_n, cs_i, cs_r, cs_l, cs_f, Nat.reduceAdd, Nat.reduceLeDiff, Nat.zero_le, if_true, if_false, true_or, or_true, am_wr_at, Nat.reduceEqDiff, not_true_eq_false, not_false_eq_true, i_one, ite_not, bI_z, bI_nz, bI_t, bI_f, bI_or, Bool.false_eq_true, Bool.true_eq_false, reduceCtorEq]⟩ ⟨by simp only [wr3, Option.toList_some, Option.toList_none, List.cons_append, List.nil_append, cat_i, cat_r, cat_n, cat_f, cs_n, cs_i, cs_r, cs_l, cs_f, Nat.reduceAdd, Nat.reduceLeDiff, Nat.zero_le, if_true, if_false, true_or, or_true, am_wr_at, Nat.reduceEqDiff, not_true_eq_false, not_false_eq_true, i_one, ite_not, bI_z, bI_nz, bI_t, bI_f, bI_or, Bool.false_eq_true, Bool.true_eq_false, reduceCtorEq], by simp only [wr3, Option.toList_some, Option.toList_none, List.cons_append, List.nil_append, cat_i, cat_r, cat_n, cat_f, cs_n, cs_i, cs_r, cs_l, cs_f, Nat.reduceAdd, Nat.reduceLeDiff, Nat.zero_le, if_true, if_false, true_or, or_true, am_wr_at, Nat.reduceEqDiff, not_true_eq_false, not_false_eq_true, i_one, ite_not, bI_z, bI_nz, bI_t, bI_f, bI_or, Bool.false_eq_true, Bool.true_eq_false, reduceCtorEq], by simp only [wr3, Option.toList_some, Option.toList_none, List.cons_append, List.nil_append, cat_i, cat_r, cat_n, cat_f, cs_n, cs_i, cs_r, cs_l, cs_f, Nat.reduceAdd, Nat.reduceLeDiff, Nat.zero_le, if_true, if_false, true_or, or_true, am_wr_at, Nat.reduceEqDiff, not_true_eq_false, not_false_eq_true, i_one, ite_not, bI_z, bI_nz, bI_t, bI_f, bI_or, Bool.false_eq_true, Bool.true_eq_false, reduceCtorEq], by simp only [wr3, Option.toList_some, Option.toList_none, List.cons_append, List.nil_append, cat_i, cat_r, cat_n, cat_f, cs_n, cs_i, cs_r, cs_l, cs_f, Nat.reduceAdd, Nat.reduceLeDiff, Nat.zero_le, if_true, if_false, true_or, or_true, am_wr_at, Nat.reduceEqDiff, not_true_eq_false, not_false_eq_true, i_one, ite_not, bI_z, bI_nz, bI_t, bI_f, bI_or, Bool.false_eq_true, Bool.true_eq_false, reduceCtorEq]⟩
        rw [← e0]
        refine mV_lv (by simp only [wr3, Option.toList_some, Option.toList_none, List.cons_append, List.nil_append, cat_i, cat_r, cat_n, cat_f, cs_n, cs_i, cs_r, cs_l, cs_f, Nat.reduceAdd, Nat.reduceLeDiff, Nat.zero_le, if_true, if_false, true_or, or_true, am_wr_at, Nat.reduceEqDiff, not_true_eq_false, not_false_eq_true, i_one, ite_not, bI_z, bI_nz, bI_t, bI_f, bI_or, Bool.false_eq_true, Bool.true_eq_false, reduceCtorEq]; exact a2) (by omega) (fun k => ?_) ⟨?_, ?_, ?_⟩ ?_ ?_
        · by_cases q : k = 71 ∨ k = 78
          · exact Or.inl q
          · refine Or.inr ?_
            rw [am_wr_ne (by omega), am_wr_ne (by omega)]
        iterate 5 (simp only [wr3, Option.toList_some, Option.toList_none, List.cons_append, List.nil_append, cat_i, cat_r, cat_n, cat_f, cs_n, cs_i, cs_r, cs_l, cs_f, Nat.reduceAdd, Nat.reduceLeDiff, Nat.zero_le, if_true, if_false, true_or, or_true, am_wr_at, Nat.reduceEqDiff, not_true_eq_false, not_false_eq_true, i_one, ite_not, bI_z, bI_nz, bI_t, bI_f, bI_or, Bool.false_eq_true, Bool.true_eq_false, reduceCtorEq, upd_at])
  · have h0 : am_in x n = false := by simpa using h0
    exact ⟨-1, σ, σ, fun Q => by rw [n68]; simp only [x68_0, x68_1, x68_2, x68_5, x68_8, x68_11, x68_14, x68_17, x68_18, x68_19, x68_20, x68_23, x68_26, x68_27, x68_30, x68_31, x68_34, x68_37, x68_40, Option.toList_some, Option.toList_none, List.cons_append, List.nil_append, cat_i, cat_r, cat_n, cat_f, cs_n, cs_i, cs_r, cs_l, cs_f, Nat.reduceAdd, Nat.reduceLeDiff, Nat.zero_le, if_true, if_false, true_or, or_true, am_wr_at, Nat.reduceEqDiff, not_true_eq_false, not_false_eq_true, i_one, ite_not, bI_z, bI_nz, bI_t, bI_f, bI_or, Bool.false_eq_true, Bool.true_eq_false, reduceCtorEq, lt1, lt2, lt3, lt4, lt5, lt10, lt12, lt16, lt100, lt1000, bt1, bt2, bt3, bt4, bt5, bt10, bt12, bt16, bt100, bt1000, bt6, bt25, bt100000, st1, s97, a1, a3, h0], fun Q => by rw [n118]; simp only [x118_0, x118_1, x118_2, x118_5, x118_8, x118_9, x118_10, x118_11, x118_12, x118_15, x118_16, x118_17, x118_20, x118_21, x118_22, x118_23, Option.toList_some, Option.toList_none, List.cons_append, List.nil_append, cat_i, cat_r, cat_n, cat_f, cs_n, cs_i, cs_r, cs_l, cs_f, Nat.reduceAdd, Nat.reduceLeDiff, Nat.zero_le, if_true, if_false, true_or, or_true, am_wr_at, Nat.reduceEqDiff, not_true_eq_false, not_false_eq_true, i_one, ite_not, bI_z, bI_nz, bI_t, bI_f, bI_or, Bool.false_eq_true, Bool.true_eq_false, reduceCtorEq, lt1, lt2, lt3, lt4, lt5, lt10, lt12, lt16, lt100, lt1000, bt1, bt2, bt3, bt4, bt5, bt10, bt12, bt16, bt100, bt1000, bt6, bt25, bt100000, s108, a2, a4, h0], hI⟩
end I55
