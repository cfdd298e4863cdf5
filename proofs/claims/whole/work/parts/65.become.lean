/-! BECOME: a stage becomes another -/
def am_Pr (d s : Nat) : Prop := am_St d ∧ am_St s ∧ d ≠ s
theorem Pr_ne {d s : Nat} (h : am_Pr d s) : ∀ i j, i ≤ 20 → j ≤ 20 → (s + i = d + j) = False := by
  intro i j hi hj
  obtain ⟨h1, h2, h3⟩ := h
  apply eq_false
  rcases h1 with rfl | rfl | rfl <;> rcases h2 with rfl | rfl | rfl <;> omega
theorem pr44 : am_Pr 44 1 := ⟨Or.inr (Or.inr rfl), Or.inl rfl, by decide⟩
theorem pr1 : am_Pr 1 44 := ⟨Or.inl rfl, Or.inr (Or.inr rfl), by decide⟩
theorem pr22 : am_Pr 22 1 := ⟨Or.inr (Or.inl rfl), Or.inl rfl, by decide⟩
theorem pr1k : am_Pr 1 22 := ⟨Or.inl rfl, Or.inr (Or.inl rfl), by decide⟩
theorem g0i : (0 ≤ (0 : Int32).toInt) = True := eq_true (by decide)
theorem g16i : (0 ≤ (16 : Int32).toInt) = True := eq_true (by decide)
theorem g12i : (0 ≤ (12 : Int32).toInt) = True := eq_true (by decide)
theorem g8i : (0 ≤ (8 : Int32).toInt) = True := eq_true (by decide)
theorem g24i : (0 ≤ (24 : Int32).toInt) = True := eq_true (by decide)
theorem g5i : (0 ≤ (5 : Int32).toInt) = True := eq_true (by decide)
theorem z16c : (16 : Int32).toNatClampNeg = 16 := by decide
theorem z12c : (12 : Int32).toNatClampNeg = 12 := by decide
theorem z8c : (8 : Int32).toNatClampNeg = 8 := by decide
theorem z24c : (24 : Int32).toNatClampNeg = 24 := by decide
theorem z5c : (5 : Int32).toNatClampNeg = 5 := by decide
theorem p16 : (0 < 16) = True := eq_true (by decide)
theorem p12 : (0 < 12) = True := eq_true (by decide)
theorem p8 : (0 < 8) = True := eq_true (by decide)
theorem p24 : (0 < 24) = True := eq_true (by decide)
theorem p5 : (0 < 5) = True := eq_true (by decide)
theorem cp_at {f g : Nat → Int32} {n j : Nat} (h : j < n) : va_cpy f g 0 0 n j = f j := sb_cpy0 h
section I65
variable {sv : am_V} {σ τ ρ : am_S} {Q : Option Value → am_H → Prop} {k hd : Int32} {a b w d s : Nat} {V : Nat → Nat → Int32}
theorem c15 (hP : am_Pr d s) : ∃ τ : am_S, τ.2 = σ.2 ∧ (∀ k, k < d + 2 ∨ d + 6 < k → τ.1 k = σ.1 k) ∧ (∀ j, j < 16 → τ.1 (d + 2) j = σ.1 (s + 2) j ∧ τ.1 (d + 3) j = σ.1 (s + 3) j ∧ τ.1 (d + 4) j = σ.1 (s + 4) j ∧ τ.1 (d + 5) j = σ.1 (s + 5) j ∧ τ.1 (d + 6) j = σ.1 (s + 6) j) ∧ ∀ Q, AM sv 15 [.ref (d + 1), .ref (s + 1)] (am_toH σ) Q = Q none (am_toH τ) := by
  obtain ⟨hd, hs, -⟩ := id hP
  have ne := Pr_ne hP
  refine ⟨am_wr (am_wr (am_wr (am_wr (am_wr σ (d + 2) (va_cpy (σ.1 (s + 2)) (σ.1 (d + 2)) 0 0 16)) (d + 3) (va_cpy (σ.1 (s + 3)) (σ.1 (d + 3)) 0 0 16)) (d + 4) (va_cpy (σ.1 (s + 4)) (σ.1 (d + 4)) 0 0 16)) (d + 5) (va_cpy (σ.1 (s + 5)) (σ.1 (d + 5)) 0 0 16)) (d + 6) (va_cpy (σ.1 (s + 6)) (σ.1 (d + 6)) 0 0 16), rfl, fun k hk => ?_, fun j hj => ?_, fun Q => ?_⟩
  · rw [am_wr_ne (by omega), am_wr_ne (by omega), am_wr_ne (by omega), am_wr_ne (by omega), am_wr_ne (by omega)]
  · simp only [Option.toList_some, Option.toList_none, List.cons_append, List.nil_append, cat_i, cat_r, cat_n, cat_f, cs_n, cs_i, cs_r, cs_l, cs_f, Nat.reduceAdd, Nat.reduceLeDiff, Nat.zero_le, if_true, if_false, true_or, or_true, am_wr_at, Nat.reduceEqDiff, not_true_eq_false, not_false_eq_true, i_one, ite_not, bI_z, bI_nz, bI_t, bI_f, bI_or, Bool.false_eq_true, Bool.true_eq_false, reduceCtorEq, Nat.add_left_cancel_iff, cp_at hj, and_self]
  · rw [n15]
    simp only [x15_0, x15_1, x15_4, x15_5, x15_6, x15_9, x15_10, x15_12, x15_15, x15_16, x15_19, x15_20, x15_21, x15_24, x15_25, x15_27, x15_30, x15_31, x15_34, x15_35, x15_36, x15_39, x15_40, x15_42, x15_45, x15_46, x15_49, x15_50, x15_51, x15_54, x15_55, x15_57, x15_60, x15_61, x15_64, x15_65, x15_66, x15_69, x15_70, x15_72, x15_75, Option.toList_some, Option.toList_none, List.cons_append, List.nil_append, cat_i, cat_r, cat_n, cat_f, cs_n, cs_i, cs_r, cs_l, cs_f, Nat.reduceAdd, Nat.reduceLeDiff, Nat.zero_le, if_true, if_false, true_or, or_true, am_wr_at, Nat.reduceEqDiff, not_true_eq_false, not_false_eq_true, i_one, ite_not, bI_z, bI_nz, bI_t, bI_f, bI_or, Bool.false_eq_true, Bool.true_eq_false, reduceCtorEq, hd, hs, ln2, ln3, ln4, ln5, ln6, g0i, g16i, z0c, z16c, p16, and_self, Nat.add_left_cancel_iff, ne]
theorem c6 (hP : am_Pr d s) : ∃ τ : am_S, τ.2 = σ.2 ∧ (∀ k, k < d + 7 ∨ d + 10 < k → τ.1 k = σ.1 k) ∧ (∀ j, j < 12 → τ.1 (d + 8) j = σ.1 (s + 8) j ∧ τ.1 (d + 9) j = σ.1 (s + 9) j ∧ τ.1 (d + 10) j = σ.1 (s + 10) j) ∧ τ.1 (d + 7) 3 = σ.1 (s + 7) 3 ∧ ∀ Q, AM sv 6 [.ref (d + 7), .ref (s + 7)] (am_toH σ) Q = Q none (am_toH τ) := by
  obtain ⟨hd, hs, -⟩ := id hP
  have ne := Pr_ne hP
  refine ⟨am_wr (am_wr (am_wr (am_wr σ (d + 8) (va_cpy (σ.1 (s + 8)) (σ.1 (d + 8)) 0 0 12)) (d + 9) (va_cpy (σ.1 (s + 9)) (σ.1 (d + 9)) 0 0 12)) (d + 10) (va_cpy (σ.1 (s + 10)) (σ.1 (d + 10)) 0 0 12)) (d + 7) (upd (σ.1 (d + 7)) 3 (σ.1 (s + 7) 3)), rfl, fun k hk => ?_, fun j hj => ?_, ?_, fun Q => ?_⟩
  · rw [am_wr_ne (by omega), am_wr_ne (by omega), am_wr_ne (by omega), am_wr_ne (by omega)]
  · simp only [Option.toList_some, Option.toList_none, List.cons_append, List.nil_append, cat_i, cat_r, cat_n, cat_f, cs_n, cs_i, cs_r, cs_l, cs_f, Nat.reduceAdd, Nat.reduceLeDiff, Nat.zero_le, if_true, if_false, true_or, or_true, am_wr_at, Nat.reduceEqDiff, not_true_eq_false, not_false_eq_true, i_one, ite_not, bI_z, bI_nz, bI_t, bI_f, bI_or, Bool.false_eq_true, Bool.true_eq_false, reduceCtorEq, Nat.add_left_cancel_iff, cp_at hj, and_self]
  · simp only [Option.toList_some, Option.toList_none, List.cons_append, List.nil_append, cat_i, cat_r, cat_n, cat_f, cs_n, cs_i, cs_r, cs_l, cs_f, Nat.reduceAdd, Nat.reduceLeDiff, Nat.zero_le, if_true, if_false, true_or, or_true, am_wr_at, Nat.reduceEqDiff, not_true_eq_false, not_false_eq_true, i_one, ite_not, bI_z, bI_nz, bI_t, bI_f, bI_or, Bool.false_eq_true, Bool.true_eq_false, reduceCtorEq, upd_at]
  · rw [n6]
    simp only [x6_0, x6_1, x6_4, x6_5, x6_6, x6_9, x6_10, x6_12, x6_15, x6_16, x6_19, x6_20, x6_21, x6_24, x6_25, x6_27, x6_30, x6_31, x6_34, x6_35, x6_36, x6_39, x6_40, x6_42, x6_45, x6_46, x6_47, x6_50, x6_53, Option.toList_some, Option.toList_none, List.cons_append, List.nil_append, cat_i, cat_r, cat_n, cat_f, cs_n, cs_i, cs_r, cs_l, cs_f, Nat.reduceAdd, Nat.reduceLeDiff, Nat.zero_le, if_true, if_false, true_or, or_true, am_wr_at, Nat.reduceEqDiff, not_true_eq_false, not_false_eq_true, i_one, ite_not, bI_z, bI_nz, bI_t, bI_f, bI_or, Bool.false_eq_true, Bool.true_eq_false, reduceCtorEq, hd, hs, ln8, ln9, ln10, g0i, g12i, z0c, z12c, p12, and_self, Nat.add_left_cancel_iff, ne]
theorem c1 (hP : am_Pr d s) : ∃ τ : am_S, τ.2 = σ.2 ∧ (∀ k, k < d + 11 ∨ d + 15 < k → τ.1 k = σ.1 k) ∧ (∀ j, j < 8 → τ.1 (d + 12) j = σ.1 (s + 12) j ∧ τ.1 (d + 13) j = σ.1 (s + 13) j ∧ τ.1 (d + 14) j = σ.1 (s + 14) j ∧ τ.1 (d + 15) j = σ.1 (s + 15) j) ∧ τ.1 (d + 11) 4 = σ.1 (s + 11) 4 ∧ ∀ Q, AM sv 1 [.ref (d + 11), .ref (s + 11)] (am_toH σ) Q = Q none (am_toH τ) := by
  obtain ⟨hd, hs, -⟩ := id hP
  have ne := Pr_ne hP
  refine ⟨am_wr (am_wr (am_wr (am_wr (am_wr σ (d + 12) (va_cpy (σ.1 (s + 12)) (σ.1 (d + 12)) 0 0 8)) (d + 13) (va_cpy (σ.1 (s + 13)) (σ.1 (d + 13)) 0 0 8)) (d + 14) (va_cpy (σ.1 (s + 14)) (σ.1 (d + 14)) 0 0 8)) (d + 15) (va_cpy (σ.1 (s + 15)) (σ.1 (d + 15)) 0 0 8)) (d + 11) (upd (σ.1 (d + 11)) 4 (σ.1 (s + 11) 4)), rfl, fun k hk => ?_, fun j hj => ?_, ?_, fun Q => ?_⟩
  · rw [am_wr_ne (by omega), am_wr_ne (by omega), am_wr_ne (by omega), am_wr_ne (by omega), am_wr_ne (by omega)]
  · simp only [Option.toList_some, Option.toList_none, List.cons_append, List.nil_append, cat_i, cat_r, cat_n, cat_f, cs_n, cs_i, cs_r, cs_l, cs_f, Nat.reduceAdd, Nat.reduceLeDiff, Nat.zero_le, if_true, if_false, true_or, or_true, am_wr_at, Nat.reduceEqDiff, not_true_eq_false, not_false_eq_true, i_one, ite_not, bI_z, bI_nz, bI_t, bI_f, bI_or, Bool.false_eq_true, Bool.true_eq_false, reduceCtorEq, Nat.add_left_cancel_iff, cp_at hj, and_self]
  · simp only [Option.toList_some, Option.toList_none, List.cons_append, List.nil_append, cat_i, cat_r, cat_n, cat_f, cs_n, cs_i, cs_r, cs_l, cs_f, Nat.reduceAdd, Nat.reduceLeDiff, Nat.zero_le, if_true, if_false, true_or, or_true, am_wr_at, Nat.reduceEqDiff, not_true_eq_false, not_false_eq_true, i_one, ite_not, bI_z, bI_nz, bI_t, bI_f, bI_or, Bool.false_eq_true, Bool.true_eq_false, reduceCtorEq, upd_at]
  · rw [n1]
    simp only [x1_0, x1_1, x1_4, x1_5, x1_6, x1_9, x1_10, x1_12, x1_15, x1_16, x1_19, x1_20, x1_21, x1_24, x1_25, x1_27, x1_30, x1_31, x1_34, x1_35, x1_36, x1_39, x1_40, x1_42, x1_45, x1_46, x1_49, x1_50, x1_51, x1_54, x1_55, x1_57, x1_60, x1_61, x1_62, x1_65, x1_68, Option.toList_some, Option.toList_none, List.cons_append, List.nil_append, cat_i, cat_r, cat_n, cat_f, cs_n, cs_i, cs_r, cs_l, cs_f, Nat.reduceAdd, Nat.reduceLeDiff, Nat.zero_le, if_true, if_false, true_or, or_true, am_wr_at, Nat.reduceEqDiff, not_true_eq_false, not_false_eq_true, i_one, ite_not, bI_z, bI_nz, bI_t, bI_f, bI_or, Bool.false_eq_true, Bool.true_eq_false, reduceCtorEq, hd, hs, ln12, ln13, ln14, ln15, g0i, g8i, z0c, z8c, p8, and_self, Nat.add_left_cancel_iff, ne]
theorem c12 (hP : am_Pr d s) : ∃ τ : am_S, τ.2 = σ.2 ∧ (∀ k, k < d + 16 ∨ d + 18 < k → τ.1 k = σ.1 k) ∧ (∀ j, j < 24 → τ.1 (d + 17) j = σ.1 (s + 17) j ∧ τ.1 (d + 18) j = σ.1 (s + 18) j) ∧ τ.1 (d + 16) 2 = σ.1 (s + 16) 2 ∧ ∀ Q, AM sv 12 [.ref (d + 16), .ref (s + 16)] (am_toH σ) Q = Q none (am_toH τ) := by
  obtain ⟨hd, hs, -⟩ := id hP
  have ne := Pr_ne hP
  refine ⟨am_wr (am_wr (am_wr σ (d + 17) (va_cpy (σ.1 (s + 17)) (σ.1 (d + 17)) 0 0 24)) (d + 18) (va_cpy (σ.1 (s + 18)) (σ.1 (d + 18)) 0 0 24)) (d + 16) (upd (σ.1 (d + 16)) 2 (σ.1 (s + 16) 2)), rfl, fun k hk => ?_, fun j hj => ?_, ?_, fun Q => ?_⟩
  · rw [am_wr_ne (by omega), am_wr_ne (by omega), am_wr_ne (by omega)]
  · simp only [Option.toList_some, Option.toList_none, List.cons_append, List.nil_append, cat_i, cat_r, cat_n, cat_f, cs_n, cs_i, cs_r, cs_l, cs_f, Nat.reduceAdd, Nat.reduceLeDiff, Nat.zero_le, if_true, if_false, true_or, or_true, am_wr_at, Nat.reduceEqDiff, not_true_eq_false, not_false_eq_true, i_one, ite_not, bI_z, bI_nz, bI_t, bI_f, bI_or, Bool.false_eq_true, Bool.true_eq_false, reduceCtorEq, Nat.add_left_cancel_iff, cp_at hj, and_self]
  · simp only [Option.toList_some, Option.toList_none, List.cons_append, List.nil_append, cat_i, cat_r, cat_n, cat_f, cs_n, cs_i, cs_r, cs_l, cs_f, Nat.reduceAdd, Nat.reduceLeDiff, Nat.zero_le, if_true, if_false, true_or, or_true, am_wr_at, Nat.reduceEqDiff, not_true_eq_false, not_false_eq_true, i_one, ite_not, bI_z, bI_nz, bI_t, bI_f, bI_or, Bool.false_eq_true, Bool.true_eq_false, reduceCtorEq, upd_at]
  · rw [n12]
    simp only [x12_0, x12_1, x12_4, x12_5, x12_6, x12_9, x12_10, x12_12, x12_15, x12_16, x12_19, x12_20, x12_21, x12_24, x12_25, x12_27, x12_30, x12_31, x12_32, x12_35, x12_38, Option.toList_some, Option.toList_none, List.cons_append, List.nil_append, cat_i, cat_r, cat_n, cat_f, cs_n, cs_i, cs_r, cs_l, cs_f, Nat.reduceAdd, Nat.reduceLeDiff, Nat.zero_le, if_true, if_false, true_or, or_true, am_wr_at, Nat.reduceEqDiff, not_true_eq_false, not_false_eq_true, i_one, ite_not, bI_z, bI_nz, bI_t, bI_f, bI_or, Bool.false_eq_true, Bool.true_eq_false, reduceCtorEq, hd, hs, ln17, ln18, g0i, g24i, z0c, z24c, p24, and_self, Nat.add_left_cancel_iff, ne]
theorem cV_cp (hok : okV (cV σ s)) (h0 : ∀ j, j < 16 → τ.1 (d + 2) j = σ.1 (s + 2) j ∧ τ.1 (d + 3) j = σ.1 (s + 3) j ∧ τ.1 (d + 4) j = σ.1 (s + 4) j ∧ τ.1 (d + 5) j = σ.1 (s + 5) j ∧ τ.1 (d + 6) j = σ.1 (s + 6) j) (h1 : ∀ j, j < 12 → τ.1 (d + 8) j = σ.1 (s + 8) j ∧ τ.1 (d + 9) j = σ.1 (s + 9) j ∧ τ.1 (d + 10) j = σ.1 (s + 10) j) (h2 : ∀ j, j < 8 → τ.1 (d + 12) j = σ.1 (s + 12) j ∧ τ.1 (d + 13) j = σ.1 (s + 13) j ∧ τ.1 (d + 14) j = σ.1 (s + 14) j ∧ τ.1 (d + 15) j = σ.1 (s + 15) j) (h3 : ∀ j, j < 24 → τ.1 (d + 17) j = σ.1 (s + 17) j ∧ τ.1 (d + 18) j = σ.1 (s + 18) j) (h4 : ∀ j, j < 5 → τ.1 (d + 19) j = σ.1 (s + 19) j) (h5 : τ.1 (d + 7) 3 = σ.1 (s + 7) 3 ∧ τ.1 d 5 = σ.1 s 5 ∧ τ.1 (d + 11) 4 = σ.1 (s + 11) 4 ∧ τ.1 (d + 16) 2 = σ.1 (s + 16) 2) : cV τ d = cV σ s := by
  obtain ⟨n, hn, en⟩ := rg_nI (n := 8) (by decide) hok.2.2.1
  obtain ⟨m, hm, em⟩ := rg_nI (n := 8) (by decide) hok.2.2.2.2.1
  obtain ⟨l, hl, el⟩ := rg_nI (n := 24) (by decide) hok.2.2.2.2.2.1
  have en : σ.1 (s + 7) 3 = nI n := en
  have em : σ.1 (s + 11) 4 = nI m := em
  have el : σ.1 (s + 16) 2 = nI l := el
  have cn : (nI n).toNatClampNeg = n := nI_clamp (by omega)
  have cm : (nI m).toNatClampNeg = m := nI_clamp (by omega)
  have cl : (nI l).toNatClampNeg = l := nI_clamp (by omega)
  obtain ⟨h5, h6, h7, h8⟩ := h5
  have e : ∀ (N : Nat) (f g : Nat → Int32) (j : Nat), (j < N → f j = g j) → (if j < N then f j else 0) = (if j < N then g j else 0) := by
    intro N f g j h
    split
    · exact h (by assumption)
    · rfl
  funext i j
  have q0 := e 16 (τ.1 (d + 2)) (σ.1 (s + 2)) j (fun q => (h0 j q).1)
  have q1 := e 16 (τ.1 (d + 3)) (σ.1 (s + 3)) j (fun q => (h0 j q).2.1)
  have q2 := e 16 (τ.1 (d + 4)) (σ.1 (s + 4)) j (fun q => (h0 j q).2.2.1)
  have q3 := e 16 (τ.1 (d + 5)) (σ.1 (s + 5)) j (fun q => (h0 j q).2.2.2.1)
  have q4 := e 16 (τ.1 (d + 6)) (σ.1 (s + 6)) j (fun q => (h0 j q).2.2.2.2)
  have q5 := e 5 (τ.1 (d + 19)) (σ.1 (s + 19)) j (fun q => h4 j q)
  have q6 := e n (τ.1 (d + 8)) (σ.1 (s + 8)) j (fun q => (h1 j (by omega)).1)
  have q7 := e n (τ.1 (d + 9)) (σ.1 (s + 9)) j (fun q => (h1 j (by omega)).2.1)
  have q8 := e n (τ.1 (d + 10)) (σ.1 (s + 10)) j (fun q => (h1 j (by omega)).2.2)
  have q10 := e m (τ.1 (d + 12)) (σ.1 (s + 12)) j (fun q => (h2 j (by omega)).1)
  have q11 := e m (τ.1 (d + 13)) (σ.1 (s + 13)) j (fun q => (h2 j (by omega)).2.1)
  have q12 := e m (τ.1 (d + 14)) (σ.1 (s + 14)) j (fun q => (h2 j (by omega)).2.2.1)
  have q13 := e m (τ.1 (d + 15)) (σ.1 (s + 15)) j (fun q => (h2 j (by omega)).2.2.2)
  have q14 := e l (τ.1 (d + 17)) (σ.1 (s + 17)) j (fun q => (h3 j (by omega)).1)
  have q15 := e l (τ.1 (d + 18)) (σ.1 (s + 18)) j (fun q => (h3 j (by omega)).2)
  unfold cV
  simp only [h5, h6, h7, h8, en, em, el, cn, cm, cl, q0, q1, q2, q3, q4, q5, q6, q7, q8, q10, q11, q12, q13, q14, q15]
/-- a stage becomes another -/
theorem c28 (hP : am_Pr d s) (hV : cV σ s = V) (hok : okV V) : ∃ τ : am_S, cV τ d = V ∧ τ.2 = σ.2 ∧ (∀ k, k < d ∨ d + 19 < k → τ.1 k = σ.1 k) ∧ (∀ j, j ≠ 5 → τ.1 d j = σ.1 d j) ∧ ∀ Q, AM sv 28 [.ref d, .ref s] (am_toH σ) Q = Q none (am_toH τ) := by
  subst hV
  obtain ⟨hd, hs, -⟩ := id hP
  have ne := Pr_ne hP
  have ne' : ∀ i j, i ≤ 20 → j ≤ 20 → s + i ≠ d + j := fun i j h1 h2 => of_eq_false (ne i j h1 h2)
  have hsd : ∀ i, i ≤ 20 → s + i < d ∨ d + 19 < s + i := by
    intro i hi
    have q1 := ne' i 0 hi (by omega)
    have q2 := ne' i 19 hi (by omega)
    rcases hd with rfl | rfl | rfl <;> rcases hs with rfl | rfl | rfl <;> first | omega | (exfalso; exact hP.2.2 rfl)
  obtain ⟨t1, a1, b1, r1, e1⟩ := c15 (sv := sv) (σ := σ) hP
  obtain ⟨t2, a2, b2, r2, u2, e2⟩ := c6 (sv := sv) (σ := t1) hP
  obtain ⟨t3, a3, b3, r3, u3, e3⟩ := c1 (sv := sv) (σ := t2) hP
  obtain ⟨t4, a4, b4, r4, u4, e4⟩ := c12 (sv := sv) (σ := t3) hP
  have S1 : ∀ i, i ≤ 20 → t1.1 (s + i) = σ.1 (s + i) := fun i hi => b1 _ (by have := hsd i hi; omega)
  have S2 : ∀ i, i ≤ 20 → t2.1 (s + i) = σ.1 (s + i) := fun i hi => (b2 _ (by have := hsd i hi; omega)).trans (S1 i hi)
  have S3 : ∀ i, i ≤ 20 → t3.1 (s + i) = σ.1 (s + i) := fun i hi => (b3 _ (by have := hsd i hi; omega)).trans (S2 i hi)
  have S4 : ∀ i, i ≤ 20 → t4.1 (s + i) = σ.1 (s + i) := fun i hi => (b4 _ (by have := hsd i hi; omega)).trans (S3 i hi)
  have s19 := S4 19 (by omega)
  have s0 : t4.1 s = σ.1 s := S4 0 (by omega)
  have nsd : (s = d + 19) = False := ne 0 19 (by omega) (by omega)
  refine ⟨am_wr (am_wr t4 (d + 19) (va_cpy (t4.1 (s + 19)) (t4.1 (d + 19)) 0 0 5)) d (upd (t4.1 d) 5 (t4.1 s 5)), ?_, ?_, fun k hk => ?_, fun j hj => ?_, fun Q => ?_⟩
  · have out : ∀ i, i ≠ 0 → i ≠ 19 → (am_wr (am_wr t4 (d + 19) (va_cpy (t4.1 (s + 19)) (t4.1 (d + 19)) 0 0 5)) d (upd (t4.1 d) 5 (t4.1 s 5))).1 (d + i) = t4.1 (d + i) := by
      intro i q1 q2
      rw [am_wr_ne (by omega), am_wr_ne (by omega)]
    refine cV_cp hok (fun j hj => ?_) (fun j hj => ?_) (fun j hj => ?_) (fun j hj => ?_) (fun j hj => ?_) ⟨?_, ?_, ?_, ?_⟩
    · obtain ⟨q1, q2, q3, q4, q5⟩ := r1 j hj
      have g : ∀ i, 2 ≤ i → i ≤ 6 → t4.1 (d + i) = t1.1 (d + i) := fun i h1 h2 => (b4 _ (by omega)).trans ((b3 _ (by omega)).trans (b2 _ (by omega)))
      rw [out 2 (by decide) (by decide), out 3 (by decide) (by decide), out 4 (by decide) (by decide), out 5 (by decide) (by decide), out 6 (by decide) (by decide), g 2 (by decide) (by decide), g 3 (by decide) (by decide), g 4 (by decide) (by decide), g 5 (by decide) (by decide), g 6 (by decide) (by decide)]
      exact ⟨q1, q2, q3, q4, q5⟩
    · obtain ⟨q1, q2, q3⟩ := r2 j hj
      have g : ∀ i, 7 ≤ i → i ≤ 10 → t4.1 (d + i) = t2.1 (d + i) := fun i h1 h2 => (b4 _ (by omega)).trans (b3 _ (by omega))
      rw [out 8 (by decide) (by decide), out 9 (by decide) (by decide), out 10 (by decide) (by decide), g 8 (by decide) (by decide), g 9 (by decide) (by decide), g 10 (by decide) (by decide), ← S1 8 (by decide), ← S1 9 (by decide), ← S1 10 (by decide)]
      exact ⟨q1, q2, q3⟩
    · obtain ⟨q1, q2, q3, q4⟩ := r3 j hj
      have g : ∀ i, 11 ≤ i → i ≤ 15 → t4.1 (d + i) = t3.1 (d + i) := fun i h1 h2 => b4 _ (by omega)
      rw [out 12 (by decide) (by decide), out 13 (by decide) (by decide), out 14 (by decide) (by decide), out 15 (by decide) (by decide), g 12 (by decide) (by decide), g 13 (by decide) (by decide), g 14 (by decide) (by decide), g 15 (by decide) (by decide), ← S2 12 (by decide), ← S2 13 (by decide), ← S2 14 (by decide), ← S2 15 (by decide)]
      exact ⟨q1, q2, q3, q4⟩
    · obtain ⟨q1, q2⟩ := r4 j hj
      rw [out 17 (by decide) (by decide), out 18 (by decide) (by decide), ← S3 17 (by decide), ← S3 18 (by decide)]
      exact ⟨q1, q2⟩
    · rw [am_wr_ne (by omega), am_wr_eq, cp_at hj, s19]
    · rw [out 7 (by decide) (by decide), b4 _ (by omega), b3 _ (by omega), u2, S1 7 (by decide)]
    · rw [am_wr_eq, upd_at, if_pos rfl, s0]
    · rw [out 11 (by decide) (by decide), b4 _ (by omega), u3, S2 11 (by decide)]
    · rw [out 16 (by decide) (by decide), u4, S3 16 (by decide)]
  · exact a4.trans (a3.trans (a2.trans a1))
  · rw [am_wr_ne (by omega), am_wr_ne (by omega), b4 k (by omega), b3 k (by omega), b2 k (by omega), b1 k (by omega)]
  · rw [am_wr_eq, upd_at, if_neg hj, b4 d (by omega), b3 d (by omega), b2 d (by omega), b1 d (by omega)]
  · rw [n28]
    simp only [x28_0, x28_1, x28_4, x28_5, x28_8, x28_11, x28_12, x28_15, x28_16, x28_19, x28_22, x28_23, x28_26, x28_27, x28_30, x28_33, x28_34, x28_37, x28_38, x28_41, x28_44, x28_45, x28_48, x28_49, x28_50, x28_53, x28_54, x28_55, x28_58, x28_59, x28_60, x28_63, x28_66, Option.toList_some, Option.toList_none, List.cons_append, List.nil_append, cat_i, cat_r, cat_n, cat_f, cs_n, cs_i, cs_r, cs_l, cs_f, Nat.reduceAdd, Nat.reduceLeDiff, Nat.zero_le, if_true, if_false, true_or, or_true, am_wr_at, Nat.reduceEqDiff, not_true_eq_false, not_false_eq_true, i_one, ite_not, bI_z, bI_nz, bI_t, bI_f, bI_or, Bool.false_eq_true, Bool.true_eq_false, reduceCtorEq, hd, hs, e1, e2, e3, e4, ln19, g0i, g5i, z0c, z5c, p5, and_self, nsd, nep, nep']
end I65
