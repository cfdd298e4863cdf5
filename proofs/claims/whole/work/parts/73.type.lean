/-! TYPE -/
def shL (u : Int64) (i : Int32) : Int64 := u >>> ((8 * i).toInt64 &&& 63) &&& 255
def btN (u : Int64) (i : Int32) : Nat := (u >>> ((8 * i).toInt64 &&& 63)).toBitVec.toNat &&& 255
theorem and255 (x : Int64) : x &&& 255 = lN (x.toBitVec.toNat &&& 255) := by
  apply Int64.toBitVec.inj
  apply BitVec.eq_of_toNat_eq
  show (x.toBitVec &&& 255#64).toNat = (BitVec.ofNat 64 (x.toBitVec.toNat &&& 255)).toNat
  have h : x.toBitVec.toNat &&& 255 ≤ 255 := Nat.and_le_right
  have e : (255#64).toNat = 255 := rfl
  rw [BitVec.toNat_and, e, BitVec.toNat_ofNat, Nat.mod_eq_of_lt (by omega)]
theorem bt_eq {u : Int64} {i : Int32} : u >>> ((8 * i).toInt64 &&& 63) &&& 255 = lN (btN u i) := and255 _
theorem btN_le {u : Int64} {i : Int32} : btN u i ≤ 255 := Nat.and_le_right
def wkB (u : Int64) : Nat → Bool
  | 0 => true
  | t + 1 => wkB u t && decide (32 ≤ btN u (nI t) ∧ btN u (nI t) ≤ 126)
theorem wk_le {u : Int64} : ∀ m, wkB u m = true → ∀ t, t < m → 32 ≤ btN u (nI t) ∧ btN u (nI t) ≤ 126 := by
  intro m
  induction m with
  | zero => intro _ t h; omega
  | succ m ih =>
    intro h t ht
    simp only [wkB, Bool.and_eq_true, decide_eq_true_eq] at h
    by_cases q : t = m
    · subst q; exact h.2
    · exact ih h.1 t (by omega)
theorem bt_lN {m : Nat} (h : m ≤ 255) : am_bt (lN m) 32 126 = decide (32 ≤ m ∧ m ≤ 126) := by
  unfold am_bt
  rw [lN_toInt (by omega), show (32 : Int64).toInt = 32 by decide, show (126 : Int64).toInt = 126 by decide]
  apply decide_eq_decide.mpr
  omega
section I73
variable {sv : am_V} {h : am_H} {σ τ ρ : am_S} {Q : Option Value → am_H → Prop} {u : Int64} {n L : Nat}
theorem s39 {i : Int32} : AM sv 39 [.long u, .int i] h Q = Q (some (.int (nI (btN u i)))) h := by
  rw [n39]
  simp only [x39_0, x39_1, x39_3, x39_4, x39_5, x39_6, x39_9, x39_10, x39_11, Option.toList_some, Option.toList_none, List.cons_append, List.nil_append, cat_i, cat_r, cat_n, cat_f, cs_n, cs_i, cs_r, cs_l, cs_f, Nat.reduceAdd, Nat.reduceLeDiff, Nat.zero_le, if_true, if_false, true_or, or_true, am_wr_at, Nat.reduceEqDiff, not_true_eq_false, not_false_eq_true, i_one, ite_not, bI_z, bI_nz, bI_t, bI_f, bI_or, Bool.false_eq_true, Bool.true_eq_false, reduceCtorEq, bt_eq, lN_i]
theorem s38 (hn : n ≤ 8) : AM sv 38 [.long u, .int (nI n)] h Q = Q (some (.int (bI (wkB u n)))) h := by
  have key := am_up (N := n) (f := fun t => if wkB u t = true then AW sv 38 2 [.long u, .null, .int (nI n), .int (nI t), vvF (fun t => nI (btN u (nI t))) t] [] h 0 0 Q else Q (some (.int 0)) h) (by
    intro t ht
    have e1 : ¬ nI n ≤ nI t := nI_ge ht (by omega)
    have bl := btN_le (u := u) (i := nI t)
    simp only [wkB, vv_s]
    generalize vvF (fun t => nI (btN u (nI t))) t = vv
    rcases Bool.eq_false_or_eq_true (wkB u t) with ho | ho
    rotate_left
    · simp only [ho, Bool.false_and, Bool.false_eq_true, if_false]
    · simp only [ho, Bool.true_and, if_true, decide_eq_true_eq]
      rw [x38_2]
      by_cases q1 : btN u (nI t) < 32
      · have y1 : nI (btN u (nI t)) < 32 := nI_lt (b := 32) q1 (by decide)
        have y2 : ¬ (32 ≤ btN u (nI t) ∧ btN u (nI t) ≤ 126) := by omega
        simp only [x38_3, x38_4, x38_7, x38_8, x38_9, x38_12, x38_14, x38_16, x38_18, x38_21, x38_23, x38_25, x38_28, x38_29, x38_30, x38_33, Option.toList_some, Option.toList_none, List.cons_append, List.nil_append, cat_i, cat_r, cat_n, cat_f, cs_n, cs_i, cs_r, cs_l, cs_f, Nat.reduceAdd, Nat.reduceLeDiff, Nat.zero_le, if_true, if_false, true_or, or_true, am_wr_at, Nat.reduceEqDiff, not_true_eq_false, not_false_eq_true, i_one, ite_not, bI_z, bI_nz, bI_t, bI_f, bI_or, Bool.false_eq_true, Bool.true_eq_false, reduceCtorEq, e1, s39, y1, y2, am_zero_t]
      · have y1 : ¬ nI (btN u (nI t)) < 32 := nI_nlt (b := 32) (by omega) (by omega)
        by_cases q2 : btN u (nI t) ≤ 126
        · have y3 : nI (btN u (nI t)) ≤ 126 := nI_le (b := 126) q2 (by decide)
          have y2 : (32 ≤ btN u (nI t) ∧ btN u (nI t) ≤ 126) = True := eq_true (by omega)
          simp only [x38_3, x38_4, x38_7, x38_8, x38_9, x38_12, x38_14, x38_16, x38_18, x38_21, x38_23, x38_25, x38_28, x38_29, x38_30, x38_33, Option.toList_some, Option.toList_none, List.cons_append, List.nil_append, cat_i, cat_r, cat_n, cat_f, cs_n, cs_i, cs_r, cs_l, cs_f, Nat.reduceAdd, Nat.reduceLeDiff, Nat.zero_le, if_true, if_false, true_or, or_true, am_wr_at, Nat.reduceEqDiff, not_true_eq_false, not_false_eq_true, i_one, ite_not, bI_z, bI_nz, bI_t, bI_f, bI_or, Bool.false_eq_true, Bool.true_eq_false, reduceCtorEq, e1, s39, y1, y2, y3, nI_1]
        · have y3 : ¬ nI (btN u (nI t)) ≤ 126 := nI_ge (a := 126) (by omega) (by omega)
          have y2 : ¬ (32 ≤ btN u (nI t) ∧ btN u (nI t) ≤ 126) := by omega
          simp only [x38_3, x38_4, x38_7, x38_8, x38_9, x38_12, x38_14, x38_16, x38_18, x38_21, x38_23, x38_25, x38_28, x38_29, x38_30, x38_33, Option.toList_some, Option.toList_none, List.cons_append, List.nil_append, cat_i, cat_r, cat_n, cat_f, cs_n, cs_i, cs_r, cs_l, cs_f, Nat.reduceAdd, Nat.reduceLeDiff, Nat.zero_le, if_true, if_false, true_or, or_true, am_wr_at, Nat.reduceEqDiff, not_true_eq_false, not_false_eq_true, i_one, ite_not, bI_z, bI_nz, bI_t, bI_f, bI_or, Bool.false_eq_true, Bool.true_eq_false, reduceCtorEq, e1, s39, y1, y2, y3, am_zero_t]) n (Nat.le_refl _)
  have e1 : nI n ≤ nI n := nI_le (Nat.le_refl _) (by omega)
  rw [n38]
  simp only [x38_0, x38_1, Option.toList_some, Option.toList_none, List.cons_append, List.nil_append, cat_i, cat_r, cat_n, cat_f, cs_n, cs_i, cs_r, cs_l, cs_f, Nat.reduceAdd, Nat.reduceLeDiff, Nat.zero_le, if_true, if_false, true_or, or_true, am_wr_at, Nat.reduceEqDiff, not_true_eq_false, not_false_eq_true, i_one, ite_not, bI_z, bI_nz, bI_t, bI_f, bI_or, Bool.false_eq_true, Bool.true_eq_false, reduceCtorEq]
  simp only [wkB, vv_0, if_true, nI_0] at key
  refine key.trans ?_
  generalize vvF (fun t => nI (btN u (nI t))) n = vv
  rcases Bool.eq_false_or_eq_true (wkB u n) with ho | ho
  · simp only [ho, if_true, bI_t]
    rw [x38_2]
    simp only [x38_3, x38_4, x38_36, x38_37, Option.toList_some, Option.toList_none, List.cons_append, List.nil_append, cat_i, cat_r, cat_n, cat_f, cs_n, cs_i, cs_r, cs_l, cs_f, Nat.reduceAdd, Nat.reduceLeDiff, Nat.zero_le, if_true, if_false, true_or, or_true, am_wr_at, Nat.reduceEqDiff, not_true_eq_false, not_false_eq_true, i_one, ite_not, bI_z, bI_nz, bI_t, bI_f, bI_or, Bool.false_eq_true, Bool.true_eq_false, reduceCtorEq, e1, am_one_t]
  · simp only [ho, Bool.false_eq_true, if_false, bI_f]
/-- what the class's tape is after t bytes more -/
def tyC (σ τ : am_S) (u : Int64) (n L t : Nat) : Prop := τ.2 = σ.2 ∧ (∀ k, k ≠ 65 → k ≠ 66 → τ.1 k = σ.1 k) ∧ τ.1 65 1 = nI (L + t) ∧ (∀ j, j < L → τ.1 66 j = σ.1 66 j) ∧ ∀ j, j < t → τ.1 66 (L + j) = nI (btN u (nI (n - 1 - j)))
theorem s40 (hn : n ≤ 8) (hl : L + n ≤ 100) (h1 : σ.1 65 1 = nI L) : ∃ τ, tyC σ τ u n L n ∧ ∀ Q, AM sv 40 [.ref 65, .long u, .int (nI n)] (am_toH σ) Q = Q none (am_toH τ) := by
  obtain ⟨τ, R, e⟩ := am_upE (N := n) (σ := σ) (R := fun t τ => tyC σ τ u n L t) (F := fun t τ Q => AW sv 40 5 [.ref 65, .long u, .null, .int (nI n), .int (nI (n - t) - 1)] [] (am_toH τ) 0 0 Q) ⟨rfl, fun _ _ _ => rfl, h1, fun _ _ => rfl, fun j hj => by omega⟩ (by
    intro t τ ht R
    obtain ⟨a1, a2, a3, a4, a5⟩ := R
    obtain ⟨s, hs⟩ : ∃ s, n - t = s + 1 := ⟨n - t - 1, by omega⟩
    have hs2 : n - (t + 1) = s := by omega
    have e1 : ¬ nI s < 0 := nI_pos (by omega)
    have e2 : ¬ 100 ≤ nI (L + t) := nI_ge (b := 100) (by omega) (by decide)
    have e3 : am_in (nI (L + t)) 100 = true := nI_in' (by omega) (by omega)
    have e4 : (nI (L + t)).toNatClampNeg = L + t := nI_clamp (by omega)
    have e5 : nI s + -1 = nI s - 1 := by rw [Int32.sub_eq_add_neg]
    refine ⟨am_wr (am_wr τ 66 (upd (τ.1 66) (L + t) (nI (btN u (nI s))))) 65 (upd (τ.1 65) 1 (nI (L + t + 1))), ⟨a1, fun k q1 q2 => ?_, ?_, fun j hj => ?_, fun j hj => ?_⟩, fun Q => ?_⟩
    · rw [am_wr_ne q1, am_wr_ne q2]
      exact a2 k q1 q2
    · rw [am_wr_eq, upd_at, if_pos rfl, Nat.add_assoc]
    · rw [am_wr_ne (by decide), am_wr_eq, upd_at, if_neg (by omega)]
      exact a4 j hj
    · rw [am_wr_ne (by decide), am_wr_eq, upd_at]
      by_cases q : j = t
      · subst q
        rw [if_pos rfl, show n - 1 - j = s by omega]
      · rw [if_neg (by omega)]
        exact a5 j (by omega)
    · rw [hs, hs2, nI_pred, x40_5]
      simp only [x40_7, x40_10, x40_11, x40_14, x40_16, x40_19, x40_20, x40_23, x40_24, x40_27, x40_28, x40_30, x40_33, x40_34, x40_35, x40_36, x40_39, x40_40, x40_41, x40_44, x40_47, Option.toList_some, Option.toList_none, List.cons_append, List.nil_append, cat_i, cat_r, cat_n, cat_f, cs_n, cs_i, cs_r, cs_l, cs_f, Nat.reduceAdd, Nat.reduceLeDiff, Nat.zero_le, if_true, if_false, true_or, or_true, am_wr_at, Nat.reduceEqDiff, not_true_eq_false, not_false_eq_true, i_one, ite_not, bI_z, bI_nz, bI_t, bI_f, bI_or, Bool.false_eq_true, Bool.true_eq_false, reduceCtorEq, lc66, e1, a3, e2, e3, e4, e5, s39, nI_1])
  refine ⟨τ, R, fun Q => ?_⟩
  have e1 : nI (n - n) - 1 < 0 := by
    rw [Nat.sub_self]
    decide
  rw [n40]
  simp only [x40_0, x40_1, x40_2, x40_3, Option.toList_some, Option.toList_none, List.cons_append, List.nil_append, cat_i, cat_r, cat_n, cat_f, cs_n, cs_i, cs_r, cs_l, cs_f, Nat.reduceAdd, Nat.reduceLeDiff, Nat.zero_le, if_true, if_false, true_or, or_true, am_wr_at, Nat.reduceEqDiff, not_true_eq_false, not_false_eq_true, i_one, ite_not, bI_z, bI_nz, bI_t, bI_f, bI_or, Bool.false_eq_true, Bool.true_eq_false, reduceCtorEq]
  refine (e Q).trans ?_
  show AW sv 40 5 [.ref 65, .long u, .null, .int (nI n), .int (nI (n - n) - 1)] [] (am_toH τ) 0 0 Q = _
  rw [x40_5]
  simp only [x40_7, x40_50, Option.toList_some, Option.toList_none, List.cons_append, List.nil_append, cat_i, cat_r, cat_n, cat_f, cs_n, cs_i, cs_r, cs_l, cs_f, Nat.reduceAdd, Nat.reduceLeDiff, Nat.zero_le, if_true, if_false, true_or, or_true, am_wr_at, Nat.reduceEqDiff, not_true_eq_false, not_false_eq_true, i_one, ite_not, bI_z, bI_nz, bI_t, bI_f, bI_or, Bool.false_eq_true, Bool.true_eq_false, reduceCtorEq, e1]
def tyM (σ τ : am_S) (u : Int64) (n L t : Nat) : Prop := (∀ k, k ≠ 71 → k ≠ 79 → τ.1 k = σ.1 k) ∧ (∀ j, j ≠ 10 → τ.1 71 j = σ.1 71 j) ∧ τ.1 71 10 = nI (L + t) ∧ (∀ j, j < L → τ.1 79 j = σ.1 79 j) ∧ ∀ j, j < t → τ.1 79 (L + j) = nI (btN u (nI (n - 1 - j)))
theorem m119a (hn : n ≤ 8) : AW sv 119 14 [.ref 71, .long u, .null, .int (nI n), .null] [] h 0 0 Q = if wkB u n = true then AW sv 119 54 [.ref 71, .long u, .null, .int (nI n), .int (nI n)] [] h 0 0 Q else Q (some (.int (-1))) h := by
  have key := am_up (N := n) (f := fun t => if wkB u t = true then AW sv 119 17 [.ref 71, .long u, .null, .int (nI n), .int (nI t)] [] h 0 0 Q else Q (some (.int (-1))) h) (by
    intro t ht
    have e1 : ¬ nI n ≤ nI t := nI_ge ht (by omega)
    have bl := btN_le (u := u) (i := nI t)
    have bb := bt_lN bl
    simp only [wkB]
    rcases Bool.eq_false_or_eq_true (wkB u t) with ho | ho
    rotate_left
    · simp only [ho, Bool.false_and, Bool.false_eq_true, if_false]
    · simp only [ho, Bool.true_and, if_true]
      rw [x119_17]
      rcases Bool.eq_false_or_eq_true (decide (32 ≤ btN u (nI t) ∧ btN u (nI t) ≤ 126)) with hd | hd
      · simp only [x119_19, x119_20, x119_23, x119_24, x119_26, x119_28, x119_29, x119_30, x119_33, x119_34, x119_37, x119_40, x119_43, x119_46, x119_47, x119_48, x119_51, Option.toList_some, Option.toList_none, List.cons_append, List.nil_append, cat_i, cat_r, cat_n, cat_f, cs_n, cs_i, cs_r, cs_l, cs_f, Nat.reduceAdd, Nat.reduceLeDiff, Nat.zero_le, if_true, if_false, true_or, or_true, am_wr_at, Nat.reduceEqDiff, not_true_eq_false, not_false_eq_true, i_one, ite_not, bI_z, bI_nz, bI_t, bI_f, bI_or, Bool.false_eq_true, Bool.true_eq_false, reduceCtorEq, e1, bt_eq, s104, bb, hd, nI_1]
      · simp only [x119_19, x119_20, x119_23, x119_24, x119_26, x119_28, x119_29, x119_30, x119_33, x119_34, x119_37, x119_40, x119_43, x119_46, x119_47, x119_48, x119_51, Option.toList_some, Option.toList_none, List.cons_append, List.nil_append, cat_i, cat_r, cat_n, cat_f, cs_n, cs_i, cs_r, cs_l, cs_f, Nat.reduceAdd, Nat.reduceLeDiff, Nat.zero_le, if_true, if_false, true_or, or_true, am_wr_at, Nat.reduceEqDiff, not_true_eq_false, not_false_eq_true, i_one, ite_not, bI_z, bI_nz, bI_t, bI_f, bI_or, Bool.false_eq_true, Bool.true_eq_false, reduceCtorEq, e1, bt_eq, s104, bb, hd, nI_1]) n (Nat.le_refl _)
  have e1 : nI n ≤ nI n := nI_le (Nat.le_refl _) (by omega)
  simp only [x119_14, x119_15, Option.toList_some, Option.toList_none, List.cons_append, List.nil_append, cat_i, cat_r, cat_n, cat_f, cs_n, cs_i, cs_r, cs_l, cs_f, Nat.reduceAdd, Nat.reduceLeDiff, Nat.zero_le, if_true, if_false, true_or, or_true, am_wr_at, Nat.reduceEqDiff, not_true_eq_false, not_false_eq_true, i_one, ite_not, bI_z, bI_nz, bI_t, bI_f, bI_or, Bool.false_eq_true, Bool.true_eq_false, reduceCtorEq]
  simp only [wkB, if_true, nI_0] at key
  refine key.trans ?_
  rcases Bool.eq_false_or_eq_true (wkB u n) with ho | ho
  · simp only [ho, if_true]
    rw [x119_17]
    simp only [x119_19, x119_20, Option.toList_some, Option.toList_none, List.cons_append, List.nil_append, cat_i, cat_r, cat_n, cat_f, cs_n, cs_i, cs_r, cs_l, cs_f, Nat.reduceAdd, Nat.reduceLeDiff, Nat.zero_le, if_true, if_false, true_or, or_true, am_wr_at, Nat.reduceEqDiff, not_true_eq_false, not_false_eq_true, i_one, ite_not, bI_z, bI_nz, bI_t, bI_f, bI_or, Bool.false_eq_true, Bool.true_eq_false, reduceCtorEq, e1]
  · simp only [ho, Bool.false_eq_true, if_false]
theorem m119b (hn : n ≤ 8) (hl : L + n ≤ 100) (h1 : σ.1 71 10 = nI L) {v4 : Value} : ∃ τ, tyM σ τ u n L n ∧ ∀ Q, AW sv 119 68 [.ref 71, .long u, .null, .int (nI n), v4] [] (am_toH σ) 0 0 Q = Q (some (.int (nI (L + n)))) (am_toH τ) := by
  obtain ⟨τ, R, e⟩ := am_upE (N := n) (σ := σ) (R := fun t τ => tyM σ τ u n L t) (F := fun t τ Q => AW sv 119 73 [.ref 71, .long u, .null, .int (nI n), .int (nI (n - t) - 1)] [] (am_toH τ) 0 0 Q) ⟨fun _ _ _ => rfl, fun _ _ => rfl, h1, fun _ _ => rfl, fun j hj => by omega⟩ (by
    intro t τ ht R
    obtain ⟨a1, a2, a3, a4, a5⟩ := R
    obtain ⟨s, hs⟩ : ∃ s, n - t = s + 1 := ⟨n - t - 1, by omega⟩
    have hs2 : n - (t + 1) = s := by omega
    have e1 : ¬ nI s < 0 := nI_pos (by omega)
    have e3 : am_in (nI (L + t)) 100 = true := nI_in' (by omega) (by omega)
    have e4 : (nI (L + t)).toNatClampNeg = L + t := nI_clamp (by omega)
    have e5 : nI s + -1 = nI s - 1 := by rw [Int32.sub_eq_add_neg]
    refine ⟨am_wr (am_wr τ 79 (upd (τ.1 79) (L + t) (nI (btN u (nI s))))) 71 (upd (τ.1 71) 10 (nI (L + t + 1))), ⟨fun k q1 q2 => ?_, fun j q => ?_, ?_, fun j hj => ?_, fun j hj => ?_⟩, fun Q => ?_⟩
    · rw [am_wr_ne q1, am_wr_ne q2]
      exact a1 k q1 q2
    · rw [am_wr_eq, upd_at, if_neg q]
      exact a2 j q
    · rw [am_wr_eq, upd_at, if_pos rfl, Nat.add_assoc]
    · rw [am_wr_ne (by decide), am_wr_eq, upd_at, if_neg (by omega)]
      exact a4 j hj
    · rw [am_wr_ne (by decide), am_wr_eq, upd_at]
      by_cases q : j = t
      · subst q
        rw [if_pos rfl, show n - 1 - j = s by omega]
      · rw [if_neg (by omega)]
        exact a5 j (by omega)
    · rw [hs, hs2, nI_pred, x119_73]
      simp only [x119_75, x119_78, x119_79, x119_82, x119_83, x119_86, x119_87, x119_89, x119_91, x119_92, x119_93, x119_96, x119_97, x119_98, x119_99, x119_100, x119_101, x119_104, x119_105, x119_106, x119_109, x119_112, Option.toList_some, Option.toList_none, List.cons_append, List.nil_append, cat_i, cat_r, cat_n, cat_f, cs_n, cs_i, cs_r, cs_l, cs_f, Nat.reduceAdd, Nat.reduceLeDiff, Nat.zero_le, if_true, if_false, true_or, or_true, am_wr_at, Nat.reduceEqDiff, not_true_eq_false, not_false_eq_true, i_one, ite_not, bI_z, bI_nz, bI_t, bI_f, bI_or, Bool.false_eq_true, Bool.true_eq_false, reduceCtorEq, lc79, e1, a3, e3, e4, e5, bt_eq, lN_i, nI_1])
  refine ⟨τ, R, fun Q => ?_⟩
  have e1 : nI (n - n) - 1 < 0 := by
    rw [Nat.sub_self]
    decide
  have a3 := R.2.2.1
  simp only [x119_68, x119_69, x119_70, x119_71, Option.toList_some, Option.toList_none, List.cons_append, List.nil_append, cat_i, cat_r, cat_n, cat_f, cs_n, cs_i, cs_r, cs_l, cs_f, Nat.reduceAdd, Nat.reduceLeDiff, Nat.zero_le, if_true, if_false, true_or, or_true, am_wr_at, Nat.reduceEqDiff, not_true_eq_false, not_false_eq_true, i_one, ite_not, bI_z, bI_nz, bI_t, bI_f, bI_or, Bool.false_eq_true, Bool.true_eq_false, reduceCtorEq]
  refine (e Q).trans ?_
  show AW sv 119 73 [.ref 71, .long u, .null, .int (nI n), .int (nI (n - n) - 1)] [] (am_toH τ) 0 0 Q = _
  rw [x119_73]
  simp only [x119_75, x119_115, x119_116, x119_119, Option.toList_some, Option.toList_none, List.cons_append, List.nil_append, cat_i, cat_r, cat_n, cat_f, cs_n, cs_i, cs_r, cs_l, cs_f, Nat.reduceAdd, Nat.reduceLeDiff, Nat.zero_le, if_true, if_false, true_or, or_true, am_wr_at, Nat.reduceEqDiff, not_true_eq_false, not_false_eq_true, i_one, ite_not, bI_z, bI_nz, bI_t, bI_f, bI_or, Bool.false_eq_true, Bool.true_eq_false, reduceCtorEq, e1, a3]
/-- type -/
theorem sim8 : ∀ (u : Int64) (x : Int32), SimOK sv Inv 69 119 [.long u, .int x] := by
  intro u x σ hI
  obtain ⟨hv, hok, ⟨T1, T2, T3⟩, hS, hM⟩ := id hI
  obtain ⟨L, hL, eL⟩ := rg_nI (n := 100) (by decide) T2
  have eM : σ.1 71 10 = nI L := T1.symm.trans eL
  cases hb : am_bt x.toInt64 1 8 with
  | true =>
    have h3 := of_decide_eq_true hb
    rw [Int32.toInt_toInt64, show (1 : Int64).toInt = 1 by decide, show (8 : Int64).toInt = 8 by decide] at h3
    obtain ⟨n, hn, rfl⟩ := rg_nI (n := 8) (by decide) (⟨by omega, by omega⟩ : rg x 0 8)
    rw [nI_toInt (by omega)] at h3
    have y1 : ¬ nI n < 1 := nI_nlt (b := 1) (by omega) (by omega)
    have y2 : ¬ 8 < nI n := nI_nlt (a := 8) (by omega) (by omega)
    have c38 := fun h Q => s38 (sv := sv) (h := h) (Q := Q) (u := u) hn
    rcases Bool.eq_false_or_eq_true (wkB u n) with ho | ho
    · have z1 : nI L + nI n = nI (L + n) := nI_add _ _
      simp only [ho] at c38
      by_cases hf : L + n ≤ 100
      · have z2 : nI (L + n) ≤ 100 := nI_le (b := 100) hf (by decide)
        obtain ⟨t1, R1, c40⟩ := s40 (sv := sv) (u := u) hn hf eL
        obtain ⟨a1, a2, a3, a4, a5⟩ := R1
        have e71 : t1.1 71 = σ.1 71 := a2 71 (by decide) (by decide)
        have e1M : t1.1 71 10 = nI L := by rw [e71]; exact eM
        obtain ⟨t2, R2, c119⟩ := m119b (sv := sv) (u := u) (v4 := .int (nI n)) hn hf e1M
        obtain ⟨b1, b2, b3, b4, b5⟩ := R2
        refine ⟨nI (L + n), t1, t2, fun Q => ?_, fun Q => ?_, ?_⟩
        · rw [n69]
          simp only [x69_0, x69_1, x69_2, x69_5, x69_6, x69_8, x69_11, x69_12, x69_13, x69_16, x69_19, x69_20, x69_21, x69_22, x69_25, x69_28, x69_29, x69_30, x69_32, x69_35, x69_37, x69_38, x69_39, x69_42, x69_43, x69_44, x69_47, x69_48, x69_51, x69_54, Option.toList_some, Option.toList_none, List.cons_append, List.nil_append, cat_i, cat_r, cat_n, cat_f, cs_n, cs_i, cs_r, cs_l, cs_f, Nat.reduceAdd, Nat.reduceLeDiff, Nat.zero_le, if_true, if_false, true_or, or_true, am_wr_at, Nat.reduceEqDiff, not_true_eq_false, not_false_eq_true, i_one, ite_not, bI_z, bI_nz, bI_t, bI_f, bI_or, Bool.false_eq_true, Bool.true_eq_false, reduceCtorEq, y1, y2, c38, eL, z1, z2, c40, a3]
        · have m1 := m119a (sv := sv) (h := am_toH t1) (Q := Q) (u := u) hn
          rw [if_pos ho] at m1
          have st : AM sv 119 [.ref 71, .long u, .int (nI n)] (am_toH t1) Q = AW sv 119 14 [.ref 71, .long u, .null, .int (nI n), .null] [] (am_toH t1) 0 0 Q := by
            rw [n119]
            simp only [x119_0, x119_1, x119_2, x119_3, x119_6, x119_9, Option.toList_some, Option.toList_none, List.cons_append, List.nil_append, cat_i, cat_r, cat_n, cat_f, cs_n, cs_i, cs_r, cs_l, cs_f, Nat.reduceAdd, Nat.reduceLeDiff, Nat.zero_le, if_true, if_false, true_or, or_true, am_wr_at, Nat.reduceEqDiff, not_true_eq_false, not_false_eq_true, i_one, ite_not, bI_z, bI_nz, bI_t, bI_f, bI_or, Bool.false_eq_true, Bool.true_eq_false, reduceCtorEq, s104, hb]
          rw [st, m1, ← c119 Q]
          simp only [x119_54, x119_55, x119_58, x119_59, x119_60, x119_62, Option.toList_some, Option.toList_none, List.cons_append, List.nil_append, cat_i, cat_r, cat_n, cat_f, cs_n, cs_i, cs_r, cs_l, cs_f, Nat.reduceAdd, Nat.reduceLeDiff, Nat.zero_le, if_true, if_false, true_or, or_true, am_wr_at, Nat.reduceEqDiff, not_true_eq_false, not_false_eq_true, i_one, ite_not, bI_z, bI_nz, bI_t, bI_f, bI_or, Bool.false_eq_true, Bool.true_eq_false, reduceCtorEq, e1M, z1, z2]
        · have fc : ∀ k, k ≠ 65 → k ≠ 66 → k ≠ 71 → k ≠ 79 → t2.1 k = σ.1 k := fun k q1 q2 q3 q4 => (b1 k q3 q4).trans (a2 k q1 q2)
          have f71 : ∀ j, j ≠ 10 → t2.1 71 j = σ.1 71 j := fun j q => (b2 j q).trans (by rw [e71])
          have hm : mV t2 = mV σ := mV_of (fun k q1 q2 => by
            by_cases q : k = 71
            · omega
            · exact fc k (by omega) (by omega) (by omega) (by omega)) ⟨fc 81 (by decide) (by decide) (by decide) (by decide), fc 83 (by decide) (by decide) (by decide) (by decide), fc 84 (by decide) (by decide) (by decide) (by decide)⟩ ⟨f71 7 (by decide), f71 5 (by decide), f71 16 (by decide), f71 19 (by decide)⟩
          have hc : cV t2 1 = cV σ 1 := cV_of (fun k q1 q2 => fc k (by omega) (by omega) (by omega) (by omega)) (by rw [fc 1 (by decide) (by decide) (by decide) (by decide)])
          have g65 : t2.1 65 1 = nI (L + n) := by rw [b1 65 (by decide) (by decide)]; exact a3
          have g66 : t2.1 66 = t1.1 66 := b1 66 (by decide) (by decide)
          refine ⟨by rw [hc, hm]; exact hv, by rw [hm]; exact hok, ⟨by rw [g65, b3], by rw [g65, rg, nI_toInt (by omega)]; omega, fun j hj => ?_⟩, inS_of ⟨?_, ?_, ?_, ?_, ?_, ?_⟩ hS, inI_of ⟨?_, ?_, ?_⟩ (fun k q1 q2 => ?_) hM⟩
          · rw [g65, nI_clamp (by omega)] at hj
            rw [g66]
            by_cases q : j < L
            · have := T3 j (by rw [eL, nI_clamp (by omega)]; exact q)
              rw [a4 j q, b4 j q, a2 79 (by decide) (by decide)]
              exact this
            · obtain ⟨i, rfl⟩ : ∃ i, j = L + i := ⟨j - L, by omega⟩
              have w := wk_le n ho (n - 1 - i) (by omega)
              rw [a5 i (by omega), b5 i (by omega), rg, nI_toInt (by omega)]
              exact ⟨rfl, by omega⟩
          · rw [fc 68 (by decide) (by decide) (by decide) (by decide)]
          · rw [fc 69 (by decide) (by decide) (by decide) (by decide)]
          · rw [fc 70 (by decide) (by decide) (by decide) (by decide)]
          · rw [fc 86 (by decide) (by decide) (by decide) (by decide)]
          · rw [fc 87 (by decide) (by decide) (by decide) (by decide)]
          · rw [fc 88 (by decide) (by decide) (by decide) (by decide)]
          · rw [fc 0 (by decide) (by decide) (by decide) (by decide)]
          · exact f71 23 (by decide)
          · rw [fc 85 (by decide) (by decide) (by decide) (by decide)]
          · exact fc k (by omega) (by omega) (by omega) (by omega)
      · have z2 : ¬ nI (L + n) ≤ 100 := nI_ge (a := 100) (by omega) (by omega)
        refine ⟨-3, σ, σ, fun Q => ?_, fun Q => ?_, hI⟩
        · rw [n69]
          simp only [x69_0, x69_1, x69_2, x69_5, x69_6, x69_8, x69_11, x69_12, x69_13, x69_16, x69_19, x69_20, x69_21, x69_22, x69_25, x69_28, x69_29, x69_30, x69_32, x69_35, x69_37, x69_38, x69_39, x69_42, x69_43, x69_44, x69_47, x69_48, x69_51, x69_54, Option.toList_some, Option.toList_none, List.cons_append, List.nil_append, cat_i, cat_r, cat_n, cat_f, cs_n, cs_i, cs_r, cs_l, cs_f, Nat.reduceAdd, Nat.reduceLeDiff, Nat.zero_le, if_true, if_false, true_or, or_true, am_wr_at, Nat.reduceEqDiff, not_true_eq_false, not_false_eq_true, i_one, ite_not, bI_z, bI_nz, bI_t, bI_f, bI_or, Bool.false_eq_true, Bool.true_eq_false, reduceCtorEq, y1, y2, c38, eL, z1, z2]
        · have m1 := m119a (sv := sv) (h := am_toH σ) (Q := Q) (u := u) hn
          rw [if_pos ho] at m1
          have st : AM sv 119 [.ref 71, .long u, .int (nI n)] (am_toH σ) Q = AW sv 119 14 [.ref 71, .long u, .null, .int (nI n), .null] [] (am_toH σ) 0 0 Q := by
            rw [n119]
            simp only [x119_0, x119_1, x119_2, x119_3, x119_6, x119_9, Option.toList_some, Option.toList_none, List.cons_append, List.nil_append, cat_i, cat_r, cat_n, cat_f, cs_n, cs_i, cs_r, cs_l, cs_f, Nat.reduceAdd, Nat.reduceLeDiff, Nat.zero_le, if_true, if_false, true_or, or_true, am_wr_at, Nat.reduceEqDiff, not_true_eq_false, not_false_eq_true, i_one, ite_not, bI_z, bI_nz, bI_t, bI_f, bI_or, Bool.false_eq_true, Bool.true_eq_false, reduceCtorEq, s104, hb]
          rw [st, m1]
          simp only [x119_54, x119_55, x119_58, x119_59, x119_60, x119_62, x119_65, x119_67, Option.toList_some, Option.toList_none, List.cons_append, List.nil_append, cat_i, cat_r, cat_n, cat_f, cs_n, cs_i, cs_r, cs_l, cs_f, Nat.reduceAdd, Nat.reduceLeDiff, Nat.zero_le, if_true, if_false, true_or, or_true, am_wr_at, Nat.reduceEqDiff, not_true_eq_false, not_false_eq_true, i_one, ite_not, bI_z, bI_nz, bI_t, bI_f, bI_or, Bool.false_eq_true, Bool.true_eq_false, reduceCtorEq, eM, z1, z2]
    · simp only [ho] at c38
      refine ⟨-1, σ, σ, fun Q => ?_, fun Q => ?_, hI⟩
      · rw [n69]
        simp only [x69_0, x69_1, x69_2, x69_5, x69_6, x69_8, x69_11, x69_12, x69_13, x69_16, x69_19, x69_20, x69_21, x69_22, x69_25, x69_28, x69_29, x69_30, x69_32, x69_35, x69_37, x69_38, x69_39, x69_42, x69_43, x69_44, x69_47, x69_48, x69_51, x69_54, Option.toList_some, Option.toList_none, List.cons_append, List.nil_append, cat_i, cat_r, cat_n, cat_f, cs_n, cs_i, cs_r, cs_l, cs_f, Nat.reduceAdd, Nat.reduceLeDiff, Nat.zero_le, if_true, if_false, true_or, or_true, am_wr_at, Nat.reduceEqDiff, not_true_eq_false, not_false_eq_true, i_one, ite_not, bI_z, bI_nz, bI_t, bI_f, bI_or, Bool.false_eq_true, Bool.true_eq_false, reduceCtorEq, y1, y2, c38]
      · have m1 := m119a (sv := sv) (h := am_toH σ) (Q := Q) (u := u) hn
        rw [if_neg (by rw [ho]; decide)] at m1
        rw [← m1, n119]
        simp only [x119_0, x119_1, x119_2, x119_3, x119_6, x119_9, Option.toList_some, Option.toList_none, List.cons_append, List.nil_append, cat_i, cat_r, cat_n, cat_f, cs_n, cs_i, cs_r, cs_l, cs_f, Nat.reduceAdd, Nat.reduceLeDiff, Nat.zero_le, if_true, if_false, true_or, or_true, am_wr_at, Nat.reduceEqDiff, not_true_eq_false, not_false_eq_true, i_one, ite_not, bI_z, bI_nz, bI_t, bI_f, bI_or, Bool.false_eq_true, Bool.true_eq_false, reduceCtorEq, s104, hb]
  | false =>
    have h3 := of_decide_eq_false hb
    rw [Int32.toInt_toInt64, show (1 : Int64).toInt = 1 by decide, show (8 : Int64).toInt = 8 by decide] at h3
    refine ⟨-1, σ, σ, fun Q => ?_, fun Q => by rw [n119]; simp only [x119_0, x119_1, x119_2, x119_3, x119_6, x119_9, x119_12, x119_13, Option.toList_some, Option.toList_none, List.cons_append, List.nil_append, cat_i, cat_r, cat_n, cat_f, cs_n, cs_i, cs_r, cs_l, cs_f, Nat.reduceAdd, Nat.reduceLeDiff, Nat.zero_le, if_true, if_false, true_or, or_true, am_wr_at, Nat.reduceEqDiff, not_true_eq_false, not_false_eq_true, i_one, ite_not, bI_z, bI_nz, bI_t, bI_f, bI_or, Bool.false_eq_true, Bool.true_eq_false, reduceCtorEq, s104, hb], hI⟩
    rw [n69]
    by_cases q : x < 1
    · simp only [x69_0, x69_1, x69_2, x69_5, x69_6, x69_8, x69_11, x69_12, x69_13, x69_16, x69_19, x69_20, x69_21, x69_22, x69_25, x69_28, x69_29, x69_30, x69_32, x69_35, x69_37, x69_38, x69_39, x69_42, x69_43, x69_44, x69_47, x69_48, x69_51, x69_54, Option.toList_some, Option.toList_none, List.cons_append, List.nil_append, cat_i, cat_r, cat_n, cat_f, cs_n, cs_i, cs_r, cs_l, cs_f, Nat.reduceAdd, Nat.reduceLeDiff, Nat.zero_le, if_true, if_false, true_or, or_true, am_wr_at, Nat.reduceEqDiff, not_true_eq_false, not_false_eq_true, i_one, ite_not, bI_z, bI_nz, bI_t, bI_f, bI_or, Bool.false_eq_true, Bool.true_eq_false, reduceCtorEq, q]
    · have q2 : 8 < x := by
        apply Int32.lt_iff_toInt_lt.mpr
        have := Int32.le_iff_toInt_le.mp (Int32.not_lt.mp q)
        rw [show (1 : Int32).toInt = 1 by decide] at this
        rw [show (8 : Int32).toInt = 8 by decide]
        omega
      simp only [x69_0, x69_1, x69_2, x69_5, x69_6, x69_8, x69_11, x69_12, x69_13, x69_16, x69_19, x69_20, x69_21, x69_22, x69_25, x69_28, x69_29, x69_30, x69_32, x69_35, x69_37, x69_38, x69_39, x69_42, x69_43, x69_44, x69_47, x69_48, x69_51, x69_54, Option.toList_some, Option.toList_none, List.cons_append, List.nil_append, cat_i, cat_r, cat_n, cat_f, cs_n, cs_i, cs_r, cs_l, cs_f, Nat.reduceAdd, Nat.reduceLeDiff, Nat.zero_le, if_true, if_false, true_or, or_true, am_wr_at, Nat.reduceEqDiff, not_true_eq_false, not_false_eq_true, i_one, ite_not, bI_z, bI_nz, bI_t, bI_f, bI_or, Bool.false_eq_true, Bool.true_eq_false, reduceCtorEq, q, q2]
end I73
