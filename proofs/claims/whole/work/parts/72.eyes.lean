/-! EYES -/
def okB (f : Nat → Int32) : Nat → Bool
  | 0 => true
  | t + 1 => okB f t && am_bt (f t).toInt64 (-1) 3
def cnB (f : Nat → Int32) : Nat → Nat
  | 0 => 0
  | t + 1 => if f t = -1 then cnB f t else cnB f t + 1
def epV (V : Nat → Nat → Int32) (p b : Nat) (f : Nat → Int32) : Nat → Nat → Nat → Int32
  | 0 => V
  | t + 1 => if f t = -1 then epV V p b f t else vpt (epV V p b f t) (p + cnB f t) (nI (b + t)) (f t)
theorem it_ok {x : Int32} (h : am_bt x.toInt64 (-1) 3 = true) : x = -1 ∨ (¬ x = -1 ∧ am_in x 4 = true ∧ ¬ x < 0 ∧ rg x 0 3) := by
  have h3 := of_decide_eq_true h
  rw [Int32.toInt_toInt64, show (-1 : Int64).toInt = -1 by decide, show (3 : Int64).toInt = 3 by decide] at h3
  by_cases q : x = -1
  · exact Or.inl q
  · have q2 : ¬ x.toInt = -1 := fun c => q (Int32.toInt_inj.mp (by rw [c]; decide))
    have r : rg x 0 3 := ⟨by omega, by omega⟩
    refine Or.inr ⟨q, rg_in r, fun c => ?_, r⟩
    have := Int32.lt_iff_toInt_lt.mp c
    rw [t0] at this
    omega
theorem it_bad {x : Int32} (h : am_bt x.toInt64 (-1) 3 = false) : ¬ x = -1 ∧ am_in x 4 = false := by
  have h3 := of_decide_eq_false h
  rw [Int32.toInt_toInt64, show (-1 : Int64).toInt = -1 by decide, show (3 : Int64).toInt = 3 by decide] at h3
  refine ⟨fun c => h3 (by rw [c]; decide), ?_⟩
  apply decide_eq_false
  intro c
  exact h3 ⟨by omega, by have := c.2; omega⟩
theorem fb_b' {c : Nat} (h : c ≤ 16) : ¬ nI c = -1 := by
  intro q
  have := congrArg Int32.toInt q
  rw [nI_toInt (by omega), show (-1 : Int32).toInt = -1 by decide] at this
  omega
theorem vv_s {f : Nat → Int32} {t : Nat} : vvF f (t + 1) = .int (f t) := rfl
theorem vv_0 {f : Nat → Int32} : vvF f 0 = .null := rfl
theorem m1lt : (-1 : Int32) < 0 := by decide
theorem ep_93 {V : Nat → Nat → Int32} {p b : Nat} {f : Nat → Int32} (h : V 9 3 = nI p) : ∀ t, epV V p b f t 9 3 = nI (p + cnB f t) := by
  intro t
  induction t with
  | zero => exact h
  | succ t ih =>
    simp only [epV, cnB]
    split
    · exact ih
    · show (if 9 = 9 ∧ 3 = 3 then nI (p + cnB f t + 1) else _) = _
      rw [if_pos ⟨rfl, rfl⟩, Nat.add_assoc]
theorem cn_le {f : Nat → Int32} : ∀ t m, t ≤ m → cnB f t ≤ cnB f m := by
  intro t m h
  induction m with
  | zero =>
    have : t = 0 := by omega
    subst this
    exact Nat.le_refl _
  | succ m ih =>
    by_cases q : t = m + 1
    · subst q; exact Nat.le_refl _
    · have := ih (by omega)
      simp only [cnB]
      split <;> omega
theorem cn_le2 {f : Nat → Int32} : ∀ t, cnB f t ≤ t := by
  intro t
  induction t with
  | zero => exact Nat.le_refl _
  | succ t ih =>
    simp only [cnB]
    split <;> omega
theorem ok_le {f : Nat → Int32} : ∀ m, okB f m = true → ∀ t, t < m → am_bt (f t).toInt64 (-1) 3 = true := by
  intro m
  induction m with
  | zero => intro _ t h; omega
  | succ m ih =>
    intro h t ht
    simp only [okB, Bool.and_eq_true] at h
    by_cases q : t = m
    · subst q; exact h.2
    · exact ih h.1 t (by omega)
theorem cn_lt {f : Nat → Int32} {t m : Nat} (h : t < m) (hq : ¬ f t = -1) : cnB f t + 1 ≤ cnB f m := by
  have := cn_le (f := f) (t + 1) m (by omega)
  simp only [cnB, hq, if_false] at this
  exact this
theorem okV_ep {V : Nat → Nat → Int32} {p b m : Nat} {f : Nat → Int32} (hok : okV V) (h : V 9 3 = nI p) (hm : okB f m = true) (hp : p + cnB f m ≤ 24) (hb : b + m ≤ 16) : ∀ t, t ≤ m → okV (epV V p b f t) := by
  intro t
  induction t with
  | zero => intro _; exact hok
  | succ t ih =>
    intro ht
    simp only [epV]
    by_cases q : f t = -1
    · rw [if_pos q]; exact ih (by omega)
    · rw [if_neg q]
      have c1 := cn_lt (f := f) (t := t) (m := m) (by omega) q
      have r := (it_ok (ok_le m hm t (by omega))).resolve_left q
      refine okV_pt (ih (by omega)) (ep_93 h t) (by omega) ?_ r.2.2.2
      rw [rg, nI_toInt (by omega)]
      omega
section I72
variable {sv : am_V} {σ τ ρ : am_S} {Q : Option Value → am_H → Prop} {x y l : Int32} {V W : Nat → Nat → Int32} {k i m b p : Nat}
theorem s23 (hk : k < 4) (hi : i < 16) : AM sv 23 [.ref 67, .int (nI k), .int (nI i)] (am_toH σ) Q = Q (some (.int (σ.1 70 (16 * k + i)))) (am_toH σ) := by
  have e4 : am_in (nI (16 * k + i)) 64 = true := nI_in' (by omega) (by omega)
  have e5 : (nI (16 * k + i)).toNatClampNeg = 16 * k + i := nI_clamp (by omega)
  rw [n23]
  simp only [x23_0, x23_1, x23_4, x23_5, x23_7, x23_8, x23_9, x23_10, x23_11, Option.toList_some, Option.toList_none, List.cons_append, List.nil_append, cat_i, cat_r, cat_n, cat_f, cs_n, cs_i, cs_r, cs_l, cs_f, Nat.reduceAdd, Nat.reduceLeDiff, Nat.zero_le, if_true, if_false, true_or, or_true, am_wr_at, Nat.reduceEqDiff, not_true_eq_false, not_false_eq_true, i_one, ite_not, bI_z, bI_nz, bI_t, bI_f, bI_or, Bool.false_eq_true, Bool.true_eq_false, reduceCtorEq, lc70, ix16, e4, e5]
theorem s26 (hk : k < 4) (hi : i + m ≤ 16) : AM sv 26 [.ref 67, .int (nI k), .int (nI i), .int (nI m)] (am_toH σ) Q = Q (some (.int (if okB (fun t => σ.1 70 (16 * k + i + t)) m = true then nI (cnB (fun t => σ.1 70 (16 * k + i + t)) m) else -1))) (am_toH σ) := by
  generalize hf : (fun t => σ.1 70 (16 * k + i + t)) = f
  have hf' : ∀ t, σ.1 70 (16 * k + (i + t)) = f t := fun t => by rw [← hf, ← Nat.add_assoc]
  have key := am_up (N := m) (f := fun t => if okB f t = true then AW sv 26 6 [.ref 67, .int (nI k), .int (nI i), .int (nI m), .int (nI (cnB f t)), .int (nI (i + t)), vvF f t] [] (am_toH σ) 0 0 Q else Q (some (.int (-1))) (am_toH σ)) (by
    intro t ht
    have e0 : nI i + nI m = nI (i + m) := nI_add _ _
    have e1 : ¬ nI (i + m) ≤ nI (i + t) := nI_ge (by omega) (by omega)
    have c23 := fun Q => s23 (sv := sv) (σ := σ) (Q := Q) (k := k) (i := i + t) hk (by omega)
    simp only [hf'] at c23
    have e5 : i + (t + 1) = i + t + 1 := by omega
    simp only [okB, cnB, vv_s, e5]
    generalize vvF f t = vv
    cases ho : okB f t with
    | false => simp only [Bool.false_and, Bool.false_eq_true, if_false]
    | true =>
      simp only [Bool.true_and, if_true]
      rw [x26_6]
      cases hq : am_bt (f t).toInt64 (-1) 3 with
      | true =>
        rcases it_ok hq with q | ⟨q, q2, -⟩
        · have q' : (f t = -1) = True := eq_true q
          simp only [x26_8, x26_9, x26_10, x26_11, x26_14, x26_15, x26_16, x26_18, x26_21, x26_23, x26_25, x26_26, x26_29, x26_31, x26_32, x26_35, x26_38, x26_39, x26_40, x26_42, x26_43, x26_46, x26_49, x26_52, Option.toList_some, Option.toList_none, List.cons_append, List.nil_append, cat_i, cat_r, cat_n, cat_f, cs_n, cs_i, cs_r, cs_l, cs_f, Nat.reduceAdd, Nat.reduceLeDiff, Nat.zero_le, if_true, if_false, true_or, or_true, am_wr_at, Nat.reduceEqDiff, not_true_eq_false, not_false_eq_true, i_one, ite_not, bI_z, bI_nz, bI_t, bI_f, bI_or, Bool.false_eq_true, Bool.true_eq_false, reduceCtorEq, e0, e1, c23, q', nI_1]
        · have q' : (f t = -1) = False := eq_false q
          simp only [x26_8, x26_9, x26_10, x26_11, x26_14, x26_15, x26_16, x26_18, x26_21, x26_23, x26_25, x26_26, x26_29, x26_31, x26_32, x26_35, x26_38, x26_39, x26_40, x26_42, x26_43, x26_46, x26_49, x26_52, Option.toList_some, Option.toList_none, List.cons_append, List.nil_append, cat_i, cat_r, cat_n, cat_f, cs_n, cs_i, cs_r, cs_l, cs_f, Nat.reduceAdd, Nat.reduceLeDiff, Nat.zero_le, if_true, if_false, true_or, or_true, am_wr_at, Nat.reduceEqDiff, not_true_eq_false, not_false_eq_true, i_one, ite_not, bI_z, bI_nz, bI_t, bI_f, bI_or, Bool.false_eq_true, Bool.true_eq_false, reduceCtorEq, lt1, lt2, lt3, lt4, lt5, lt10, lt12, lt16, lt100, lt1000, bt1, bt2, bt3, bt4, bt5, bt10, bt12, bt16, bt100, bt1000, bt6, bt25, bt100000, s97, e0, e1, c23, q', q2, nI_1]
      | false =>
        obtain ⟨q, q2⟩ := it_bad hq
        have q' : (f t = -1) = False := eq_false q
        simp only [x26_8, x26_9, x26_10, x26_11, x26_14, x26_15, x26_16, x26_18, x26_21, x26_23, x26_25, x26_26, x26_29, x26_31, x26_32, x26_35, x26_38, x26_39, x26_40, x26_42, x26_43, x26_46, x26_49, x26_52, Option.toList_some, Option.toList_none, List.cons_append, List.nil_append, cat_i, cat_r, cat_n, cat_f, cs_n, cs_i, cs_r, cs_l, cs_f, Nat.reduceAdd, Nat.reduceLeDiff, Nat.zero_le, if_true, if_false, true_or, or_true, am_wr_at, Nat.reduceEqDiff, not_true_eq_false, not_false_eq_true, i_one, ite_not, bI_z, bI_nz, bI_t, bI_f, bI_or, Bool.false_eq_true, Bool.true_eq_false, reduceCtorEq, lt1, lt2, lt3, lt4, lt5, lt10, lt12, lt16, lt100, lt1000, bt1, bt2, bt3, bt4, bt5, bt10, bt12, bt16, bt100, bt1000, bt6, bt25, bt100000, s97, e0, e1, c23, q', q2, nI_1]) m (Nat.le_refl _)
  have e0 : nI i + nI m = nI (i + m) := nI_add _ _
  have e1 : nI (i + m) ≤ nI (i + m) := nI_le (by omega) (by omega)
  rw [n26]
  simp only [x26_0, x26_1, x26_3, x26_4, Option.toList_some, Option.toList_none, List.cons_append, List.nil_append, cat_i, cat_r, cat_n, cat_f, cs_n, cs_i, cs_r, cs_l, cs_f, Nat.reduceAdd, Nat.reduceLeDiff, Nat.zero_le, if_true, if_false, true_or, or_true, am_wr_at, Nat.reduceEqDiff, not_true_eq_false, not_false_eq_true, i_one, ite_not, bI_z, bI_nz, bI_t, bI_f, bI_or, Bool.false_eq_true, Bool.true_eq_false, reduceCtorEq]
  simp only [okB, cnB, vv_0, if_true, Nat.add_zero, nI_0] at key
  refine key.trans ?_
  generalize vvF f m = vv
  cases ho : okB f m with
  | false => simp only [Bool.false_eq_true, if_false]
  | true =>
    simp only [if_true]
    rw [x26_6]
    simp only [x26_8, x26_9, x26_10, x26_11, x26_55, x26_57, Option.toList_some, Option.toList_none, List.cons_append, List.nil_append, cat_i, cat_r, cat_n, cat_f, cs_n, cs_i, cs_r, cs_l, cs_f, Nat.reduceAdd, Nat.reduceLeDiff, Nat.zero_le, if_true, if_false, true_or, or_true, am_wr_at, Nat.reduceEqDiff, not_true_eq_false, not_false_eq_true, i_one, ite_not, bI_z, bI_nz, bI_t, bI_f, bI_or, Bool.false_eq_true, Bool.true_eq_false, reduceCtorEq, e0, e1]
/-- the class's points come -/
theorem c92 {f : Nat → Int32} {c : Int32} (hk : k < 4) (hi : i + m ≤ 16) (hb : b + m ≤ 16) (hf : ∀ t, t < m → σ.1 70 (16 * k + (i + t)) = f t) (hV : cV σ 1 = V) (h3 : V 9 3 = nI p) (hp : p + cnB f m ≤ 24) : ∃ τ : am_S, (cV τ 1 = epV V p b f m ∧ τ.2 = σ.2 ∧ ∀ k, k ≠ 17 → k ≠ 18 → k ≠ 19 → τ.1 k = σ.1 k) ∧ ∀ Q, AW sv 92 126 [.ref 0, .int (nI b), .int (nI k), .int l, .int (nI i), .int (nI m), .int 0, .int c, .int 0, .null] [] (am_toH σ) 0 0 Q = Q (some (.int c)) (am_toH τ) := by
  obtain ⟨τ, R, e⟩ := am_upE (N := m) (σ := σ) (R := fun t τ => cV τ 1 = epV V p b f t ∧ τ.2 = σ.2 ∧ ∀ k, k ≠ 17 → k ≠ 18 → k ≠ 19 → τ.1 k = σ.1 k) (F := fun t τ Q => AW sv 92 126 [.ref 0, .int (nI b), .int (nI k), .int l, .int (nI i), .int (nI m), .int 0, .int c, .int (nI t), vvF f t] [] (am_toH τ) 0 0 Q) ⟨hV, rfl, fun _ _ _ _ => rfl⟩ (by
    intro t τ ht R
    obtain ⟨v1, v2, v3⟩ := R
    have e0 : nI i + nI t = nI (i + t) := nI_add _ _
    have e9 : nI b + nI t = nI (b + t) := nI_add _ _
    have e1 : ¬ nI m ≤ nI t := nI_ge (by omega) (by omega)
    have c23 := fun Q => s23 (sv := sv) (σ := τ) (Q := Q) (k := k) (i := i + t) hk (by omega)
    rw [v3 70 (by decide) (by decide) (by decide), hf t ht] at c23
    have hn : τ.1 17 2 = nI (p + cnB f t) := (rc v1).2.2.2.trans (ep_93 h3 t)
    simp only [epV, vv_s]
    generalize vvF f t = vv
    by_cases q : f t = -1
    · have q' : (f t = -1) = True := eq_true q
      simp only [q', if_true]
      refine ⟨τ, ⟨v1, v2, v3⟩, fun Q => ?_⟩
      rw [x92_126]
      simp only [x92_128, x92_130, x92_133, x92_134, x92_137, x92_138, x92_140, x92_142, x92_143, x92_146, x92_148, x92_150, x92_151, x92_154, x92_155, x92_158, x92_161, x92_162, x92_164, x92_165, x92_167, x92_170, x92_173, Option.toList_some, Option.toList_none, List.cons_append, List.nil_append, cat_i, cat_r, cat_n, cat_f, cs_n, cs_i, cs_r, cs_l, cs_f, Nat.reduceAdd, Nat.reduceLeDiff, Nat.zero_le, if_true, if_false, true_or, or_true, am_wr_at, Nat.reduceEqDiff, not_true_eq_false, not_false_eq_true, i_one, ite_not, bI_z, bI_nz, bI_t, bI_f, bI_or, Bool.false_eq_true, Bool.true_eq_false, reduceCtorEq, e0, e1, c23, q', nI_1]
    · have q' : (f t = -1) = False := eq_false q
      simp only [q', if_false]
      have hl : p + cnB f t < 24 := by have := cn_lt (f := f) ht q; omega
      have c13 := fun Q => s13 (sv := sv) (σ := τ) (Q := Q) (x := nI (b + t)) (y := f t) hn hl
      refine ⟨am_wr (am_wr (am_wr τ 18 (upd (τ.1 18) (p + cnB f t) (nI (b + t)))) 19 (upd (τ.1 19) (p + cnB f t) (f t))) 17 (upd (τ.1 17) 2 (nI (p + cnB f t + 1))), ⟨?_, v2, fun k q1 q2 q3 => ?_⟩, fun Q => ?_⟩
      · rw [← v1]
        refine cV_pt (a := 1) hn hl (fun k => ?_) ?_ ?_ ?_
        · by_cases q : k = 17 ∨ k = 18 ∨ k = 19
          · exact Or.inl q
          · refine Or.inr ?_
            rw [am_wr_ne (by omega), am_wr_ne (by omega), am_wr_ne (by omega)]
        iterate 3 (simp only [Option.toList_some, Option.toList_none, List.cons_append, List.nil_append, cat_i, cat_r, cat_n, cat_f, cs_n, cs_i, cs_r, cs_l, cs_f, Nat.reduceAdd, Nat.reduceLeDiff, Nat.zero_le, if_true, if_false, true_or, or_true, am_wr_at, Nat.reduceEqDiff, not_true_eq_false, not_false_eq_true, i_one, ite_not, bI_z, bI_nz, bI_t, bI_f, bI_or, Bool.false_eq_true, Bool.true_eq_false, reduceCtorEq, upd_at])
      · rw [am_wr_ne q1, am_wr_ne q3, am_wr_ne q2]
        exact v3 k q1 q2 q3
      · rw [x92_126]
        simp only [x92_128, x92_130, x92_133, x92_134, x92_137, x92_138, x92_140, x92_142, x92_143, x92_146, x92_148, x92_150, x92_151, x92_154, x92_155, x92_158, x92_161, x92_162, x92_164, x92_165, x92_167, x92_170, x92_173, Option.toList_some, Option.toList_none, List.cons_append, List.nil_append, cat_i, cat_r, cat_n, cat_f, cs_n, cs_i, cs_r, cs_l, cs_f, Nat.reduceAdd, Nat.reduceLeDiff, Nat.zero_le, if_true, if_false, true_or, or_true, am_wr_at, Nat.reduceEqDiff, not_true_eq_false, not_false_eq_true, i_one, ite_not, bI_z, bI_nz, bI_t, bI_f, bI_or, Bool.false_eq_true, Bool.true_eq_false, reduceCtorEq, st1, e0, e9, e1, c23, q', c13, nI_1])
  refine ⟨τ, R, fun Q => ?_⟩
  have e1 : nI m ≤ nI m := nI_le (by omega) (by omega)
  refine (e Q).trans ?_
  generalize vvF f m = vv
  show AW sv 92 126 [.ref 0, .int (nI b), .int (nI k), .int l, .int (nI i), .int (nI m), .int 0, .int c, .int (nI m), vv] [] (am_toH τ) 0 0 Q = _
  rw [x92_126]
  simp only [x92_128, x92_130, x92_176, x92_178, Option.toList_some, Option.toList_none, List.cons_append, List.nil_append, cat_i, cat_r, cat_n, cat_f, cs_n, cs_i, cs_r, cs_l, cs_f, Nat.reduceAdd, Nat.reduceLeDiff, Nat.zero_le, if_true, if_false, true_or, or_true, am_wr_at, Nat.reduceEqDiff, not_true_eq_false, not_false_eq_true, i_one, ite_not, bI_z, bI_nz, bI_t, bI_f, bI_or, Bool.false_eq_true, Bool.true_eq_false, reduceCtorEq, e1]
/-- the reference looks through the items -/
theorem m165a {f : Nat → Int32} (hk : k < 4) (hi : i + m ≤ 16) (hf : ∀ t, t < m → σ.1 88 (16 * k + i + t) = f t) : AW sv 165 65 [.ref 71, .int (nI b), .int (nI k), .int l, .int (nI i), .int (nI m), .int 0, .null, .null, .null] [] (am_toH σ) 0 0 Q = if okB f m = true then AW sv 165 134 [.ref 71, .int (nI b), .int (nI k), .int l, .int (nI i), .int (nI m), .int 0, .int (nI (cnB f m)), .int (nI m), vvF f m] [] (am_toH σ) 0 0 Q else Q (some (.int (-2))) (am_toH σ) := by
  have key := am_up (N := m) (f := fun t => if okB f t = true then AW sv 165 71 [.ref 71, .int (nI b), .int (nI k), .int l, .int (nI i), .int (nI m), .int 0, .int (nI (cnB f t)), .int (nI t), vvF f t] [] (am_toH σ) 0 0 Q else Q (some (.int (-2))) (am_toH σ)) (by
    intro t ht
    have e1 : ¬ nI m ≤ nI t := nI_ge (by omega) (by omega)
    have e0 : nI (16 * k + i) + nI t = nI (16 * k + i + t) := nI_add _ _
    have e4 : am_in (nI (16 * k + i + t)) 64 = true := nI_in' (by omega) (by omega)
    have e5 : (nI (16 * k + i + t)).toNatClampNeg = 16 * k + i + t := nI_clamp (by omega)
    simp only [okB, cnB, vv_s]
    generalize vvF f t = vv
    rcases Bool.eq_false_or_eq_true (okB f t) with ho | ho
    rotate_left
    · simp only [ho, Bool.false_and, Bool.false_eq_true, if_false]
    · simp only [ho, Bool.true_and, if_true]
      rw [x165_71]
      cases hq : am_bt (f t).toInt64 (-1) 3 with
      | true =>
        rcases it_ok hq with q | ⟨q, -, q3, -⟩
        · rw [q] at hq
          have q' : f t = -1 := q
          simp only [x165_73, x165_75, x165_78, x165_79, x165_82, x165_84, x165_85, x165_86, x165_88, x165_89, x165_91, x165_92, x165_93, x165_95, x165_97, x165_98, x165_101, x165_104, x165_107, x165_110, x165_112, x165_113, x165_115, x165_117, x165_120, x165_121, x165_124, x165_125, x165_126, x165_128, x165_131, Option.toList_some, Option.toList_none, List.cons_append, List.nil_append, cat_i, cat_r, cat_n, cat_f, cs_n, cs_i, cs_r, cs_l, cs_f, Nat.reduceAdd, Nat.reduceLeDiff, Nat.zero_le, if_true, if_false, true_or, or_true, am_wr_at, Nat.reduceEqDiff, not_true_eq_false, not_false_eq_true, i_one, ite_not, bI_z, bI_nz, bI_t, bI_f, bI_or, Bool.false_eq_true, Bool.true_eq_false, reduceCtorEq, s104, lc88, e1, ix16', e0, e4, e5, hf t ht, q', hq, m1lt, Int32.add_zero, nI_1]
        · have q' : (f t = -1) = False := eq_false q
          simp only [x165_73, x165_75, x165_78, x165_79, x165_82, x165_84, x165_85, x165_86, x165_88, x165_89, x165_91, x165_92, x165_93, x165_95, x165_97, x165_98, x165_101, x165_104, x165_107, x165_110, x165_112, x165_113, x165_115, x165_117, x165_120, x165_121, x165_124, x165_125, x165_126, x165_128, x165_131, Option.toList_some, Option.toList_none, List.cons_append, List.nil_append, cat_i, cat_r, cat_n, cat_f, cs_n, cs_i, cs_r, cs_l, cs_f, Nat.reduceAdd, Nat.reduceLeDiff, Nat.zero_le, if_true, if_false, true_or, or_true, am_wr_at, Nat.reduceEqDiff, not_true_eq_false, not_false_eq_true, i_one, ite_not, bI_z, bI_nz, bI_t, bI_f, bI_or, Bool.false_eq_true, Bool.true_eq_false, reduceCtorEq, s104, lc88, e1, ix16', e0, e4, e5, hf t ht, q', hq, q3, nI_1]
      | false => simp only [x165_73, x165_75, x165_78, x165_79, x165_82, x165_84, x165_85, x165_86, x165_88, x165_89, x165_91, x165_92, x165_93, x165_95, x165_97, x165_98, x165_101, x165_104, x165_107, x165_110, x165_112, x165_113, x165_115, x165_117, x165_120, x165_121, x165_124, x165_125, x165_126, x165_128, x165_131, Option.toList_some, Option.toList_none, List.cons_append, List.nil_append, cat_i, cat_r, cat_n, cat_f, cs_n, cs_i, cs_r, cs_l, cs_f, Nat.reduceAdd, Nat.reduceLeDiff, Nat.zero_le, if_true, if_false, true_or, or_true, am_wr_at, Nat.reduceEqDiff, not_true_eq_false, not_false_eq_true, i_one, ite_not, bI_z, bI_nz, bI_t, bI_f, bI_or, Bool.false_eq_true, Bool.true_eq_false, reduceCtorEq, s104, lc88, e1, ix16', e0, e4, e5, hf t ht, hq, nI_1]) m (Nat.le_refl _)
  have e1 : nI m ≤ nI m := nI_le (by omega) (by omega)
  simp only [x165_65, x165_66, x165_68, x165_69, Option.toList_some, Option.toList_none, List.cons_append, List.nil_append, cat_i, cat_r, cat_n, cat_f, cs_n, cs_i, cs_r, cs_l, cs_f, Nat.reduceAdd, Nat.reduceLeDiff, Nat.zero_le, if_true, if_false, true_or, or_true, am_wr_at, Nat.reduceEqDiff, not_true_eq_false, not_false_eq_true, i_one, ite_not, bI_z, bI_nz, bI_t, bI_f, bI_or, Bool.false_eq_true, Bool.true_eq_false, reduceCtorEq]
  simp only [okB, cnB, vv_0, if_true, nI_0] at key
  refine key.trans ?_
  cases ho : okB f m with
  | false => simp only [Bool.false_eq_true, if_false]
  | true =>
    simp only [if_true]
    generalize vvF f m = vv
    rw [x165_71]
    simp only [x165_73, x165_75, Option.toList_some, Option.toList_none, List.cons_append, List.nil_append, cat_i, cat_r, cat_n, cat_f, cs_n, cs_i, cs_r, cs_l, cs_f, Nat.reduceAdd, Nat.reduceLeDiff, Nat.zero_le, if_true, if_false, true_or, or_true, am_wr_at, Nat.reduceEqDiff, not_true_eq_false, not_false_eq_true, i_one, ite_not, bI_z, bI_nz, bI_t, bI_f, bI_or, Bool.false_eq_true, Bool.true_eq_false, reduceCtorEq, e1]
/-- the reference's points come -/
theorem m165b {f : Nat → Int32} {c : Int32} {vv : Value} (hk : k < 4) (hi : i + m ≤ 16) (hb : b + m ≤ 16) (hf : ∀ t, t < m → σ.1 88 (16 * k + i + t) = f t) (ho : okB f m = true) (hV : mV σ = V) (h3 : V 9 3 = nI p) (hp : p + cnB f m ≤ 24) : ∃ τ : am_S, (mV τ = epV V p b f m ∧ (∀ k, k ≠ 71 → k ≠ 83 → k ≠ 84 → τ.1 k = σ.1 k) ∧ ∀ j, j ≠ 19 → τ.1 71 j = σ.1 71 j) ∧ ∀ Q, AW sv 165 152 [.ref 71, .int (nI b), .int (nI k), .int l, .int (nI i), .int (nI m), .int 0, .int c, .int 0, vv] [] (am_toH σ) 0 0 Q = Q (some (.int c)) (am_toH τ) := by
  obtain ⟨τ, R, e⟩ := am_upE (N := m) (σ := σ) (R := fun t τ => mV τ = epV V p b f t ∧ (∀ k, k ≠ 71 → k ≠ 83 → k ≠ 84 → τ.1 k = σ.1 k) ∧ ∀ j, j ≠ 19 → τ.1 71 j = σ.1 71 j) (F := fun t τ Q => AW sv 165 152 [.ref 71, .int (nI b), .int (nI k), .int l, .int (nI i), .int (nI m), .int 0, .int c, .int (nI t), vv] [] (am_toH τ) 0 0 Q) ⟨hV, fun _ _ _ _ => rfl, fun _ _ => rfl⟩ (by
    intro t τ ht R
    obtain ⟨v1, v2, v3⟩ := R
    have e1 : ¬ nI m ≤ nI t := nI_ge (by omega) (by omega)
    have e9 : nI b + nI t = nI (b + t) := nI_add _ _
    have e0 : nI (16 * k + i) + nI t = nI (16 * k + i + t) := nI_add _ _
    have e4 : am_in (nI (16 * k + i + t)) 64 = true := nI_in' (by omega) (by omega)
    have e5 : (nI (16 * k + i + t)).toNatClampNeg = 16 * k + i + t := nI_clamp (by omega)
    have hft : τ.1 88 (16 * k + i + t) = f t := by rw [v2 88 (by decide) (by decide) (by decide)]; exact hf t ht
    have hn : τ.1 71 19 = nI (p + cnB f t) := (rm v1).2.2.2.trans (ep_93 h3 t)
    simp only [epV]
    rcases it_ok (ok_le m ho t ht) with q | ⟨q, -, q3, -⟩
    · have q' : (f t = -1) = True := eq_true q
      simp only [q', if_true]
      refine ⟨τ, ⟨v1, v2, v3⟩, fun Q => ?_⟩
      rw [x165_152]
      rw [q] at hft
      simp only [x165_154, x165_156, x165_159, x165_160, x165_163, x165_165, x165_166, x165_167, x165_169, x165_170, x165_172, x165_173, x165_174, x165_177, x165_178, x165_179, x165_181, x165_182, x165_183, x165_186, x165_188, x165_189, x165_190, x165_192, x165_193, x165_195, x165_196, x165_197, x165_200, x165_203, Option.toList_some, Option.toList_none, List.cons_append, List.nil_append, cat_i, cat_r, cat_n, cat_f, cs_n, cs_i, cs_r, cs_l, cs_f, Nat.reduceAdd, Nat.reduceLeDiff, Nat.zero_le, if_true, if_false, true_or, or_true, am_wr_at, Nat.reduceEqDiff, not_true_eq_false, not_false_eq_true, i_one, ite_not, bI_z, bI_nz, bI_t, bI_f, bI_or, Bool.false_eq_true, Bool.true_eq_false, reduceCtorEq, lc88, e1, ix16', e0, e4, e5, hft, m1lt, nI_1]
    · have q' : (f t = -1) = False := eq_false q
      simp only [q', if_false]
      have hl : p + cnB f t < 24 := by have := cn_lt (f := f) ht q; omega
      have c13 := fun Q => s152 (sv := sv) (σ := τ) (Q := Q) (x := nI (b + t)) (y := f t) hn hl
      refine ⟨am_wr (am_wr (am_wr τ 83 (upd (τ.1 83) (p + cnB f t) (nI (b + t)))) 84 (upd (τ.1 84) (p + cnB f t) (f t))) 71 (upd (τ.1 71) 19 (nI (p + cnB f t + 1))), ⟨?_, fun k q1 q2 q3 => ?_, fun j q1 => ?_⟩, fun Q => ?_⟩
      · rw [← v1]
        refine mV_pt hn hl (fun k => ?_) ⟨?_, ?_, ?_⟩ ?_ ?_ ?_
        · by_cases q : k = 71 ∨ k = 83 ∨ k = 84
          · exact Or.inl q
          · refine Or.inr ?_
            rw [am_wr_ne (by omega), am_wr_ne (by omega), am_wr_ne (by omega)]
        iterate 6 (simp only [Option.toList_some, Option.toList_none, List.cons_append, List.nil_append, cat_i, cat_r, cat_n, cat_f, cs_n, cs_i, cs_r, cs_l, cs_f, Nat.reduceAdd, Nat.reduceLeDiff, Nat.zero_le, if_true, if_false, true_or, or_true, am_wr_at, Nat.reduceEqDiff, not_true_eq_false, not_false_eq_true, i_one, ite_not, bI_z, bI_nz, bI_t, bI_f, bI_or, Bool.false_eq_true, Bool.true_eq_false, reduceCtorEq, upd_at])
      · rw [am_wr_ne q1, am_wr_ne q3, am_wr_ne q2]
        exact v2 k q1 q2 q3
      · rw [am_wr_eq, upd_at, if_neg q1]
        exact v3 j q1
      · rw [x165_152]
        simp only [x165_154, x165_156, x165_159, x165_160, x165_163, x165_165, x165_166, x165_167, x165_169, x165_170, x165_172, x165_173, x165_174, x165_177, x165_178, x165_179, x165_181, x165_182, x165_183, x165_186, x165_188, x165_189, x165_190, x165_192, x165_193, x165_195, x165_196, x165_197, x165_200, x165_203, Option.toList_some, Option.toList_none, List.cons_append, List.nil_append, cat_i, cat_r, cat_n, cat_f, cs_n, cs_i, cs_r, cs_l, cs_f, Nat.reduceAdd, Nat.reduceLeDiff, Nat.zero_le, if_true, if_false, true_or, or_true, am_wr_at, Nat.reduceEqDiff, not_true_eq_false, not_false_eq_true, i_one, ite_not, bI_z, bI_nz, bI_t, bI_f, bI_or, Bool.false_eq_true, Bool.true_eq_false, reduceCtorEq, lc88, e1, e9, ix16', e0, e4, e5, hft, q3, c13, nI_1])
  refine ⟨τ, R, fun Q => ?_⟩
  have e1 : nI m ≤ nI m := nI_le (by omega) (by omega)
  refine (e Q).trans ?_
  show AW sv 165 152 [.ref 71, .int (nI b), .int (nI k), .int l, .int (nI i), .int (nI m), .int 0, .int c, .int (nI m), vv] [] (am_toH τ) 0 0 Q = _
  rw [x165_152]
  simp only [x165_154, x165_156, x165_206, x165_208, Option.toList_some, Option.toList_none, List.cons_append, List.nil_append, cat_i, cat_r, cat_n, cat_f, cs_n, cs_i, cs_r, cs_l, cs_f, Nat.reduceAdd, Nat.reduceLeDiff, Nat.zero_le, if_true, if_false, true_or, or_true, am_wr_at, Nat.reduceEqDiff, not_true_eq_false, not_false_eq_true, i_one, ite_not, bI_z, bI_nz, bI_t, bI_f, bI_or, Bool.false_eq_true, Bool.true_eq_false, reduceCtorEq, e1]
theorem k16b : ∀ b, b < 16 → (16 : Int32) - nI b = nI (16 - b) := by decide +kernel
/-- eyes -/
theorem sim31 : ∀ x0 x1 x2 x3 x4 : Int32, SimOK sv Inv 92 165 [.int x0, .int x1, .int x2, .int x3, .int x4] := by
  intro b w l i n σ hI
  by_cases h0 : am_in b 16 = true
  · by_cases h1 : am_in w 4 = true
    · by_cases h2 : am_in l 3 = true
      · obtain ⟨b, hb, rfl⟩ := in_nI h0 (by decide)
        obtain ⟨k, hk, rfl⟩ := in_nI h1 (by decide)
        have kb := k16b b hb
        by_cases hn : 1 ≤ n.toInt ∧ n.toInt ≤ 16 - (b : Int)
        · obtain ⟨m, hm, rfl⟩ := rg_nI (n := 16) (by decide) (⟨by omega, by omega⟩ : rg n 0 16)
          rw [nI_toInt (by omega)] at hn
          have y1 : ¬ nI m < 1 := nI_nlt (b := 1) (by omega) (by omega)
          have y2 : nI m ≤ nI (16 - b) := nI_le (by omega) (by omega)
          have y3 : am_bt (nI m).toInt64 1 16 = true := by
            apply decide_eq_true
            rw [Int32.toInt_toInt64, nI_toInt (by omega), show (1 : Int64).toInt = 1 by decide, show (16 : Int64).toInt = 16 by decide]
            omega
          have y4 : nI b + nI m = nI (b + m) := nI_add _ _
          have y5 : nI (b + m) ≤ 16 := nI_le (b := 16) (by omega) (by decide)
          have y6 : decide (0 ≤ (nI m).toInt) = true := decide_eq_true (by rw [nI_toInt (by omega)]; omega)
          obtain ⟨q1, q2, q3, q4, q5⟩ := hI.2.2.2.1 k hk
          have e0 := low_nonneg q2
          rw [q1] at e0 q2
          by_cases a1 : σ.1 86 k = -1
          · have a1' : ¬ 0 ≤ σ.1 86 k := by rw [e0]; simpa using a1
            exact ⟨-11, σ, σ, fun Q => by rw [n92]; simp only [x92_0, x92_1, x92_3, x92_6, x92_9, x92_10, x92_11, x92_14, x92_17, x92_18, x92_19, x92_22, x92_25, x92_27, x92_28, x92_31, x92_33, x92_35, x92_36, x92_37, x92_40, x92_41, x92_42, x92_43, x92_46, x92_47, x92_48, x92_51, x92_53, x92_55, x92_58, x92_60, Option.toList_some, Option.toList_none, List.cons_append, List.nil_append, cat_i, cat_r, cat_n, cat_f, cs_n, cs_i, cs_r, cs_l, cs_f, Nat.reduceAdd, Nat.reduceLeDiff, Nat.zero_le, if_true, if_false, true_or, or_true, am_wr_at, Nat.reduceEqDiff, not_true_eq_false, not_false_eq_true, i_one, ite_not, bI_z, bI_nz, bI_t, bI_f, bI_or, Bool.false_eq_true, Bool.true_eq_false, reduceCtorEq, lt1, lt2, lt3, lt4, lt5, lt10, lt12, lt16, lt100, lt1000, bt1, bt2, bt3, bt4, bt5, bt10, bt12, bt16, bt100, bt1000, bt6, bt25, bt100000, s97, s20 hk, h0, h1, h2, kb, y1, y2, q1, a1, m11], fun Q => by rw [n165]; simp only [x165_0, x165_1, x165_4, x165_7, x165_8, x165_11, x165_14, x165_15, x165_18, x165_21, x165_23, x165_24, x165_25, x165_28, x165_31, x165_34, x165_35, x165_37, x165_38, x165_40, x165_43, x165_44, x165_45, x165_46, x165_47, x165_48, x165_50, x165_52, x165_55, x165_57, x165_59, x165_62, x165_64, Option.toList_some, Option.toList_none, List.cons_append, List.nil_append, cat_i, cat_r, cat_n, cat_f, cs_n, cs_i, cs_r, cs_l, cs_f, Nat.reduceAdd, Nat.reduceLeDiff, Nat.zero_le, if_true, if_false, true_or, or_true, am_wr_at, Nat.reduceEqDiff, not_true_eq_false, not_false_eq_true, i_one, ite_not, bI_z, bI_nz, bI_t, bI_f, bI_or, Bool.false_eq_true, Bool.true_eq_false, reduceCtorEq, lt1, lt2, lt3, lt4, lt5, lt10, lt12, lt16, lt100, lt1000, bt1, bt2, bt3, bt4, bt5, bt10, bt12, bt16, bt100, bt1000, bt6, bt25, bt100000, s104, s106, s162, s163, s164 hk, h0, h1, h2, y3, y4, y5, a1', m11'], hI⟩
          · have a1' : 0 ≤ σ.1 86 k := by rw [e0]; exact a1
            by_cases a2 : σ.1 86 k = l
            · subst a2
              have a1f : (σ.1 86 k = -1) = False := eq_false a1
              by_cases a3 : fitF (σ.1 87 k) i (nI m) = true
              · have b3 := of_decide_eq_true a3
                rw [nI_toInt (by omega)] at b3
                have r2 := q4.2
                rw [q3] at r2
                obtain ⟨i, hi, rfl⟩ := rg_nI (n := 16) (by decide) (⟨b3.1, by omega⟩ : rg i 0 16)
                rw [nI_toInt (by omega)] at b3
                have hi2 : i + m ≤ 16 := by omega
                have hf : ∀ t, t < m → σ.1 70 (16 * k + i + t) = σ.1 88 (16 * k + i + t) := by
                  intro t ht
                  have := q5 (i + t) (by
                    obtain ⟨z, hz, ez⟩ := rg_nI (n := 16) (by decide) q4
                    rw [ez, nI_clamp (by omega)]
                    rw [← q3, ez, nI_toInt (by omega)] at b3
                    omega)
                  rw [← Nat.add_assoc] at this
                  exact this
                have hokc : ∀ t, t ≤ m → okB (fun t => σ.1 70 (16 * k + i + t)) t = okB (fun t => σ.1 88 (16 * k + i + t)) t ∧ cnB (fun t => σ.1 70 (16 * k + i + t)) t = cnB (fun t => σ.1 88 (16 * k + i + t)) t := by
                  intro t
                  induction t with
                  | zero => intro _; exact ⟨rfl, rfl⟩
                  | succ t ih =>
                    intro ht
                    have h1 := ih (by omega)
                    simp only [okB, cnB, h1.1, h1.2, hf t (by omega), and_self]
                obtain ⟨o1, o2⟩ := hokc m (Nat.le_refl _)
                obtain ⟨p, hp, ep⟩ := rg_nI (n := 24) (by decide) hI.2.1.2.2.2.2.2.1
                have gm : σ.1 71 19 = nI p := ep
                have gc : σ.1 17 2 = nI p := (congrFun (congrFun hI.1 9) 3 : σ.1 17 2 = σ.1 71 19).trans gm
                have c26 := fun Q => s26 (sv := sv) (σ := σ) (Q := Q) hk hi2
                rw [o1, o2] at c26
                generalize hff : (fun t => σ.1 88 (16 * k + i + t)) = f at *
                have hff' : ∀ t, σ.1 88 (16 * k + i + t) = f t := fun t => by rw [← hff]
                have m1 := fun Q => m165a (sv := sv) (σ := σ) (Q := Q) (b := b) (l := σ.1 86 k) hk hi2 (f := f) (fun t _ => hff' t)
                have cl := cn_le2 (f := f) m
                cases ho : okB f m with
                | false =>
                  simp only [ho, Bool.false_eq_true, if_false] at c26 m1
                  refine ⟨-2, σ, σ, fun Q => ?_, fun Q => ?_, hI⟩
                  · rw [n92]
                    simp only [x92_0, x92_1, x92_3, x92_6, x92_9, x92_10, x92_11, x92_14, x92_17, x92_18, x92_19, x92_22, x92_25, x92_27, x92_28, x92_31, x92_33, x92_35, x92_36, x92_37, x92_40, x92_41, x92_42, x92_43, x92_46, x92_47, x92_48, x92_51, x92_53, x92_55, x92_58, x92_60, x92_61, x92_62, x92_65, x92_66, x92_68, x92_70, x92_73, x92_76, x92_78, x92_79, x92_80, x92_83, x92_84, x92_86, x92_88, x92_91, x92_93, x92_95, x92_96, x92_99, x92_101, Option.toList_some, Option.toList_none, List.cons_append, List.nil_append, cat_i, cat_r, cat_n, cat_f, cs_n, cs_i, cs_r, cs_l, cs_f, Nat.reduceAdd, Nat.reduceLeDiff, Nat.zero_le, if_true, if_false, true_or, or_true, am_wr_at, Nat.reduceEqDiff, not_true_eq_false, not_false_eq_true, i_one, ite_not, bI_z, bI_nz, bI_t, bI_f, bI_or, Bool.false_eq_true, Bool.true_eq_false, reduceCtorEq, lt1, lt2, lt3, lt4, lt5, lt10, lt12, lt16, lt100, lt1000, bt1, bt2, bt3, bt4, bt5, bt10, bt12, bt16, bt100, bt1000, bt6, bt25, bt100000, s97, s20 hk, s21 hk q4, h0, h1, h2, kb, y1, y2, q1, q3, a1f, a3, y6, Bool.and_true, c26]
                  · rw [← m1 Q, n165]
                    simp only [x165_0, x165_1, x165_4, x165_7, x165_8, x165_11, x165_14, x165_15, x165_18, x165_21, x165_23, x165_24, x165_25, x165_28, x165_31, x165_34, x165_35, x165_37, x165_38, x165_40, x165_43, x165_44, x165_45, x165_46, x165_47, x165_48, x165_50, x165_52, x165_55, x165_57, x165_59, Option.toList_some, Option.toList_none, List.cons_append, List.nil_append, cat_i, cat_r, cat_n, cat_f, cs_n, cs_i, cs_r, cs_l, cs_f, Nat.reduceAdd, Nat.reduceLeDiff, Nat.zero_le, if_true, if_false, true_or, or_true, am_wr_at, Nat.reduceEqDiff, not_true_eq_false, not_false_eq_true, i_one, ite_not, bI_z, bI_nz, bI_t, bI_f, bI_or, Bool.false_eq_true, Bool.true_eq_false, reduceCtorEq, lt1, lt2, lt3, lt4, lt5, lt10, lt12, lt16, lt100, lt1000, bt1, bt2, bt3, bt4, bt5, bt10, bt12, bt16, bt100, bt1000, bt6, bt25, bt100000, s104, s106, s162, s163, s164 hk, h0, h1, h2, y3, y4, y5, a1', a3, m0']
                | true =>
                  simp only [ho, if_true] at c26 m1
                  have z1 : nI p + nI (cnB f m) = nI (p + cnB f m) := nI_add _ _
                  have zm : (nI (cnB f m) = -1) = False := eq_false (fb_b' (by omega))
                  by_cases hfull : p + cnB f m ≤ 24
                  · have z2 : nI (p + cnB f m) ≤ 24 := nI_le (b := 24) hfull (by decide)
                    obtain ⟨t1, ⟨v1, v2, v3⟩, ec⟩ := c92 (sv := sv) (σ := σ) (V := mV σ) (p := p) (b := b) (l := σ.1 86 k) (c := nI (cnB f m)) (f := f) hk hi2 (by omega) (fun t ht => by rw [← hff' t, ← hf t ht, Nat.add_assoc]) hI.1 ep hfull
                    have hmt : mV t1 = mV σ := by
                      have g71 := v3 71 (by decide) (by decide) (by decide)
                      exact mV_of (fun k q1 q2 => v3 k (by omega) (by omega) (by omega)) ⟨v3 81 (by decide) (by decide) (by decide), v3 83 (by decide) (by decide) (by decide), v3 84 (by decide) (by decide) (by decide)⟩ ⟨by rw [g71], by rw [g71], by rw [g71], by rw [g71]⟩
                    have g88 := v3 88 (by decide) (by decide) (by decide)
                    have g71 := v3 71 (by decide) (by decide) (by decide)
                    have g86 := v3 86 (by decide) (by decide) (by decide)
                    have g87 := v3 87 (by decide) (by decide) (by decide)
                    have hft1 : ∀ t, t < m → t1.1 88 (16 * k + i + t) = f t := fun t _ => by rw [g88]; exact hff' t
                    obtain ⟨t2, ⟨w1, w2, w3⟩, em⟩ := m165b (sv := sv) (σ := t1) (V := mV σ) (p := p) (b := b) (l := σ.1 86 k) (c := nI (cnB f m)) (vv := vvF f m) (f := f) hk hi2 (by omega) hft1 ho hmt ep hfull
                    have m2 := fun Q => m165a (sv := sv) (σ := t1) (Q := Q) (b := b) (l := σ.1 86 k) hk hi2 (f := f) hft1
                    simp only [ho, if_true] at m2
                    have fc : ∀ k, k ≠ 17 → k ≠ 18 → k ≠ 19 → k ≠ 71 → k ≠ 83 → k ≠ 84 → t2.1 k = σ.1 k := fun k q1 q2 q3 q4 q5 q6 => (w2 k q4 q5 q6).trans (v3 k q1 q2 q3)
                    refine ⟨nI (cnB f m), t1, t2, fun Q => ?_, fun Q => ?_, Inv_mk (V := epV (mV σ) p b f m) hI ⟨?_, ?_, ?_, ?_, ?_, ?_, ?_, ?_, ?_, ?_, ?_, ?_, ?_, fun k q1 q2 => fc k (by omega) (by omega) (by omega) (by omega) (by omega) (by omega)⟩ ?_ w1 (okV_ep hI.2.1 ep ho hfull (by omega) m (Nat.le_refl _))⟩
                    · rw [← ec Q, n92]
                      simp only [x92_0, x92_1, x92_3, x92_6, x92_9, x92_10, x92_11, x92_14, x92_17, x92_18, x92_19, x92_22, x92_25, x92_27, x92_28, x92_31, x92_33, x92_35, x92_36, x92_37, x92_40, x92_41, x92_42, x92_43, x92_46, x92_47, x92_48, x92_51, x92_53, x92_55, x92_58, x92_60, x92_61, x92_62, x92_65, x92_66, x92_68, x92_70, x92_73, x92_76, x92_78, x92_79, x92_80, x92_83, x92_84, x92_86, x92_88, x92_91, x92_93, x92_95, x92_96, x92_99, x92_101, x92_102, x92_103, x92_106, x92_109, x92_112, x92_114, x92_115, x92_117, x92_120, x92_122, x92_123, x92_124, Option.toList_some, Option.toList_none, List.cons_append, List.nil_append, cat_i, cat_r, cat_n, cat_f, cs_n, cs_i, cs_r, cs_l, cs_f, Nat.reduceAdd, Nat.reduceLeDiff, Nat.zero_le, if_true, if_false, true_or, or_true, am_wr_at, Nat.reduceEqDiff, not_true_eq_false, not_false_eq_true, i_one, ite_not, bI_z, bI_nz, bI_t, bI_f, bI_or, Bool.false_eq_true, Bool.true_eq_false, reduceCtorEq, lt1, lt2, lt3, lt4, lt5, lt10, lt12, lt16, lt100, lt1000, bt1, bt2, bt3, bt4, bt5, bt10, bt12, bt16, bt100, bt1000, bt6, bt25, bt100000, st1, s97, s20 hk, s21 hk q4, h0, h1, h2, kb, y1, y2, q1, q3, a1f, a3, y6, Bool.and_true, c26, gc, z1, z2, zm]
                    · have st : AM sv 165 [.ref 71, .int (nI b), .int (nI k), .int (σ.1 86 k), .int (nI i), .int (nI m)] (am_toH t1) Q = AW sv 165 65 [.ref 71, .int (nI b), .int (nI k), .int (σ.1 86 k), .int (nI i), .int (nI m), .int 0, .null, .null, .null] [] (am_toH t1) 0 0 Q := by
                        rw [n165]
                        simp only [x165_0, x165_1, x165_4, x165_7, x165_8, x165_11, x165_14, x165_15, x165_18, x165_21, x165_23, x165_24, x165_25, x165_28, x165_31, x165_34, x165_35, x165_37, x165_38, x165_40, x165_43, x165_44, x165_45, x165_46, x165_47, x165_48, x165_50, x165_52, x165_55, x165_57, x165_59, Option.toList_some, Option.toList_none, List.cons_append, List.nil_append, cat_i, cat_r, cat_n, cat_f, cs_n, cs_i, cs_r, cs_l, cs_f, Nat.reduceAdd, Nat.reduceLeDiff, Nat.zero_le, if_true, if_false, true_or, or_true, am_wr_at, Nat.reduceEqDiff, not_true_eq_false, not_false_eq_true, i_one, ite_not, bI_z, bI_nz, bI_t, bI_f, bI_or, Bool.false_eq_true, Bool.true_eq_false, reduceCtorEq, lt1, lt2, lt3, lt4, lt5, lt10, lt12, lt16, lt100, lt1000, bt1, bt2, bt3, bt4, bt5, bt10, bt12, bt16, bt100, bt1000, bt6, bt25, bt100000, s104, s106, s162, s163, s164 hk, h0, h1, h2, y3, y4, y5, g86, g87, a1', a3, m0']
                      have gm1 : t1.1 71 19 = nI p := by rw [g71]; exact gm
                      rw [st, m2 Q, ← em Q]
                      simp only [x165_134, x165_135, x165_138, x165_140, x165_141, x165_143, x165_146, x165_148, x165_149, x165_150, Option.toList_some, Option.toList_none, List.cons_append, List.nil_append, cat_i, cat_r, cat_n, cat_f, cs_n, cs_i, cs_r, cs_l, cs_f, Nat.reduceAdd, Nat.reduceLeDiff, Nat.zero_le, if_true, if_false, true_or, or_true, am_wr_at, Nat.reduceEqDiff, not_true_eq_false, not_false_eq_true, i_one, ite_not, bI_z, bI_nz, bI_t, bI_f, bI_or, Bool.false_eq_true, Bool.true_eq_false, reduceCtorEq, gm1, z1, z2]
                    · rw [fc 65 (by decide) (by decide) (by decide) (by decide) (by decide) (by decide)]
                    · rw [fc 66 (by decide) (by decide) (by decide) (by decide) (by decide) (by decide)]
                    · rw [fc 79 (by decide) (by decide) (by decide) (by decide) (by decide) (by decide)]
                    · rw [w3 10 (by decide), g71]
                    · rw [fc 68 (by decide) (by decide) (by decide) (by decide) (by decide) (by decide)]
                    · rw [fc 69 (by decide) (by decide) (by decide) (by decide) (by decide) (by decide)]
                    · rw [fc 70 (by decide) (by decide) (by decide) (by decide) (by decide) (by decide)]
                    · rw [fc 86 (by decide) (by decide) (by decide) (by decide) (by decide) (by decide)]
                    · rw [fc 87 (by decide) (by decide) (by decide) (by decide) (by decide) (by decide)]
                    · rw [fc 88 (by decide) (by decide) (by decide) (by decide) (by decide) (by decide)]
                    · rw [fc 0 (by decide) (by decide) (by decide) (by decide) (by decide) (by decide)]
                    · rw [w3 23 (by decide), g71]
                    · rw [fc 85 (by decide) (by decide) (by decide) (by decide) (by decide) (by decide)]
                    · rw [← v1]
                      exact cV_of (fun k q1 q2 => w2 k (by omega) (by omega) (by omega)) (by rw [w2 1 (by decide) (by decide) (by decide)])
                  · have z2 : ¬ nI (p + cnB f m) ≤ 24 := nI_ge (a := 24) (by omega) (by omega)
                    refine ⟨-3, σ, σ, fun Q => ?_, fun Q => ?_, hI⟩
                    · rw [n92]
                      simp only [x92_0, x92_1, x92_3, x92_6, x92_9, x92_10, x92_11, x92_14, x92_17, x92_18, x92_19, x92_22, x92_25, x92_27, x92_28, x92_31, x92_33, x92_35, x92_36, x92_37, x92_40, x92_41, x92_42, x92_43, x92_46, x92_47, x92_48, x92_51, x92_53, x92_55, x92_58, x92_60, x92_61, x92_62, x92_65, x92_66, x92_68, x92_70, x92_73, x92_76, x92_78, x92_79, x92_80, x92_83, x92_84, x92_86, x92_88, x92_91, x92_93, x92_95, x92_96, x92_99, x92_101, x92_102, x92_103, x92_106, x92_109, x92_112, x92_114, x92_115, x92_117, x92_120, x92_122, Option.toList_some, Option.toList_none, List.cons_append, List.nil_append, cat_i, cat_r, cat_n, cat_f, cs_n, cs_i, cs_r, cs_l, cs_f, Nat.reduceAdd, Nat.reduceLeDiff, Nat.zero_le, if_true, if_false, true_or, or_true, am_wr_at, Nat.reduceEqDiff, not_true_eq_false, not_false_eq_true, i_one, ite_not, bI_z, bI_nz, bI_t, bI_f, bI_or, Bool.false_eq_true, Bool.true_eq_false, reduceCtorEq, lt1, lt2, lt3, lt4, lt5, lt10, lt12, lt16, lt100, lt1000, bt1, bt2, bt3, bt4, bt5, bt10, bt12, bt16, bt100, bt1000, bt6, bt25, bt100000, st1, s97, s20 hk, s21 hk q4, h0, h1, h2, kb, y1, y2, q1, q3, a1f, a3, y6, Bool.and_true, c26, gc, z1, z2, zm]
                    · have st : AM sv 165 [.ref 71, .int (nI b), .int (nI k), .int (σ.1 86 k), .int (nI i), .int (nI m)] (am_toH σ) Q = AW sv 165 65 [.ref 71, .int (nI b), .int (nI k), .int (σ.1 86 k), .int (nI i), .int (nI m), .int 0, .null, .null, .null] [] (am_toH σ) 0 0 Q := by
                        rw [n165]
                        simp only [x165_0, x165_1, x165_4, x165_7, x165_8, x165_11, x165_14, x165_15, x165_18, x165_21, x165_23, x165_24, x165_25, x165_28, x165_31, x165_34, x165_35, x165_37, x165_38, x165_40, x165_43, x165_44, x165_45, x165_46, x165_47, x165_48, x165_50, x165_52, x165_55, x165_57, x165_59, Option.toList_some, Option.toList_none, List.cons_append, List.nil_append, cat_i, cat_r, cat_n, cat_f, cs_n, cs_i, cs_r, cs_l, cs_f, Nat.reduceAdd, Nat.reduceLeDiff, Nat.zero_le, if_true, if_false, true_or, or_true, am_wr_at, Nat.reduceEqDiff, not_true_eq_false, not_false_eq_true, i_one, ite_not, bI_z, bI_nz, bI_t, bI_f, bI_or, Bool.false_eq_true, Bool.true_eq_false, reduceCtorEq, lt1, lt2, lt3, lt4, lt5, lt10, lt12, lt16, lt100, lt1000, bt1, bt2, bt3, bt4, bt5, bt10, bt12, bt16, bt100, bt1000, bt6, bt25, bt100000, s104, s106, s162, s163, s164 hk, h0, h1, h2, y3, y4, y5, a1', a3, m0']
                      rw [st, m1 Q]
                      simp only [x165_134, x165_135, x165_138, x165_140, x165_141, x165_143, x165_146, x165_148, Option.toList_some, Option.toList_none, List.cons_append, List.nil_append, cat_i, cat_r, cat_n, cat_f, cs_n, cs_i, cs_r, cs_l, cs_f, Nat.reduceAdd, Nat.reduceLeDiff, Nat.zero_le, if_true, if_false, true_or, or_true, am_wr_at, Nat.reduceEqDiff, not_true_eq_false, not_false_eq_true, i_one, ite_not, bI_z, bI_nz, bI_t, bI_f, bI_or, Bool.false_eq_true, Bool.true_eq_false, reduceCtorEq, gm, z1, z2]
              · have a3 : fitF (σ.1 87 k) i (nI m) = false := by simpa using a3
                exact ⟨-13, σ, σ, fun Q => by rw [n92]; simp only [x92_0, x92_1, x92_3, x92_6, x92_9, x92_10, x92_11, x92_14, x92_17, x92_18, x92_19, x92_22, x92_25, x92_27, x92_28, x92_31, x92_33, x92_35, x92_36, x92_37, x92_40, x92_41, x92_42, x92_43, x92_46, x92_47, x92_48, x92_51, x92_53, x92_55, x92_58, x92_60, x92_61, x92_62, x92_65, x92_66, x92_68, x92_70, x92_73, x92_76, x92_78, Option.toList_some, Option.toList_none, List.cons_append, List.nil_append, cat_i, cat_r, cat_n, cat_f, cs_n, cs_i, cs_r, cs_l, cs_f, Nat.reduceAdd, Nat.reduceLeDiff, Nat.zero_le, if_true, if_false, true_or, or_true, am_wr_at, Nat.reduceEqDiff, not_true_eq_false, not_false_eq_true, i_one, ite_not, bI_z, bI_nz, bI_t, bI_f, bI_or, Bool.false_eq_true, Bool.true_eq_false, reduceCtorEq, lt1, lt2, lt3, lt4, lt5, lt10, lt12, lt16, lt100, lt1000, bt1, bt2, bt3, bt4, bt5, bt10, bt12, bt16, bt100, bt1000, bt6, bt25, bt100000, s97, s20 hk, s21 hk q4, h0, h1, h2, kb, y1, y2, q1, q3, a1f, a3, y6, Bool.and_false], fun Q => by rw [n165]; simp only [x165_0, x165_1, x165_4, x165_7, x165_8, x165_11, x165_14, x165_15, x165_18, x165_21, x165_23, x165_24, x165_25, x165_28, x165_31, x165_34, x165_35, x165_37, x165_38, x165_40, x165_43, x165_44, x165_45, x165_46, x165_47, x165_48, x165_50, x165_52, x165_55, x165_57, x165_59, x165_62, x165_64, Option.toList_some, Option.toList_none, List.cons_append, List.nil_append, cat_i, cat_r, cat_n, cat_f, cs_n, cs_i, cs_r, cs_l, cs_f, Nat.reduceAdd, Nat.reduceLeDiff, Nat.zero_le, if_true, if_false, true_or, or_true, am_wr_at, Nat.reduceEqDiff, not_true_eq_false, not_false_eq_true, i_one, ite_not, bI_z, bI_nz, bI_t, bI_f, bI_or, Bool.false_eq_true, Bool.true_eq_false, reduceCtorEq, lt1, lt2, lt3, lt4, lt5, lt10, lt12, lt16, lt100, lt1000, bt1, bt2, bt3, bt4, bt5, bt10, bt12, bt16, bt100, bt1000, bt6, bt25, bt100000, s104, s106, s162, s163, s164 hk, h0, h1, h2, y3, y4, y5, a1', a3, m13'], hI⟩
            · exact ⟨-12, σ, σ, fun Q => by rw [n92]; simp only [x92_0, x92_1, x92_3, x92_6, x92_9, x92_10, x92_11, x92_14, x92_17, x92_18, x92_19, x92_22, x92_25, x92_27, x92_28, x92_31, x92_33, x92_35, x92_36, x92_37, x92_40, x92_41, x92_42, x92_43, x92_46, x92_47, x92_48, x92_51, x92_53, x92_55, x92_58, x92_60, Option.toList_some, Option.toList_none, List.cons_append, List.nil_append, cat_i, cat_r, cat_n, cat_f, cs_n, cs_i, cs_r, cs_l, cs_f, Nat.reduceAdd, Nat.reduceLeDiff, Nat.zero_le, if_true, if_false, true_or, or_true, am_wr_at, Nat.reduceEqDiff, not_true_eq_false, not_false_eq_true, i_one, ite_not, bI_z, bI_nz, bI_t, bI_f, bI_or, Bool.false_eq_true, Bool.true_eq_false, reduceCtorEq, lt1, lt2, lt3, lt4, lt5, lt10, lt12, lt16, lt100, lt1000, bt1, bt2, bt3, bt4, bt5, bt10, bt12, bt16, bt100, bt1000, bt6, bt25, bt100000, s97, s20 hk, h0, h1, h2, kb, y1, y2, q1, a1, a2, m12], fun Q => by rw [n165]; simp only [x165_0, x165_1, x165_4, x165_7, x165_8, x165_11, x165_14, x165_15, x165_18, x165_21, x165_23, x165_24, x165_25, x165_28, x165_31, x165_34, x165_35, x165_37, x165_38, x165_40, x165_43, x165_44, x165_45, x165_46, x165_47, x165_48, x165_50, x165_52, x165_55, x165_57, x165_59, x165_62, x165_64, Option.toList_some, Option.toList_none, List.cons_append, List.nil_append, cat_i, cat_r, cat_n, cat_f, cs_n, cs_i, cs_r, cs_l, cs_f, Nat.reduceAdd, Nat.reduceLeDiff, Nat.zero_le, if_true, if_false, true_or, or_true, am_wr_at, Nat.reduceEqDiff, not_true_eq_false, not_false_eq_true, i_one, ite_not, bI_z, bI_nz, bI_t, bI_f, bI_or, Bool.false_eq_true, Bool.true_eq_false, reduceCtorEq, lt1, lt2, lt3, lt4, lt5, lt10, lt12, lt16, lt100, lt1000, bt1, bt2, bt3, bt4, bt5, bt10, bt12, bt16, bt100, bt1000, bt6, bt25, bt100000, s104, s106, s162, s163, s164 hk, h0, h1, h2, y3, y4, y5, a1', a2, m12'], hI⟩
        · refine ⟨-1, σ, σ, fun Q => ?_, fun Q => ?_, hI⟩
          · rw [n92]
            by_cases c1 : n < 1
            · simp only [x92_0, x92_1, x92_3, x92_6, x92_9, x92_10, x92_11, x92_14, x92_17, x92_18, x92_19, x92_22, x92_25, x92_27, x92_28, x92_31, x92_33, x92_35, x92_36, x92_37, x92_40, x92_41, Option.toList_some, Option.toList_none, List.cons_append, List.nil_append, cat_i, cat_r, cat_n, cat_f, cs_n, cs_i, cs_r, cs_l, cs_f, Nat.reduceAdd, Nat.reduceLeDiff, Nat.zero_le, if_true, if_false, true_or, or_true, am_wr_at, Nat.reduceEqDiff, not_true_eq_false, not_false_eq_true, i_one, ite_not, bI_z, bI_nz, bI_t, bI_f, bI_or, Bool.false_eq_true, Bool.true_eq_false, reduceCtorEq, lt1, lt2, lt3, lt4, lt5, lt10, lt12, lt16, lt100, lt1000, bt1, bt2, bt3, bt4, bt5, bt10, bt12, bt16, bt100, bt1000, bt6, bt25, bt100000, s97, h0, h1, h2, c1]
            · have c2 : ¬ n ≤ nI (16 - b) := by
                intro c
                have g1 := Int32.le_iff_toInt_le.mp (Int32.not_lt.mp c1)
                have g2 := Int32.le_iff_toInt_le.mp c
                rw [nI_toInt (by omega)] at g2
                rw [show (1 : Int32).toInt = 1 by decide] at g1
                omega
              simp only [x92_0, x92_1, x92_3, x92_6, x92_9, x92_10, x92_11, x92_14, x92_17, x92_18, x92_19, x92_22, x92_25, x92_27, x92_28, x92_31, x92_33, x92_35, x92_36, x92_37, x92_40, x92_41, Option.toList_some, Option.toList_none, List.cons_append, List.nil_append, cat_i, cat_r, cat_n, cat_f, cs_n, cs_i, cs_r, cs_l, cs_f, Nat.reduceAdd, Nat.reduceLeDiff, Nat.zero_le, if_true, if_false, true_or, or_true, am_wr_at, Nat.reduceEqDiff, not_true_eq_false, not_false_eq_true, i_one, ite_not, bI_z, bI_nz, bI_t, bI_f, bI_or, Bool.false_eq_true, Bool.true_eq_false, reduceCtorEq, lt1, lt2, lt3, lt4, lt5, lt10, lt12, lt16, lt100, lt1000, bt1, bt2, bt3, bt4, bt5, bt10, bt12, bt16, bt100, bt1000, bt6, bt25, bt100000, s97, h0, h1, h2, c1, kb, c2]
          · rw [n165]
            cases c1 : am_bt n.toInt64 1 16 with
            | false => simp only [x165_0, x165_1, x165_4, x165_7, x165_8, x165_11, x165_14, x165_15, x165_18, x165_21, x165_23, x165_24, x165_25, x165_28, x165_31, x165_34, x165_35, x165_37, x165_38, x165_40, x165_43, x165_44, Option.toList_some, Option.toList_none, List.cons_append, List.nil_append, cat_i, cat_r, cat_n, cat_f, cs_n, cs_i, cs_r, cs_l, cs_f, Nat.reduceAdd, Nat.reduceLeDiff, Nat.zero_le, if_true, if_false, true_or, or_true, am_wr_at, Nat.reduceEqDiff, not_true_eq_false, not_false_eq_true, i_one, ite_not, bI_z, bI_nz, bI_t, bI_f, bI_or, Bool.false_eq_true, Bool.true_eq_false, reduceCtorEq, lt1, lt2, lt3, lt4, lt5, lt10, lt12, lt16, lt100, lt1000, bt1, bt2, bt3, bt4, bt5, bt10, bt12, bt16, bt100, bt1000, bt6, bt25, bt100000, s104, s106, s162, s163, h0, h1, h2, c1]
            | true =>
              have g := of_decide_eq_true c1
              rw [Int32.toInt_toInt64, show (1 : Int64).toInt = 1 by decide, show (16 : Int64).toInt = 16 by decide] at g
              obtain ⟨m, hm, rfl⟩ := rg_nI (n := 16) (by decide) (⟨by omega, by omega⟩ : rg n 0 16)
              rw [nI_toInt (by omega)] at g hn
              have y4 : nI b + nI m = nI (b + m) := nI_add _ _
              have y5 : ¬ nI (b + m) ≤ 16 := nI_ge (a := 16) (by omega) (by omega)
              simp only [x165_0, x165_1, x165_4, x165_7, x165_8, x165_11, x165_14, x165_15, x165_18, x165_21, x165_23, x165_24, x165_25, x165_28, x165_31, x165_34, x165_35, x165_37, x165_38, x165_40, x165_43, x165_44, Option.toList_some, Option.toList_none, List.cons_append, List.nil_append, cat_i, cat_r, cat_n, cat_f, cs_n, cs_i, cs_r, cs_l, cs_f, Nat.reduceAdd, Nat.reduceLeDiff, Nat.zero_le, if_true, if_false, true_or, or_true, am_wr_at, Nat.reduceEqDiff, not_true_eq_false, not_false_eq_true, i_one, ite_not, bI_z, bI_nz, bI_t, bI_f, bI_or, Bool.false_eq_true, Bool.true_eq_false, reduceCtorEq, lt1, lt2, lt3, lt4, lt5, lt10, lt12, lt16, lt100, lt1000, bt1, bt2, bt3, bt4, bt5, bt10, bt12, bt16, bt100, bt1000, bt6, bt25, bt100000, s104, s106, s162, s163, h0, h1, h2, c1, y4, y5]
      · have h2 : am_in l 3 = false := by simpa using h2
        exact ⟨-1, σ, σ, fun Q => by rw [n92]; simp only [x92_0, x92_1, x92_3, x92_6, x92_9, x92_10, x92_11, x92_14, x92_17, x92_18, x92_19, x92_22, x92_25, x92_27, x92_28, x92_31, x92_33, x92_35, x92_36, x92_37, x92_40, x92_41, Option.toList_some, Option.toList_none, List.cons_append, List.nil_append, cat_i, cat_r, cat_n, cat_f, cs_n, cs_i, cs_r, cs_l, cs_f, Nat.reduceAdd, Nat.reduceLeDiff, Nat.zero_le, if_true, if_false, true_or, or_true, am_wr_at, Nat.reduceEqDiff, not_true_eq_false, not_false_eq_true, i_one, ite_not, bI_z, bI_nz, bI_t, bI_f, bI_or, Bool.false_eq_true, Bool.true_eq_false, reduceCtorEq, lt1, lt2, lt3, lt4, lt5, lt10, lt12, lt16, lt100, lt1000, bt1, bt2, bt3, bt4, bt5, bt10, bt12, bt16, bt100, bt1000, bt6, bt25, bt100000, s97, h0, h1, h2], fun Q => by rw [n165]; simp only [x165_0, x165_1, x165_4, x165_7, x165_8, x165_11, x165_14, x165_15, x165_18, x165_21, x165_23, x165_24, x165_25, x165_28, x165_31, x165_34, x165_35, x165_37, x165_38, x165_40, x165_43, x165_44, Option.toList_some, Option.toList_none, List.cons_append, List.nil_append, cat_i, cat_r, cat_n, cat_f, cs_n, cs_i, cs_r, cs_l, cs_f, Nat.reduceAdd, Nat.reduceLeDiff, Nat.zero_le, if_true, if_false, true_or, or_true, am_wr_at, Nat.reduceEqDiff, not_true_eq_false, not_false_eq_true, i_one, ite_not, bI_z, bI_nz, bI_t, bI_f, bI_or, Bool.false_eq_true, Bool.true_eq_false, reduceCtorEq, lt1, lt2, lt3, lt4, lt5, lt10, lt12, lt16, lt100, lt1000, bt1, bt2, bt3, bt4, bt5, bt10, bt12, bt16, bt100, bt1000, bt6, bt25, bt100000, s104, s106, s162, s163, h0, h1, h2], hI⟩
    · have h1 : am_in w 4 = false := by simpa using h1
      exact ⟨-1, σ, σ, fun Q => by rw [n92]; simp only [x92_0, x92_1, x92_3, x92_6, x92_9, x92_10, x92_11, x92_14, x92_17, x92_18, x92_19, x92_22, x92_25, x92_27, x92_28, x92_31, x92_33, x92_35, x92_36, x92_37, x92_40, x92_41, Option.toList_some, Option.toList_none, List.cons_append, List.nil_append, cat_i, cat_r, cat_n, cat_f, cs_n, cs_i, cs_r, cs_l, cs_f, Nat.reduceAdd, Nat.reduceLeDiff, Nat.zero_le, if_true, if_false, true_or, or_true, am_wr_at, Nat.reduceEqDiff, not_true_eq_false, not_false_eq_true, i_one, ite_not, bI_z, bI_nz, bI_t, bI_f, bI_or, Bool.false_eq_true, Bool.true_eq_false, reduceCtorEq, lt1, lt2, lt3, lt4, lt5, lt10, lt12, lt16, lt100, lt1000, bt1, bt2, bt3, bt4, bt5, bt10, bt12, bt16, bt100, bt1000, bt6, bt25, bt100000, s97, h0, h1], fun Q => by rw [n165]; simp only [x165_0, x165_1, x165_4, x165_7, x165_8, x165_11, x165_14, x165_15, x165_18, x165_21, x165_23, x165_24, x165_25, x165_28, x165_31, x165_34, x165_35, x165_37, x165_38, x165_40, x165_43, x165_44, Option.toList_some, Option.toList_none, List.cons_append, List.nil_append, cat_i, cat_r, cat_n, cat_f, cs_n, cs_i, cs_r, cs_l, cs_f, Nat.reduceAdd, Nat.reduceLeDiff, Nat.zero_le, if_true, if_false, true_or, or_true, am_wr_at, Nat.reduceEqDiff, not_true_eq_false, not_false_eq_true, i_one, ite_not, bI_z, bI_nz, bI_t, bI_f, bI_or, Bool.false_eq_true, Bool.true_eq_false, reduceCtorEq, lt1, lt2, lt3, lt4, lt5, lt10, lt12, lt16, lt100, lt1000, bt1, bt2, bt3, bt4, bt5, bt10, bt12, bt16, bt100, bt1000, bt6, bt25, bt100000, s104, s106, s162, s163, h0, h1], hI⟩
  · have h0 : am_in b 16 = false := by simpa using h0
    exact ⟨-1, σ, σ, fun Q => by rw [n92]; simp only [x92_0, x92_1, x92_3, x92_6, x92_9, x92_10, x92_11, x92_14, x92_17, x92_18, x92_19, x92_22, x92_25, x92_27, x92_28, x92_31, x92_33, x92_35, x92_36, x92_37, x92_40, x92_41, Option.toList_some, Option.toList_none, List.cons_append, List.nil_append, cat_i, cat_r, cat_n, cat_f, cs_n, cs_i, cs_r, cs_l, cs_f, Nat.reduceAdd, Nat.reduceLeDiff, Nat.zero_le, if_true, if_false, true_or, or_true, am_wr_at, Nat.reduceEqDiff, not_true_eq_false, not_false_eq_true, i_one, ite_not, bI_z, bI_nz, bI_t, bI_f, bI_or, Bool.false_eq_true, Bool.true_eq_false, reduceCtorEq, lt1, lt2, lt3, lt4, lt5, lt10, lt12, lt16, lt100, lt1000, bt1, bt2, bt3, bt4, bt5, bt10, bt12, bt16, bt100, bt1000, bt6, bt25, bt100000, s97, h0], fun Q => by rw [n165]; simp only [x165_0, x165_1, x165_4, x165_7, x165_8, x165_11, x165_14, x165_15, x165_18, x165_21, x165_23, x165_24, x165_25, x165_28, x165_31, x165_34, x165_35, x165_37, x165_38, x165_40, x165_43, x165_44, Option.toList_some, Option.toList_none, List.cons_append, List.nil_append, cat_i, cat_r, cat_n, cat_f, cs_n, cs_i, cs_r, cs_l, cs_f, Nat.reduceAdd, Nat.reduceLeDiff, Nat.zero_le, if_true, if_false, true_or, or_true, am_wr_at, Nat.reduceEqDiff, not_true_eq_false, not_false_eq_true, i_one, ite_not, bI_z, bI_nz, bI_t, bI_f, bI_or, Bool.false_eq_true, Bool.true_eq_false, reduceCtorEq, lt1, lt2, lt3, lt4, lt5, lt10, lt12, lt16, lt100, lt1000, bt1, bt2, bt3, bt4, bt5, bt10, bt12, bt16, bt100, bt1000, bt6, bt25, bt100000, s104, s106, s162, s163, h0], hI⟩
end I72
