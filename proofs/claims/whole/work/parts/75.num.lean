/-! THE READER: digits and numbers -/
theorem d_lo : ∀ x, x < 48 → ∀ lo, lo < 10 → nI x - 48 < nI lo := by decide +kernel
theorem d_m1 : ∀ lo, lo < 10 → (-1 : Int32) - 48 < nI lo := by decide +kernel
theorem d_bt {x lo hi : Nat} (hx : x ≤ 255) (h1 : lo ≤ 9) (h2 : hi ≤ 9) : am_bt (nI x).toInt64 (nI (48 + lo)).toInt64 (nI (48 + hi)).toInt64 = decide (48 + lo ≤ x ∧ x ≤ 48 + hi) := by
  unfold am_bt
  rw [Int32.toInt_toInt64, Int32.toInt_toInt64, Int32.toInt_toInt64, nI_toInt (by omega), nI_toInt (by omega), nI_toInt (by omega)]
  apply decide_eq_decide.mpr
  omega
theorem d_b0 {lo hi : Nat} (h1 : lo ≤ 9) (h2 : hi ≤ 9) : am_bt (0 : Int32).toInt64 (nI (48 + lo)).toInt64 (nI (48 + hi)).toInt64 = false := by
  have := d_bt (x := 0) (lo := lo) (hi := hi) (by omega) h1 h2
  rw [nI_0] at this
  rw [this]
  apply decide_eq_false
  omega
theorem d_48 {x : Nat} (h : 48 ≤ x) : nI x - 48 = nI (x - 48) := oN_sub (b := 48) h
theorem i48a {x : Nat} : 48 + nI x = nI (48 + x) := nI_add 48 x
section I75
variable {sv : am_V} {h : am_H} {σ τ ρ : am_S} {Q : Option Value → am_H → Prop} {a b a1 : Nat} {st st' : Bool} {g : Nat → Nat} {L lo hi : Nat} {x y xl xm xh : Int32}
theorem dg_y (hG : okG g L) (h9 : hi ≤ 9) (hl : lo ≤ hi) (e1 : xl = nI lo) (e2 : xm = nI (hi + 1)) (e3 : xh = nI hi) (hx : NX sv g L a a1) (h1 : a1 < L) (h2 : 48 + lo ≤ g a1 ∧ g a1 ≤ 48 + hi) : (∀ σ Q, TC g L σ → AM sv 50 [.ref 65, .int xl, .int xm] (am_toH (cT σ a false)) Q = Q (some (.int (nI (g a1 - 48)))) (am_toH (cT σ (a1 + 1) false))) ∧ (∀ σ Q, TM g L σ → AM sv 123 [.ref 71, .int xl, .int xh] (am_toH (mT σ a false)) Q = Q (some (.int (nI (g a1 - 48)))) (am_toH (mT σ (a1 + 1) false))) := by
  have hf := NX_fix (sv := sv) hG hx.2.1 hx.2.2.1
  obtain ⟨-, -, -, z4, z5⟩ := hx
  obtain ⟨-, -, -, f4, f5⟩ := hf
  subst e1 e2 e3
  have gl := hG.2 a1 h1
  have y0 := d_48 (x := g a1) (by omega)
  have y1 : ¬ nI (g a1 - 48) < nI lo := nI_nlt (by omega) (by omega)
  have y2 : nI (g a1 - 48) < nI (hi + 1) := nI_lt (by omega) (by omega)
  have y3 := d_bt (x := g a1) (lo := lo) (hi := hi) (by omega) (by omega) h9
  rw [decide_eq_true h2] at y3
  simp only [h1, if_true] at z4 z5 f4 f5
  constructor
  · intro σ Q hT
    have z := fun Q => z4 σ false Q hT
    rw [n50]
    simp only [x50_0, x50_1, x50_4, x50_6, x50_7, x50_8, x50_9, x50_12, x50_15, x50_16, x50_17, x50_20, x50_21, x50_22, x50_25, x50_26, x50_27, x50_30, x50_31, x50_32, x50_33, x50_34, x50_37, x50_38, x50_39, x50_42, x50_43, Option.toList_some, Option.toList_none, List.cons_append, List.nil_append, cat_i, cat_r, cat_n, cat_f, cs_n, cs_i, cs_r, cs_l, cs_f, Nat.reduceAdd, Nat.reduceLeDiff, Nat.zero_le, if_true, if_false, true_or, or_true, am_wr_at, Nat.reduceEqDiff, not_true_eq_false, not_false_eq_true, i_one, ite_not, bI_z, bI_nz, bI_t, bI_f, bI_or, Bool.false_eq_true, Bool.true_eq_false, reduceCtorEq, z, cT_3, y0, y1, y2, cT_2, nI_1, cT_w2]
  · intro σ Q hT
    have z := fun Q => z5 σ false Q hT
    have z' := fun Q => f5 σ false Q hT
    rw [n123]
    simp only [x123_0, x123_1, x123_2, x123_5, x123_8, x123_9, x123_12, x123_13, x123_15, x123_16, x123_17, x123_18, x123_20, x123_21, x123_22, x123_23, x123_26, x123_29, x123_30, x123_33, x123_34, x123_37, x123_38, x123_41, x123_44, x123_45, x123_48, x123_49, x123_52, x123_54, x123_55, x123_56, x123_57, x123_58, x123_61, x123_62, x123_65, x123_68, x123_69, x123_72, x123_73, x123_74, x123_77, x123_78, Option.toList_some, Option.toList_none, List.cons_append, List.nil_append, cat_i, cat_r, cat_n, cat_f, cs_n, cs_i, cs_r, cs_l, cs_f, Nat.reduceAdd, Nat.reduceLeDiff, Nat.zero_le, if_true, if_false, true_or, or_true, am_wr_at, Nat.reduceEqDiff, not_true_eq_false, not_false_eq_true, i_one, ite_not, bI_z, bI_nz, bI_t, bI_f, bI_or, Bool.false_eq_true, Bool.true_eq_false, reduceCtorEq, z, z', mT_12, s104, i48a, y3, y0, mT_w120, mT_11, nI_1, mT_w11, am_zero_t]
theorem dg_n (hG : okG g L) (h9 : hi ≤ 9) (hl : lo ≤ hi) (e1 : xl = nI lo) (e2 : xm = nI (hi + 1)) (e3 : xh = nI hi) (hx : NX sv g L a a1) (hn : ¬ (a1 < L ∧ 48 + lo ≤ g a1 ∧ g a1 ≤ 48 + hi)) : (∀ σ Q, TC g L σ → AM sv 50 [.ref 65, .int xl, .int xm] (am_toH (cT σ a false)) Q = Q (some (.int 0)) (am_toH (cT σ a1 true))) ∧ (∀ σ Q, TM g L σ → AM sv 123 [.ref 71, .int xl, .int xh] (am_toH (mT σ a false)) Q = Q (some (.int 0)) (am_toH (mT σ a1 true))) := by
  obtain ⟨-, z2, -, z4, z5⟩ := hx
  subst e1 e2 e3
  have hL := hG.1
  constructor
  · intro σ Q hT
    have z := fun Q => z4 σ false Q hT
    rw [n50]
    by_cases h1 : a1 < L
    · have gl := hG.2 a1 h1
      simp only [h1, if_true] at z
      by_cases q1 : g a1 < 48
      · have y := d_lo (g a1) q1 lo (by omega)
        simp only [x50_0, x50_1, x50_4, x50_6, x50_7, x50_8, x50_9, x50_12, x50_15, x50_16, x50_17, x50_20, x50_21, x50_22, x50_25, x50_26, x50_27, x50_30, x50_31, x50_32, x50_33, x50_34, x50_37, x50_38, x50_39, x50_42, x50_43, Option.toList_some, Option.toList_none, List.cons_append, List.nil_append, cat_i, cat_r, cat_n, cat_f, cs_n, cs_i, cs_r, cs_l, cs_f, Nat.reduceAdd, Nat.reduceLeDiff, Nat.zero_le, if_true, if_false, true_or, or_true, am_wr_at, Nat.reduceEqDiff, not_true_eq_false, not_false_eq_true, i_one, ite_not, bI_z, bI_nz, bI_t, bI_f, bI_or, Bool.false_eq_true, Bool.true_eq_false, reduceCtorEq, z, cT_3, y, cT_w31, am_one_t]
      · have y0 := d_48 (x := g a1) (by omega)
        by_cases q2 : g a1 < 48 + lo
        · have y : nI (g a1 - 48) < nI lo := nI_lt (by omega) (by omega)
          simp only [x50_0, x50_1, x50_4, x50_6, x50_7, x50_8, x50_9, x50_12, x50_15, x50_16, x50_17, x50_20, x50_21, x50_22, x50_25, x50_26, x50_27, x50_30, x50_31, x50_32, x50_33, x50_34, x50_37, x50_38, x50_39, x50_42, x50_43, Option.toList_some, Option.toList_none, List.cons_append, List.nil_append, cat_i, cat_r, cat_n, cat_f, cs_n, cs_i, cs_r, cs_l, cs_f, Nat.reduceAdd, Nat.reduceLeDiff, Nat.zero_le, if_true, if_false, true_or, or_true, am_wr_at, Nat.reduceEqDiff, not_true_eq_false, not_false_eq_true, i_one, ite_not, bI_z, bI_nz, bI_t, bI_f, bI_or, Bool.false_eq_true, Bool.true_eq_false, reduceCtorEq, z, cT_3, y0, y, cT_w31, am_one_t]
        · have y1 : ¬ nI (g a1 - 48) < nI lo := nI_nlt (by omega) (by omega)
          have y2 : ¬ nI (g a1 - 48) < nI (hi + 1) := nI_nlt (by omega) (by omega)
          simp only [x50_0, x50_1, x50_4, x50_6, x50_7, x50_8, x50_9, x50_12, x50_15, x50_16, x50_17, x50_20, x50_21, x50_22, x50_25, x50_26, x50_27, x50_30, x50_31, x50_32, x50_33, x50_34, x50_37, x50_38, x50_39, x50_42, x50_43, Option.toList_some, Option.toList_none, List.cons_append, List.nil_append, cat_i, cat_r, cat_n, cat_f, cs_n, cs_i, cs_r, cs_l, cs_f, Nat.reduceAdd, Nat.reduceLeDiff, Nat.zero_le, if_true, if_false, true_or, or_true, am_wr_at, Nat.reduceEqDiff, not_true_eq_false, not_false_eq_true, i_one, ite_not, bI_z, bI_nz, bI_t, bI_f, bI_or, Bool.false_eq_true, Bool.true_eq_false, reduceCtorEq, z, cT_3, y0, y1, y2, cT_w31, am_one_t]
    · simp only [h1, if_false] at z
      have y := d_m1 lo (by omega)
      simp only [x50_0, x50_1, x50_4, x50_6, x50_7, x50_8, x50_9, x50_12, x50_15, x50_16, x50_17, x50_20, x50_21, x50_22, x50_25, x50_26, x50_27, x50_30, x50_31, x50_32, x50_33, x50_34, x50_37, x50_38, x50_39, x50_42, x50_43, Option.toList_some, Option.toList_none, List.cons_append, List.nil_append, cat_i, cat_r, cat_n, cat_f, cs_n, cs_i, cs_r, cs_l, cs_f, Nat.reduceAdd, Nat.reduceLeDiff, Nat.zero_le, if_true, if_false, true_or, or_true, am_wr_at, Nat.reduceEqDiff, not_true_eq_false, not_false_eq_true, i_one, ite_not, bI_z, bI_nz, bI_t, bI_f, bI_or, Bool.false_eq_true, Bool.true_eq_false, reduceCtorEq, z, cT_3, y, cT_w31, am_one_t]
  · intro σ Q hT
    have z := fun Q => z5 σ false Q hT
    rw [n123]
    by_cases h1 : a1 < L
    · have gl := hG.2 a1 h1
      have y3 := d_bt (x := g a1) (lo := lo) (hi := hi) (by omega) (by omega) h9
      rw [decide_eq_false (fun c => hn ⟨h1, c⟩)] at y3
      simp only [h1, if_true] at z
      simp only [x123_0, x123_1, x123_2, x123_5, x123_8, x123_9, x123_12, x123_13, x123_15, x123_16, x123_17, x123_18, x123_20, x123_21, x123_22, x123_23, x123_26, x123_29, x123_30, x123_33, x123_34, x123_37, x123_38, x123_41, x123_44, x123_45, x123_48, x123_49, x123_52, x123_54, x123_55, x123_56, x123_57, x123_58, x123_61, x123_62, x123_65, x123_68, x123_69, x123_72, x123_73, x123_74, x123_77, x123_78, Option.toList_some, Option.toList_none, List.cons_append, List.nil_append, cat_i, cat_r, cat_n, cat_f, cs_n, cs_i, cs_r, cs_l, cs_f, Nat.reduceAdd, Nat.reduceLeDiff, Nat.zero_le, if_true, if_false, true_or, or_true, am_wr_at, Nat.reduceEqDiff, not_true_eq_false, not_false_eq_true, i_one, ite_not, bI_z, bI_nz, bI_t, bI_f, bI_or, Bool.false_eq_true, Bool.true_eq_false, reduceCtorEq, z, mT_12, s104, i48a, y3, mT_w121, mT_11, Int32.add_zero, mT_w11, am_one_t]
    · have y3 := d_b0 (lo := lo) (hi := hi) (by omega) h9
      simp only [h1, if_false] at z
      simp only [x123_0, x123_1, x123_2, x123_5, x123_8, x123_9, x123_12, x123_13, x123_15, x123_16, x123_17, x123_18, x123_20, x123_21, x123_22, x123_23, x123_26, x123_29, x123_30, x123_33, x123_34, x123_37, x123_38, x123_41, x123_44, x123_45, x123_48, x123_49, x123_52, x123_54, x123_55, x123_56, x123_57, x123_58, x123_61, x123_62, x123_65, x123_68, x123_69, x123_72, x123_73, x123_74, x123_77, x123_78, Option.toList_some, Option.toList_none, List.cons_append, List.nil_append, cat_i, cat_r, cat_n, cat_f, cs_n, cs_i, cs_r, cs_l, cs_f, Nat.reduceAdd, Nat.reduceLeDiff, Nat.zero_le, if_true, if_false, true_or, or_true, am_wr_at, Nat.reduceEqDiff, not_true_eq_false, not_false_eq_true, i_one, ite_not, bI_z, bI_nz, bI_t, bI_f, bI_or, Bool.false_eq_true, Bool.true_eq_false, reduceCtorEq, z, mT_12, s104, i48a, y3, mT_w121, mT_11, Int32.add_zero, mT_w11, am_one_t]
theorem dg_st (hG : okG g L) (ha : a ≤ L) (hb : a = L ∨ ¬ g a = 32) : (∀ σ Q, TC g L σ → AM sv 50 [.ref 65, .int xl, .int xm] (am_toH (cT σ a true)) Q = Q (some (.int 0)) (am_toH (cT σ a true))) ∧ (∀ σ Q, TM g L σ → AM sv 123 [.ref 71, .int xl, .int xh] (am_toH (mT σ a true)) Q = Q (some (.int 0)) (am_toH (mT σ a true))) := by
  obtain ⟨-, -, -, f4, f5⟩ := NX_fix (sv := sv) hG ha hb
  constructor
  · intro σ Q hT
    have z := fun Q => f4 σ true Q hT
    rw [n50]
    simp only [x50_0, x50_1, x50_4, x50_6, x50_7, x50_8, x50_9, x50_12, x50_15, x50_16, x50_17, x50_20, x50_21, x50_22, x50_25, x50_26, x50_27, x50_30, x50_31, x50_32, x50_33, x50_34, x50_37, x50_38, x50_39, x50_42, x50_43, Option.toList_some, Option.toList_none, List.cons_append, List.nil_append, cat_i, cat_r, cat_n, cat_f, cs_n, cs_i, cs_r, cs_l, cs_f, Nat.reduceAdd, Nat.reduceLeDiff, Nat.zero_le, if_true, if_false, true_or, or_true, am_wr_at, Nat.reduceEqDiff, not_true_eq_false, not_false_eq_true, i_one, ite_not, bI_z, bI_nz, bI_t, bI_f, bI_or, Bool.false_eq_true, Bool.true_eq_false, reduceCtorEq, z, cT_3, cT_w31, am_one_t]
  · intro σ Q hT
    rw [n123]
    simp only [x123_0, x123_1, x123_2, x123_5, x123_8, x123_9, x123_12, x123_13, x123_15, x123_16, x123_17, x123_18, x123_20, x123_21, x123_22, x123_23, x123_26, x123_29, x123_30, x123_33, x123_34, x123_37, x123_38, x123_41, x123_44, x123_45, x123_48, x123_49, x123_52, x123_54, x123_55, x123_56, x123_57, x123_58, x123_61, x123_62, x123_65, x123_68, x123_69, x123_72, x123_73, x123_74, x123_77, x123_78, Option.toList_some, Option.toList_none, List.cons_append, List.nil_append, cat_i, cat_r, cat_n, cat_f, cs_n, cs_i, cs_r, cs_l, cs_f, Nat.reduceAdd, Nat.reduceLeDiff, Nat.zero_le, if_true, if_false, true_or, or_true, am_wr_at, Nat.reduceEqDiff, not_true_eq_false, not_false_eq_true, i_one, ite_not, bI_z, bI_nz, bI_t, bI_f, bI_or, Bool.false_eq_true, Bool.true_eq_false, reduceCtorEq, mT_12, mT_w121, mT_11, Int32.add_zero, mT_w11, am_one_t]
/-- a digit, in all cases -/
theorem jD (hG : okG g L) (lo hi : Nat) (h9 : hi ≤ 9) (hl : lo ≤ hi) (e1 : xl = nI lo) (e2 : xm = nI (hi + 1)) (e3 : xh = nI hi) (ha : a ≤ L) : ∃ (v a' : Nat) (st' : Bool), a' ≤ L ∧ (st' = false → lo ≤ v ∧ v ≤ hi) ∧ (st' = true → v = 0 ∧ (a' = L ∨ ¬ g a' = 32)) ∧ (∀ σ Q, TC g L σ → AM sv 50 [.ref 65, .int xl, .int xm] (am_toH (cT σ a false)) Q = Q (some (.int (nI v))) (am_toH (cT σ a' st'))) ∧ (∀ σ Q, TM g L σ → AM sv 123 [.ref 71, .int xl, .int xh] (am_toH (mT σ a false)) Q = Q (some (.int (nI v))) (am_toH (mT σ a' st'))) := by
  obtain ⟨a1, hx⟩ := nxt (sv := sv) hG ha
  have z2 := hx.2.1
  by_cases q : a1 < L ∧ 48 + lo ≤ g a1 ∧ g a1 ≤ 48 + hi
  · have z := dg_y hG h9 hl e1 e2 e3 hx q.1 q.2
    exact ⟨g a1 - 48, a1 + 1, false, by omega, fun _ => by omega, fun c => (by cases c), z.1, z.2⟩
  · have z := dg_n hG h9 hl e1 e2 e3 hx q
    exact ⟨0, a1, true, z2, fun c => (by cases c), fun _ => ⟨rfl, hx.2.2.1⟩, z.1, z.2⟩
/-- a place and a size -/
theorem jB (hG : okG g L) (ha : a ≤ L) : ∃ (v a' : Nat) (st' : Bool), a' ≤ L ∧ (st' = false → deed (nI v)) ∧ (∀ σ Q, TC g L σ → AM sv 47 [.ref 65] (am_toH (cT σ a false)) Q = Q (some (.int (nI v))) (am_toH (cT σ a' st'))) ∧ (∀ σ Q, TM g L σ → AM sv 124 [.ref 71] (am_toH (mT σ a false)) Q = Q (some (.int (nI v))) (am_toH (mT σ a' st'))) := by
  obtain ⟨v, a1, s1, l1, r1, r2, c1, m1⟩ := jD (sv := sv) (xl := 0) (xm := 4) (xh := 3) hG 0 3 (by decide) (by decide) rfl rfl rfl ha
  have i10 : ∀ z w : Nat, 10 * nI z + nI w = nI (10 * z + w) := fun z w => by
    show nI 10 * nI z + nI w = _
    rw [oN_mul, nI_add]
  cases s1 with
  | true =>
    obtain ⟨rv, rb⟩ := r2 rfl
    subst rv
    have z := dg_st (sv := sv) (xl := 1) (xm := 10) (xh := 9) hG l1 rb
    refine ⟨0, a1, true, l1, fun c => (by cases c), fun σ Q hT => ?_, fun σ Q hT => ?_⟩
    · have d1 := fun Q => c1 σ Q hT
      have d2 := fun Q => z.1 σ Q hT
      have e0 : 10 * nI 0 + 0 = nI 0 := by decide
      rw [n47]
      simp only [x47_0, x47_1, x47_2, x47_3, x47_6, x47_7, x47_9, x47_10, x47_11, x47_12, x47_13, x47_15, x47_18, x47_19, Option.toList_some, Option.toList_none, List.cons_append, List.nil_append, cat_i, cat_r, cat_n, cat_f, cs_n, cs_i, cs_r, cs_l, cs_f, Nat.reduceAdd, Nat.reduceLeDiff, Nat.zero_le, if_true, if_false, true_or, or_true, am_wr_at, Nat.reduceEqDiff, not_true_eq_false, not_false_eq_true, i_one, ite_not, bI_z, bI_nz, bI_t, bI_f, bI_or, Bool.false_eq_true, Bool.true_eq_false, reduceCtorEq, d1, d2, e0]
    · have d1 := fun Q => m1 σ Q hT
      have d2 := fun Q => z.2 σ Q hT
      have e0 : 10 * nI 0 + 0 = nI 0 := by decide
      rw [n124]
      simp only [x124_0, x124_1, x124_2, x124_3, x124_6, x124_7, x124_9, x124_10, x124_11, x124_12, x124_13, x124_15, x124_18, x124_19, Option.toList_some, Option.toList_none, List.cons_append, List.nil_append, cat_i, cat_r, cat_n, cat_f, cs_n, cs_i, cs_r, cs_l, cs_f, Nat.reduceAdd, Nat.reduceLeDiff, Nat.zero_le, if_true, if_false, true_or, or_true, am_wr_at, Nat.reduceEqDiff, not_true_eq_false, not_false_eq_true, i_one, ite_not, bI_z, bI_nz, bI_t, bI_f, bI_or, Bool.false_eq_true, Bool.true_eq_false, reduceCtorEq, d1, d2, e0]
  | false =>
    obtain ⟨w, a2, s2, l2, q1, q2, c2, m2⟩ := jD (sv := sv) (xl := 1) (xm := 10) (xh := 9) hG 1 9 (by decide) (by decide) rfl rfl rfl l1
    refine ⟨10 * v + w, a2, s2, l2, fun c => Or.inr ⟨v, w, by have := r1 rfl; omega, (q1 c).1, (q1 c).2, rfl⟩, fun σ Q hT => ?_, fun σ Q hT => ?_⟩
    · have d1 := fun Q => c1 σ Q hT
      have d2 := fun Q => c2 σ Q hT
      rw [n47]
      simp only [x47_0, x47_1, x47_2, x47_3, x47_6, x47_7, x47_9, x47_10, x47_11, x47_12, x47_13, x47_15, x47_18, x47_19, Option.toList_some, Option.toList_none, List.cons_append, List.nil_append, cat_i, cat_r, cat_n, cat_f, cs_n, cs_i, cs_r, cs_l, cs_f, Nat.reduceAdd, Nat.reduceLeDiff, Nat.zero_le, if_true, if_false, true_or, or_true, am_wr_at, Nat.reduceEqDiff, not_true_eq_false, not_false_eq_true, i_one, ite_not, bI_z, bI_nz, bI_t, bI_f, bI_or, Bool.false_eq_true, Bool.true_eq_false, reduceCtorEq, d1, d2, i10]
    · have d1 := fun Q => m1 σ Q hT
      have d2 := fun Q => m2 σ Q hT
      rw [n124]
      simp only [x124_0, x124_1, x124_2, x124_3, x124_6, x124_7, x124_9, x124_10, x124_11, x124_12, x124_13, x124_15, x124_18, x124_19, Option.toList_some, Option.toList_none, List.cons_append, List.nil_append, cat_i, cat_r, cat_n, cat_f, cs_n, cs_i, cs_r, cs_l, cs_f, Nat.reduceAdd, Nat.reduceLeDiff, Nat.zero_le, if_true, if_false, true_or, or_true, am_wr_at, Nat.reduceEqDiff, not_true_eq_false, not_false_eq_true, i_one, ite_not, bI_z, bI_nz, bI_t, bI_f, bI_or, Bool.false_eq_true, Bool.true_eq_false, reduceCtorEq, d1, d2, i10]
/-! a number: the loop -/
def nuI (lim c r : Nat) : Prop := (c = r ∧ r < lim) ∨ (c = lim ∧ lim ≤ r ∧ r ≤ 9999)
theorem jL (hG : okG g L) {lim : Nat} (h16 : lim ≤ 16) {f y : Int32} : ∀ n a c r, a ≤ L → L - a ≤ n → nuI lim c r → ∃ a' c' r', a' ≤ L ∧ nuI lim c' r' ∧ (∀ σ Q, TC g L σ → AW sv 51 18 [.ref 65, .int (nI lim), .int f, .int (nI c)] [] (am_toH (cT σ a false)) 0 0 Q = AW sv 51 99 [.ref 65, .int (nI lim), .int f, .int (nI c')] [] (am_toH (cT σ a' false)) 0 0 Q) ∧ (∀ σ Q, TM g L σ → AW sv 122 38 [.ref 71, .int y, .int f, .int (nI r)] [] (am_toH (mT σ a false)) 0 0 Q = AW sv 122 113 [.ref 71, .int y, .int f, .int (nI r')] [] (am_toH (mT σ a' false)) 0 0 Q) := by
  intro n
  induction n with
  | zero =>
    intro a c r ha hn hi
    have e : a = L := by omega
    subst e
    have hL := hG.1
    have e1 : nI a ≤ nI a := nI_le (by omega) (by omega)
    refine ⟨a, c, r, ha, hi, fun σ Q hT => ?_, fun σ Q hT => ?_⟩
    · rw [x51_18]
      simp only [x51_19, x51_22, x51_25, x51_26, x51_29, x51_30, x51_33, Option.toList_some, Option.toList_none, List.cons_append, List.nil_append, cat_i, cat_r, cat_n, cat_f, cs_n, cs_i, cs_r, cs_l, cs_f, Nat.reduceAdd, Nat.reduceLeDiff, Nat.zero_le, if_true, if_false, true_or, or_true, am_wr_at, Nat.reduceEqDiff, not_true_eq_false, not_false_eq_true, i_one, ite_not, bI_z, bI_nz, bI_t, bI_f, bI_or, Bool.false_eq_true, Bool.true_eq_false, reduceCtorEq, cT_1, cT_2, cT_3, hT.1, e1]
    · rw [x122_38]
      simp only [x122_39, x122_42, x122_43, x122_46, Option.toList_some, Option.toList_none, List.cons_append, List.nil_append, cat_i, cat_r, cat_n, cat_f, cs_n, cs_i, cs_r, cs_l, cs_f, Nat.reduceAdd, Nat.reduceLeDiff, Nat.zero_le, if_true, if_false, true_or, or_true, am_wr_at, Nat.reduceEqDiff, not_true_eq_false, not_false_eq_true, i_one, ite_not, bI_z, bI_nz, bI_t, bI_f, bI_or, Bool.false_eq_true, Bool.true_eq_false, reduceCtorEq, mT_10, mT_11, hT.1, e1]
  | succ n ih =>
    intro a c r ha hn hi
    have hL := hG.1
    by_cases q : a < L
    · have gl := hG.2 a q
      have e1 : ¬ nI L ≤ nI a := nI_ge q (by omega)
      have e2 : am_in (nI a) 100 = true := nI_in' (by omega) (by omega)
      have e3 : (nI a).toNatClampNeg = a := nI_clamp (by omega)
      have yb := d_bt (x := g a) (lo := 0) (hi := 9) (by omega) (by decide) (by decide)
      have e48 : (nI (48 + 0)).toInt64 = 48 := by decide
      have e57 : (nI (48 + 9)).toInt64 = 57 := by decide
      rw [e48, e57] at yb
      by_cases q1 : 48 ≤ g a ∧ g a ≤ 57
      · have y1 : ¬ nI (g a) < 48 := nI_nlt (b := 48) (by omega) (by omega)
        have y2 : ¬ 57 < nI (g a) := nI_nlt (a := 57) (by omega) (by omega)
        rw [decide_eq_true (by omega)] at yb
        have hc : c ≤ lim := by unfold nuI at hi; omega
        have hr : r ≤ 9999 := by unfold nuI at hi; omega
        have ec : 10 * nI c + nI (g a) - 48 = nI (10 * c + (g a - 48)) := by
          show nI 10 * nI c + nI (g a) - nI 48 = _
          rw [oN_mul, nI_add, oN_sub (by omega)]
          congr 1
          omega
        have er : 10 * nI r + nI (g a) - 48 = nI (10 * r + (g a - 48)) := by
          show nI 10 * nI r + nI (g a) - nI 48 = _
          rw [oN_mul, nI_add, oN_sub (by omega)]
          congr 1
          omega
        have hi' : nuI lim (min lim (10 * c + (g a - 48))) (if r ≤ 999 then 10 * r + (g a - 48) else r) := by
          unfold nuI at hi ⊢
          split <;> omega
        obtain ⟨a', c', r', z1, z2, z3, z4⟩ := ih (a + 1) _ _ (by omega) (by omega) hi'
        refine ⟨a', c', r', z1, z2, fun σ Q hT => ?_, fun σ Q hT => ?_⟩
        · have h2 := hT.2 a q
          rw [← z3 σ Q hT, x51_18]
          by_cases q3 : 10 * c + (g a - 48) < lim
          · have y3 : (nI (10 * c + (g a - 48)) < nI lim) = True := eq_true (nI_lt q3 (by omega))
            have y4 : min lim (10 * c + (g a - 48)) = 10 * c + (g a - 48) := by omega
            simp only [x51_19, x51_22, x51_25, x51_26, x51_29, x51_30, x51_33, x51_36, x51_37, x51_40, x51_41, x51_44, x51_45, x51_47, x51_50, x51_51, x51_54, x51_55, x51_58, x51_59, x51_61, x51_64, x51_65, x51_67, x51_68, x51_69, x51_70, x51_73, x51_74, x51_77, x51_78, x51_79, x51_81, x51_82, x51_85, x51_86, x51_87, x51_88, x51_91, x51_92, x51_93, x51_96, Option.toList_some, Option.toList_none, List.cons_append, List.nil_append, cat_i, cat_r, cat_n, cat_f, cs_n, cs_i, cs_r, cs_l, cs_f, Nat.reduceAdd, Nat.reduceLeDiff, Nat.zero_le, if_true, if_false, true_or, or_true, am_wr_at, Nat.reduceEqDiff, not_true_eq_false, not_false_eq_true, i_one, ite_not, bI_z, bI_nz, bI_t, bI_f, bI_or, Bool.false_eq_true, Bool.true_eq_false, reduceCtorEq, lc66, cT_1, cT_2, cT_3, cT_66, hT.1, h2, e1, e2, e3, y1, y2, ec, y3, y4, nI_1, cT_w2]
          · have y3 : (nI (10 * c + (g a - 48)) < nI lim) = False := eq_false (nI_nlt (by omega) (by omega))
            have y4 : min lim (10 * c + (g a - 48)) = lim := by omega
            simp only [x51_19, x51_22, x51_25, x51_26, x51_29, x51_30, x51_33, x51_36, x51_37, x51_40, x51_41, x51_44, x51_45, x51_47, x51_50, x51_51, x51_54, x51_55, x51_58, x51_59, x51_61, x51_64, x51_65, x51_67, x51_68, x51_69, x51_70, x51_73, x51_74, x51_77, x51_78, x51_79, x51_81, x51_82, x51_85, x51_86, x51_87, x51_88, x51_91, x51_92, x51_93, x51_96, Option.toList_some, Option.toList_none, List.cons_append, List.nil_append, cat_i, cat_r, cat_n, cat_f, cs_n, cs_i, cs_r, cs_l, cs_f, Nat.reduceAdd, Nat.reduceLeDiff, Nat.zero_le, if_true, if_false, true_or, or_true, am_wr_at, Nat.reduceEqDiff, not_true_eq_false, not_false_eq_true, i_one, ite_not, bI_z, bI_nz, bI_t, bI_f, bI_or, Bool.false_eq_true, Bool.true_eq_false, reduceCtorEq, lc66, cT_1, cT_2, cT_3, cT_66, hT.1, h2, e1, e2, e3, y1, y2, ec, y3, y4, nI_1, cT_w2]
        · have h2 := hT.2 a q
          rw [← z4 σ Q hT, x122_38]
          by_cases q3 : r ≤ 999
          · have y3 : (nI r ≤ 999) = True := eq_true (nI_le (b := 999) q3 (by decide))
            have y4 : (r ≤ 999) = True := eq_true q3
            simp only [x122_39, x122_42, x122_43, x122_46, x122_49, x122_50, x122_53, x122_54, x122_57, x122_58, x122_59, x122_62, x122_65, x122_68, x122_71, x122_72, x122_75, x122_78, x122_79, x122_82, x122_84, x122_85, x122_86, x122_87, x122_90, x122_91, x122_94, x122_95, x122_96, x122_98, x122_99, x122_100, x122_101, x122_102, x122_105, x122_106, x122_107, x122_110, Option.toList_some, Option.toList_none, List.cons_append, List.nil_append, cat_i, cat_r, cat_n, cat_f, cs_n, cs_i, cs_r, cs_l, cs_f, Nat.reduceAdd, Nat.reduceLeDiff, Nat.zero_le, if_true, if_false, true_or, or_true, am_wr_at, Nat.reduceEqDiff, not_true_eq_false, not_false_eq_true, i_one, ite_not, bI_z, bI_nz, bI_t, bI_f, bI_or, Bool.false_eq_true, Bool.true_eq_false, reduceCtorEq, lc79, mT_10, mT_11, mT_79, hT.1, h2, e1, e2, e3, s104, yb, er, y3, y4, nI_1, mT_w11]
          · have y3 : (nI r ≤ 999) = False := eq_false (nI_ge (a := 999) (by omega) (by omega))
            have y4 : (r ≤ 999) = False := eq_false q3
            simp only [x122_39, x122_42, x122_43, x122_46, x122_49, x122_50, x122_53, x122_54, x122_57, x122_58, x122_59, x122_62, x122_65, x122_68, x122_71, x122_72, x122_75, x122_78, x122_79, x122_82, x122_84, x122_85, x122_86, x122_87, x122_90, x122_91, x122_94, x122_95, x122_96, x122_98, x122_99, x122_100, x122_101, x122_102, x122_105, x122_106, x122_107, x122_110, Option.toList_some, Option.toList_none, List.cons_append, List.nil_append, cat_i, cat_r, cat_n, cat_f, cs_n, cs_i, cs_r, cs_l, cs_f, Nat.reduceAdd, Nat.reduceLeDiff, Nat.zero_le, if_true, if_false, true_or, or_true, am_wr_at, Nat.reduceEqDiff, not_true_eq_false, not_false_eq_true, i_one, ite_not, bI_z, bI_nz, bI_t, bI_f, bI_or, Bool.false_eq_true, Bool.true_eq_false, reduceCtorEq, lc79, mT_10, mT_11, mT_79, hT.1, h2, e1, e2, e3, s104, yb, er, y3, y4, nI_1, mT_w11]
      · rw [decide_eq_false (by omega)] at yb
        refine ⟨a, c, r, ha, hi, fun σ Q hT => ?_, fun σ Q hT => ?_⟩
        · have h2 := hT.2 a q
          rw [x51_18]
          by_cases q3 : g a < 48
          · have y1 : nI (g a) < 48 := nI_lt (b := 48) q3 (by decide)
            simp only [x51_19, x51_22, x51_25, x51_26, x51_29, x51_30, x51_33, x51_36, x51_37, x51_40, x51_41, x51_44, x51_45, x51_47, x51_50, x51_51, x51_54, x51_55, x51_58, x51_59, x51_61, Option.toList_some, Option.toList_none, List.cons_append, List.nil_append, cat_i, cat_r, cat_n, cat_f, cs_n, cs_i, cs_r, cs_l, cs_f, Nat.reduceAdd, Nat.reduceLeDiff, Nat.zero_le, if_true, if_false, true_or, or_true, am_wr_at, Nat.reduceEqDiff, not_true_eq_false, not_false_eq_true, i_one, ite_not, bI_z, bI_nz, bI_t, bI_f, bI_or, Bool.false_eq_true, Bool.true_eq_false, reduceCtorEq, lc66, cT_1, cT_2, cT_3, cT_66, hT.1, h2, e1, e2, e3, y1]
          · have y1 : ¬ nI (g a) < 48 := nI_nlt (b := 48) (by omega) (by omega)
            have y2 : 57 < nI (g a) := nI_lt (a := 57) (by omega) (by omega)
            simp only [x51_19, x51_22, x51_25, x51_26, x51_29, x51_30, x51_33, x51_36, x51_37, x51_40, x51_41, x51_44, x51_45, x51_47, x51_50, x51_51, x51_54, x51_55, x51_58, x51_59, x51_61, Option.toList_some, Option.toList_none, List.cons_append, List.nil_append, cat_i, cat_r, cat_n, cat_f, cs_n, cs_i, cs_r, cs_l, cs_f, Nat.reduceAdd, Nat.reduceLeDiff, Nat.zero_le, if_true, if_false, true_or, or_true, am_wr_at, Nat.reduceEqDiff, not_true_eq_false, not_false_eq_true, i_one, ite_not, bI_z, bI_nz, bI_t, bI_f, bI_or, Bool.false_eq_true, Bool.true_eq_false, reduceCtorEq, lc66, cT_1, cT_2, cT_3, cT_66, hT.1, h2, e1, e2, e3, y1, y2]
        · have h2 := hT.2 a q
          rw [x122_38]
          simp only [x122_39, x122_42, x122_43, x122_46, x122_49, x122_50, x122_53, x122_54, x122_57, x122_58, x122_59, x122_62, x122_65, x122_68, Option.toList_some, Option.toList_none, List.cons_append, List.nil_append, cat_i, cat_r, cat_n, cat_f, cs_n, cs_i, cs_r, cs_l, cs_f, Nat.reduceAdd, Nat.reduceLeDiff, Nat.zero_le, if_true, if_false, true_or, or_true, am_wr_at, Nat.reduceEqDiff, not_true_eq_false, not_false_eq_true, i_one, ite_not, bI_z, bI_nz, bI_t, bI_f, bI_or, Bool.false_eq_true, Bool.true_eq_false, reduceCtorEq, lc79, mT_10, mT_11, mT_79, hT.1, h2, e1, e2, e3, s104, yb]
    · have e : a = L := by omega
      subst e
      have e1 : nI a ≤ nI a := nI_le (by omega) (by omega)
      refine ⟨a, c, r, ha, hi, fun σ Q hT => ?_, fun σ Q hT => ?_⟩
      · rw [x51_18]
        simp only [x51_19, x51_22, x51_25, x51_26, x51_29, x51_30, x51_33, Option.toList_some, Option.toList_none, List.cons_append, List.nil_append, cat_i, cat_r, cat_n, cat_f, cs_n, cs_i, cs_r, cs_l, cs_f, Nat.reduceAdd, Nat.reduceLeDiff, Nat.zero_le, if_true, if_false, true_or, or_true, am_wr_at, Nat.reduceEqDiff, not_true_eq_false, not_false_eq_true, i_one, ite_not, bI_z, bI_nz, bI_t, bI_f, bI_or, Bool.false_eq_true, Bool.true_eq_false, reduceCtorEq, cT_1, cT_2, cT_3, hT.1, e1]
      · rw [x122_38]
        simp only [x122_39, x122_42, x122_43, x122_46, Option.toList_some, Option.toList_none, List.cons_append, List.nil_append, cat_i, cat_r, cat_n, cat_f, cs_n, cs_i, cs_r, cs_l, cs_f, Nat.reduceAdd, Nat.reduceLeDiff, Nat.zero_le, if_true, if_false, true_or, or_true, am_wr_at, Nat.reduceEqDiff, not_true_eq_false, not_false_eq_true, i_one, ite_not, bI_z, bI_nz, bI_t, bI_f, bI_or, Bool.false_eq_true, Bool.true_eq_false, reduceCtorEq, mT_10, mT_11, hT.1, e1]
/-- a number -/
theorem jN (hG : okG g L) {lim : Nat} (h16 : lim ≤ 16) (h10 : 10 ≤ lim) (ha : a ≤ L) : ∃ (v v' a' : Nat) (st' : Bool), a' ≤ L ∧ (st' = false → v = v' ∧ v < lim) ∧ (∀ σ Q, TC g L σ → AM sv 51 [.ref 65, .int (nI lim)] (am_toH (cT σ a false)) Q = Q (some (.int (nI v))) (am_toH (cT σ a' st'))) ∧ (∀ σ Q, TM g L σ → AM sv 122 [.ref 71, .int (nI (lim - 1))] (am_toH (mT σ a false)) Q = Q (some (.int (nI v'))) (am_toH (mT σ a' st'))) := by
  obtain ⟨a1, hx⟩ := nxt (sv := sv) hG ha
  have hL := hG.1
  have z2 := hx.2.1
  have hf := NX_fix (sv := sv) hG hx.2.1 hx.2.2.1
  have yl : ¬ nI lim ≤ 0 := nI_nle (by omega) (by omega)
  by_cases q : a1 < L ∧ 48 ≤ g a1 ∧ g a1 ≤ 57
  · have gl := hG.2 a1 q.1
    have z := dg_y (sv := sv) (xl := 0) (xm := 10) (xh := 9) (lo := 0) (hi := 9) hG (by decide) (by decide) rfl rfl rfl hf q.1 (by omega)
    have hi : nuI lim (g a1 - 48) (g a1 - 48) := Or.inl ⟨rfl, by omega⟩
    obtain ⟨a', c', r', w1, w2, w3, w4⟩ := jL (sv := sv) hG h16 (f := nI a1) (y := nI (lim - 1)) (L - (a1 + 1)) (a1 + 1) _ _ (by omega) (Nat.le_refl _) hi
    obtain ⟨-, -, -, x4, x5⟩ := hx
    simp only [q.1, if_true] at x4 x5
    have yb := d_bt (x := g a1) (lo := 0) (hi := 9) (by omega) (by decide) (by decide)
    have e48 : (nI (48 + 0)).toInt64 = 48 := by decide
    have e57 : (nI (48 + 9)).toInt64 = 57 := by decide
    rw [e48, e57, decide_eq_true (by omega)] at yb
    -- the class
    have cc : ∀ σ Q, TC g L σ → AM sv 51 [.ref 65, .int (nI lim)] (am_toH (cT σ a false)) Q = AW sv 51 99 [.ref 65, .int (nI lim), .int (nI a1), .int (nI c')] [] (am_toH (cT σ a' false)) 0 0 Q := by
      intro σ Q hT
      have d1 := fun Q => x4 σ false Q hT
      have d2 := fun Q => z.1 σ Q hT
      rw [← w3 σ Q hT, n51]
      simp only [x51_0, x51_1, x51_4, x51_5, x51_6, x51_9, x51_10, x51_11, x51_12, x51_14, x51_17, Option.toList_some, Option.toList_none, List.cons_append, List.nil_append, cat_i, cat_r, cat_n, cat_f, cs_n, cs_i, cs_r, cs_l, cs_f, Nat.reduceAdd, Nat.reduceLeDiff, Nat.zero_le, if_true, if_false, true_or, or_true, am_wr_at, Nat.reduceEqDiff, not_true_eq_false, not_false_eq_true, i_one, ite_not, bI_z, bI_nz, bI_t, bI_f, bI_or, Bool.false_eq_true, Bool.true_eq_false, reduceCtorEq, d1, cT_2, d2]
    -- the reference
    have mm : ∀ σ Q, TM g L σ → AM sv 122 [.ref 71, .int (nI (lim - 1))] (am_toH (mT σ a false)) Q = AW sv 122 113 [.ref 71, .int (nI (lim - 1)), .int (nI a1), .int (nI r')] [] (am_toH (mT σ a' false)) 0 0 Q := by
      intro σ Q hT
      have d1 := fun Q => x5 σ false Q hT
      have h2 := hT.2 a1 q.1
      have e1 : ¬ nI L ≤ nI a1 := nI_ge q.1 (by omega)
      have e2 : am_in (nI a1) 100 = true := nI_in' (by omega) (by omega)
      have e3 : (nI a1).toNatClampNeg = a1 := nI_clamp (by omega)
      have y3 : ((0 : Int32) ≤ 999) = True := eq_true (by decide)
      have er : 10 * (0 : Int32) + nI (g a1) - 48 = nI (g a1 - 48) := by
        rw [show 10 * (0 : Int32) = 0 by decide, Int32.zero_add, d_48 (by omega)]
      have st : AM sv 122 [.ref 71, .int (nI (lim - 1))] (am_toH (mT σ a false)) Q = AW sv 122 38 [.ref 71, .int (nI (lim - 1)), .int (nI a1), .int 0] [] (am_toH (mT σ a1 false)) 0 0 Q := by
        rw [n122]
        simp only [x122_0, x122_1, x122_4, x122_7, x122_8, x122_11, x122_12, x122_15, x122_18, x122_21, x122_24, x122_25, x122_26, x122_29, x122_30, x122_31, x122_32, x122_35, x122_36, x122_37, Option.toList_some, Option.toList_none, List.cons_append, List.nil_append, cat_i, cat_r, cat_n, cat_f, cs_n, cs_i, cs_r, cs_l, cs_f, Nat.reduceAdd, Nat.reduceLeDiff, Nat.zero_le, if_true, if_false, true_or, or_true, am_wr_at, Nat.reduceEqDiff, not_true_eq_false, not_false_eq_true, i_one, ite_not, bI_z, bI_nz, bI_t, bI_f, bI_or, Bool.false_eq_true, Bool.true_eq_false, reduceCtorEq, mT_12, d1, s104, yb, mT_11]
      rw [st, ← w4 σ Q hT, x122_38]
      simp only [x122_39, x122_42, x122_43, x122_46, x122_49, x122_50, x122_53, x122_54, x122_57, x122_58, x122_59, x122_62, x122_65, x122_68, x122_71, x122_72, x122_75, x122_78, x122_79, x122_82, x122_84, x122_85, x122_86, x122_87, x122_90, x122_91, x122_94, x122_95, x122_96, x122_98, x122_99, x122_100, x122_101, x122_102, x122_105, x122_106, x122_107, x122_110, Option.toList_some, Option.toList_none, List.cons_append, List.nil_append, cat_i, cat_r, cat_n, cat_f, cs_n, cs_i, cs_r, cs_l, cs_f, Nat.reduceAdd, Nat.reduceLeDiff, Nat.zero_le, if_true, if_false, true_or, or_true, am_wr_at, Nat.reduceEqDiff, not_true_eq_false, not_false_eq_true, i_one, ite_not, bI_z, bI_nz, bI_t, bI_f, bI_or, Bool.false_eq_true, Bool.true_eq_false, reduceCtorEq, lc79, mT_10, mT_11, mT_79, hT.1, h2, e1, e2, e3, s104, yb, er, y3, nI_1, mT_w11]
    unfold nuI at w2
    by_cases k : r' < lim
    · have e : c' = r' := by omega
      subst e
      have y1 : (nI c' < nI lim) = True := eq_true (nI_lt k (by omega))
      have y2 : (nI c' ≤ nI (lim - 1)) = True := eq_true (nI_le (by omega) (by omega))
      refine ⟨c', c', a', false, w1, fun _ => ⟨rfl, k⟩, fun σ Q hT => ?_, fun σ Q hT => ?_⟩
      · rw [cc σ Q hT]
        simp only [x51_99, x51_100, x51_101, x51_104, x51_105, x51_106, x51_109, x51_110, x51_111, x51_114, x51_115, x51_118, x51_121, x51_122, x51_125, x51_126, Option.toList_some, Option.toList_none, List.cons_append, List.nil_append, cat_i, cat_r, cat_n, cat_f, cs_n, cs_i, cs_r, cs_l, cs_f, Nat.reduceAdd, Nat.reduceLeDiff, Nat.zero_le, if_true, if_false, true_or, or_true, am_wr_at, Nat.reduceEqDiff, not_true_eq_false, not_false_eq_true, i_one, ite_not, bI_z, bI_nz, bI_t, bI_f, bI_or, Bool.false_eq_true, Bool.true_eq_false, reduceCtorEq, y1, cT_3]
      · rw [mm σ Q hT]
        simp only [x122_113, x122_114, x122_115, x122_116, x122_119, x122_120, x122_123, x122_124, x122_127, x122_128, x122_129, x122_132, x122_135, x122_136, x122_139, x122_140, x122_143, x122_146, x122_147, Option.toList_some, Option.toList_none, List.cons_append, List.nil_append, cat_i, cat_r, cat_n, cat_f, cs_n, cs_i, cs_r, cs_l, cs_f, Nat.reduceAdd, Nat.reduceLeDiff, Nat.zero_le, if_true, if_false, true_or, or_true, am_wr_at, Nat.reduceEqDiff, not_true_eq_false, not_false_eq_true, i_one, ite_not, bI_z, bI_nz, bI_t, bI_f, bI_or, Bool.false_eq_true, Bool.true_eq_false, reduceCtorEq, y2, mT_w120, mT_12, mT_11, mT_w11, am_zero_t]
    · have y1 : (nI c' < nI lim) = False := eq_false (nI_nlt (by omega) (by omega))
      have y2 : (nI r' ≤ nI (lim - 1)) = False := eq_false (nI_ge (by omega) (by omega))
      refine ⟨0, r', a1, true, z2, fun c => (by cases c), fun σ Q hT => ?_, fun σ Q hT => ?_⟩
      · rw [cc σ Q hT]
        simp only [x51_99, x51_100, x51_101, x51_104, x51_105, x51_106, x51_109, x51_110, x51_111, x51_114, x51_115, x51_118, x51_121, x51_122, x51_125, x51_126, Option.toList_some, Option.toList_none, List.cons_append, List.nil_append, cat_i, cat_r, cat_n, cat_f, cs_n, cs_i, cs_r, cs_l, cs_f, Nat.reduceAdd, Nat.reduceLeDiff, Nat.zero_le, if_true, if_false, true_or, or_true, am_wr_at, Nat.reduceEqDiff, not_true_eq_false, not_false_eq_true, i_one, ite_not, bI_z, bI_nz, bI_t, bI_f, bI_or, Bool.false_eq_true, Bool.true_eq_false, reduceCtorEq, y1, cT_w2, cT_w31, cT_3, am_one_t, nI_0]
      · rw [mm σ Q hT]
        simp only [x122_113, x122_114, x122_115, x122_116, x122_119, x122_120, x122_123, x122_124, x122_127, x122_128, x122_129, x122_132, x122_135, x122_136, x122_139, x122_140, x122_143, x122_146, x122_147, Option.toList_some, Option.toList_none, List.cons_append, List.nil_append, cat_i, cat_r, cat_n, cat_f, cs_n, cs_i, cs_r, cs_l, cs_f, Nat.reduceAdd, Nat.reduceLeDiff, Nat.zero_le, if_true, if_false, true_or, or_true, am_wr_at, Nat.reduceEqDiff, not_true_eq_false, not_false_eq_true, i_one, ite_not, bI_z, bI_nz, bI_t, bI_f, bI_or, Bool.false_eq_true, Bool.true_eq_false, reduceCtorEq, y2, mT_w121, mT_12, mT_11, mT_w11, am_one_t]
  · have z := dg_n (sv := sv) (xl := 0) (xm := 10) (xh := 9) (lo := 0) (hi := 9) hG (by decide) (by decide) rfl rfl rfl hf (by omega)
    obtain ⟨-, -, -, x4, x5⟩ := hx
    have y1 : ((0 : Int32) < nI lim) = True := eq_true (Int32.not_le.mp yl)
    refine ⟨0, 0, a1, true, z2, fun c => (by cases c), fun σ Q hT => ?_, fun σ Q hT => ?_⟩
    · have d1 := fun Q => x4 σ false Q hT
      have d2 := fun Q => z.1 σ Q hT
      rw [n51]
      simp only [x51_0, x51_1, x51_4, x51_5, x51_6, x51_9, x51_10, x51_11, x51_12, x51_14, x51_17, x51_18, x51_19, x51_22, x51_25, x51_26, x51_29, x51_30, x51_33, x51_99, x51_100, x51_101, x51_104, x51_105, x51_106, x51_109, x51_110, x51_111, x51_114, x51_115, x51_118, x51_121, x51_122, x51_125, x51_126, Option.toList_some, Option.toList_none, List.cons_append, List.nil_append, cat_i, cat_r, cat_n, cat_f, cs_n, cs_i, cs_r, cs_l, cs_f, Nat.reduceAdd, Nat.reduceLeDiff, Nat.zero_le, if_true, if_false, true_or, or_true, am_wr_at, Nat.reduceEqDiff, not_true_eq_false, not_false_eq_true, i_one, ite_not, bI_z, bI_nz, bI_t, bI_f, bI_or, Bool.false_eq_true, Bool.true_eq_false, reduceCtorEq, d1, cT_2, d2, cT_3, y1, nI_0]
    · have d1 := fun Q => x5 σ false Q hT
      have yb : am_bt (if a1 < L then nI (g a1) else 0).toInt64 48 57 = false := by
        have e48 : (nI (48 + 0)).toInt64 = 48 := by decide
        have e57 : (nI (48 + 9)).toInt64 = 57 := by decide
        by_cases k : a1 < L
        · have gl := hG.2 a1 k
          have yb := d_bt (x := g a1) (lo := 0) (hi := 9) (by omega) (by decide) (by decide)
          rw [e48, e57, decide_eq_false (by omega)] at yb
          rw [if_pos k, yb]
        · rw [if_neg k]
          decide
      rw [n122]
      simp only [x122_0, x122_1, x122_4, x122_7, x122_8, x122_11, x122_12, x122_15, x122_18, x122_21, x122_24, x122_25, x122_26, x122_29, x122_30, Option.toList_some, Option.toList_none, List.cons_append, List.nil_append, cat_i, cat_r, cat_n, cat_f, cs_n, cs_i, cs_r, cs_l, cs_f, Nat.reduceAdd, Nat.reduceLeDiff, Nat.zero_le, if_true, if_false, true_or, or_true, am_wr_at, Nat.reduceEqDiff, not_true_eq_false, not_false_eq_true, i_one, ite_not, bI_z, bI_nz, bI_t, bI_f, bI_or, Bool.false_eq_true, Bool.true_eq_false, reduceCtorEq, mT_12, d1, s104, yb, mT_w121, am_one_t, nI_0]
end I75
