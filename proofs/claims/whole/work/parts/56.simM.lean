/-! SIMULATIONS: stances -/
def anW (S : Nat → Int32) (sl c : Int32) : Nat → Bool
  | 0 => false
  | w + 1 => anW S sl c w || (decide (¬ sl = 0) && canF (S w) (sl / 10) c)
def anB (S F : Nat → Int32) (n : Nat) (c : Int32) : Nat → Bool
  | 0 => false
  | b + 1 => anB S F n c b || anW S (F b) c n
def stn (f : Nat → Bool) : Nat → Int32
  | 0 => 0
  | c + 1 => if f c = true then stn f c else stn f c ||| (1 <<< (nI c &&& 31))
theorem anW_z {S : Nat → Int32} {c : Int32} : ∀ n, anW S 0 c n = false := by
  intro n
  induction n with
  | zero => rfl
  | succ n ih => simp [anW, ih]
theorem anW_of {S T : Nat → Int32} {sl c : Int32} : ∀ n, (∀ w, w < n → S w = T w) → anW S sl c n = anW T sl c n := by
  intro n
  induction n with
  | zero => intro _; rfl
  | succ n ih =>
    intro h
    simp only [anW]
    rw [ih (fun w hw => h w (by omega)), h n (by omega)]
theorem anB_of {S T F G : Nat → Int32} {n : Nat} {c : Int32} (hs : ∀ w, w < n → S w = T w) : ∀ b, (∀ w, w < b → F w = G w) → anB S F n c b = anB T G n c b := by
  intro b
  induction b with
  | zero => intro _; rfl
  | succ b ih =>
    intro h
    simp only [anB]
    rw [ih (fun w hw => h w (by omega)), h b (by omega), anW_of n hs]
theorem stn_of {f g : Nat → Bool} : ∀ n, (∀ w, w < n → f w = g w) → stn f n = stn g n := by
  intro n
  induction n with
  | zero => intro _; rfl
  | succ n ih =>
    intro h
    simp only [stn]
    rw [ih (fun w hw => h w (by omega)), h n (by omega)]
theorem ten_ne0 : ((10 : Int32) = 0) = False := by simp
section I56
variable {sv : am_V} {h : am_H} {σ : am_S} {Q : Option Value → am_H → Prop} {x y : Int32} {a : Nat}
theorem s33w {n b : Nat} {c : Int32} (ha : am_St a) (hn : σ.1 (a + 7) 3 = nI n) (hl : n ≤ 12) (hb : b < 16) (hz : ¬ σ.1 (a + 3) b = 0) : AW sv 33 10 [.ref a, .int c, .int (nI b), .int 0] [] (am_toH σ) 0 0 Q = if anW (σ.1 (a + 8)) (σ.1 (a + 3) b) c n = true then Q (some (.int 1)) (am_toH σ) else AW sv 33 2 [.ref a, .int c, .int (nI (b + 1)), .int (nI n)] [] (am_toH σ) 0 0 Q := by
  have b2 : am_in (nI b) 16 = true := nI_in' (by omega) (by omega)
  have b3 : (nI b).toNatClampNeg = b := nI_clamp (by omega)
  have key := am_up (N := n) (f := fun i => if anW (σ.1 (a + 8)) (σ.1 (a + 3) b) c i = true then Q (some (.int 1)) (am_toH σ) else AW sv 33 10 [.ref a, .int c, .int (nI b), .int (nI i)] [] (am_toH σ) 0 0 Q) (by
    intro i hi
    have e1 : ¬ nI n ≤ nI i := nI_ge hi (by omega)
    have e2 : am_in (nI i) 12 = true := nI_in' (by omega) (by omega)
    have e3 : (nI i).toNatClampNeg = i := nI_clamp (by omega)
    simp only [anW]
    by_cases ht : anW (σ.1 (a + 8)) (σ.1 (a + 3) b) c i = true
    · simp only [ht, Bool.true_or, if_true]
    · have ht : anW (σ.1 (a + 8)) (σ.1 (a + 3) b) c i = false := by simpa using ht
      by_cases q : canF (σ.1 (a + 8) i) (σ.1 (a + 3) b / 10) c = true
      · simp only [ht, q, hz, not_false_eq_true, decide_true, Bool.true_and, Bool.or_true, if_true, Bool.false_eq_true, if_false]
        rw [x33_10]
        simp only [x33_11, x33_12, x33_15, x33_18, x33_21, x33_22, x33_25, x33_28, x33_29, x33_30, x33_33, x33_34, x33_37, x33_40, x33_41, x33_42, x33_43, x33_46, x33_49, x33_50, x33_51, x33_53, x33_54, x33_55, x33_58, x33_61, x33_62, x33_63, x33_66, Option.toList_some, Option.toList_none, List.cons_append, List.nil_append, cat_i, cat_r, cat_n, cat_f, cs_n, cs_i, cs_r, cs_l, cs_f, Nat.reduceAdd, Nat.reduceLeDiff, Nat.zero_le, if_true, if_false, true_or, or_true, am_wr_at, Nat.reduceEqDiff, not_true_eq_false, not_false_eq_true, i_one, ite_not, bI_z, bI_nz, bI_t, bI_f, bI_or, Bool.false_eq_true, Bool.true_eq_false, reduceCtorEq, ha, ln8, ln3, hn, b2, b3, e1, e2, e3, hz, s103, q, ten_ne0]
      · have q : canF (σ.1 (a + 8) i) (σ.1 (a + 3) b / 10) c = false := by simpa using q
        simp only [ht, q, Bool.and_false, Bool.or_false, Bool.false_eq_true, if_false]
        rw [x33_10]
        simp only [x33_11, x33_12, x33_15, x33_18, x33_21, x33_22, x33_25, x33_28, x33_29, x33_30, x33_33, x33_34, x33_37, x33_40, x33_41, x33_42, x33_43, x33_46, x33_49, x33_50, x33_51, x33_53, x33_54, x33_55, x33_58, x33_61, x33_62, x33_63, x33_66, Option.toList_some, Option.toList_none, List.cons_append, List.nil_append, cat_i, cat_r, cat_n, cat_f, cs_n, cs_i, cs_r, cs_l, cs_f, Nat.reduceAdd, Nat.reduceLeDiff, Nat.zero_le, if_true, if_false, true_or, or_true, am_wr_at, Nat.reduceEqDiff, not_true_eq_false, not_false_eq_true, i_one, ite_not, bI_z, bI_nz, bI_t, bI_f, bI_or, Bool.false_eq_true, Bool.true_eq_false, reduceCtorEq, ha, ln8, ln3, hn, b2, b3, e1, e2, e3, hz, s103, q, ten_ne0, nI_1]) n (Nat.le_refl _)
  simp only [anW, Bool.false_eq_true, if_false] at key
  refine Eq.trans key ?_
  by_cases ht : anW (σ.1 (a + 8)) (σ.1 (a + 3) b) c n = true
  · simp only [ht, if_true]
  · have ht : anW (σ.1 (a + 8)) (σ.1 (a + 3) b) c n = false := by simpa using ht
    have e1 : nI n ≤ nI n := nI_le (Nat.le_refl _) (by omega)
    simp only [ht, Bool.false_eq_true, if_false]
    rw [x33_10]
    simp only [x33_11, x33_12, x33_15, x33_18, x33_69, x33_72, Option.toList_some, Option.toList_none, List.cons_append, List.nil_append, cat_i, cat_r, cat_n, cat_f, cs_n, cs_i, cs_r, cs_l, cs_f, Nat.reduceAdd, Nat.reduceLeDiff, Nat.zero_le, if_true, if_false, true_or, or_true, am_wr_at, Nat.reduceEqDiff, not_true_eq_false, not_false_eq_true, i_one, ite_not, bI_z, bI_nz, bI_t, bI_f, bI_or, Bool.false_eq_true, Bool.true_eq_false, reduceCtorEq, ha, hn, e1, nI_1]
def vz33 (F : Nat → Int32) (n : Nat) : Nat → Value
  | 0 => .null
  | b + 1 => .int (if F b = 0 then 0 else nI n)
theorem s33 {n : Nat} {c : Int32} (ha : am_St a) (hn : σ.1 (a + 7) 3 = nI n) (hl : n ≤ 12) : AM sv 33 [.ref a, .int c] (am_toH σ) Q = Q (some (.int (bI (anB (σ.1 (a + 8)) (σ.1 (a + 3)) n c 16)))) (am_toH σ) := by
  have key := am_up (N := 16) (f := fun i => if anB (σ.1 (a + 8)) (σ.1 (a + 3)) n c i = true then Q (some (.int 1)) (am_toH σ) else AW sv 33 2 [.ref a, .int c, .int (nI i), vz33 (σ.1 (a + 3)) n i] [] (am_toH σ) 0 0 Q) (by
    intro i hi
    have e1 : ¬ 16 ≤ nI i := by
      show ¬ nI 16 ≤ nI i
      exact nI_ge (by omega) (by decide)
    have e2 : am_in (nI i) 16 = true := nI_in' (by omega) (by omega)
    have e3 : (nI i).toNatClampNeg = i := nI_clamp (by omega)
    simp only [anB, vz33]
    by_cases ht : anB (σ.1 (a + 8)) (σ.1 (a + 3)) n c i = true
    · simp only [ht, Bool.true_or, if_true]
    · have ht : anB (σ.1 (a + 8)) (σ.1 (a + 3)) n c i = false := by simpa using ht
      simp only [ht, Bool.false_or, Bool.false_eq_true, if_false]
      by_cases hz : σ.1 (a + 3) i = 0
      · have f0 : anW (σ.1 (a + 8)) (σ.1 (a + 3) i) c n = false := by rw [hz]; exact anW_z n
        simp only [f0, Bool.false_eq_true, if_false]
        simp only [hz, if_true]
        rw [x33_2]
        by_cases q : nI n ≤ 0
        · simp only [x33_3, x33_5, x33_8, x33_9, x33_10, x33_11, x33_12, x33_15, x33_18, x33_21, x33_22, x33_25, x33_28, x33_29, x33_30, x33_33, x33_34, x33_37, x33_40, x33_41, x33_42, x33_43, x33_46, x33_49, x33_50, x33_51, x33_53, x33_54, x33_55, x33_58, x33_61, x33_62, x33_63, x33_66, x33_69, x33_72, Option.toList_some, Option.toList_none, List.cons_append, List.nil_append, cat_i, cat_r, cat_n, cat_f, cs_n, cs_i, cs_r, cs_l, cs_f, Nat.reduceAdd, Nat.reduceLeDiff, Nat.zero_le, if_true, if_false, true_or, or_true, am_wr_at, Nat.reduceEqDiff, not_true_eq_false, not_false_eq_true, i_one, ite_not, bI_z, bI_nz, bI_t, bI_f, bI_or, Bool.false_eq_true, Bool.true_eq_false, reduceCtorEq, ha, ln3, hn, q, e1, e2, e3, hz, nI_1]
        · simp only [x33_3, x33_5, x33_8, x33_9, x33_10, x33_11, x33_12, x33_15, x33_18, x33_21, x33_22, x33_25, x33_28, x33_29, x33_30, x33_33, x33_34, x33_37, x33_40, x33_41, x33_42, x33_43, x33_46, x33_49, x33_50, x33_51, x33_53, x33_54, x33_55, x33_58, x33_61, x33_62, x33_63, x33_66, x33_69, x33_72, Option.toList_some, Option.toList_none, List.cons_append, List.nil_append, cat_i, cat_r, cat_n, cat_f, cs_n, cs_i, cs_r, cs_l, cs_f, Nat.reduceAdd, Nat.reduceLeDiff, Nat.zero_le, if_true, if_false, true_or, or_true, am_wr_at, Nat.reduceEqDiff, not_true_eq_false, not_false_eq_true, i_one, ite_not, bI_z, bI_nz, bI_t, bI_f, bI_or, Bool.false_eq_true, Bool.true_eq_false, reduceCtorEq, ha, ln3, hn, q, e1, e2, e3, hz, nI_1]
      · have k := s33w (sv := sv) (Q := Q) (c := c) ha hn hl hi hz
        simp only [hz, if_false]
        rw [← k, x33_2]
        simp only [x33_3, x33_5, x33_8, x33_9, Option.toList_some, Option.toList_none, List.cons_append, List.nil_append, cat_i, cat_r, cat_n, cat_f, cs_n, cs_i, cs_r, cs_l, cs_f, Nat.reduceAdd, Nat.reduceLeDiff, Nat.zero_le, if_true, if_false, true_or, or_true, am_wr_at, Nat.reduceEqDiff, not_true_eq_false, not_false_eq_true, i_one, ite_not, bI_z, bI_nz, bI_t, bI_f, bI_or, Bool.false_eq_true, Bool.true_eq_false, reduceCtorEq, e1]) 16 (Nat.le_refl _)
  rw [n33]
  simp only [x33_0, x33_1, Option.toList_some, Option.toList_none, List.cons_append, List.nil_append, cat_i, cat_r, cat_n, cat_f, cs_n, cs_i, cs_r, cs_l, cs_f, Nat.reduceAdd, Nat.reduceLeDiff, Nat.zero_le, if_true, if_false, true_or, or_true, am_wr_at, Nat.reduceEqDiff, not_true_eq_false, not_false_eq_true, i_one, ite_not, bI_z, bI_nz, bI_t, bI_f, bI_or, Bool.false_eq_true, Bool.true_eq_false, reduceCtorEq]
  simp only [anB, vz33, Bool.false_eq_true, if_false] at key
  refine Eq.trans key ?_
  have e0 : (16 : Int32) ≤ nI 16 := by decide
  have y : ∀ (z : Bool) (v : Value), (if z = true then Q (some (.int 1)) (am_toH σ) else AW sv 33 2 [.ref a, .int c, .int (nI 16), v] [] (am_toH σ) 0 0 Q) = Q (some (.int (bI z))) (am_toH σ) := by
    intro z v
    cases z with
    | true => simp only [if_true, bI_t]
    | false =>
      simp only [Bool.false_eq_true, if_false, bI_f]
      rw [x33_2]
      simp only [x33_3, x33_5, x33_75, x33_76, Option.toList_some, Option.toList_none, List.cons_append, List.nil_append, cat_i, cat_r, cat_n, cat_f, cs_n, cs_i, cs_r, cs_l, cs_f, Nat.reduceAdd, Nat.reduceLeDiff, Nat.zero_le, if_true, if_false, true_or, or_true, am_wr_at, Nat.reduceEqDiff, not_true_eq_false, not_false_eq_true, i_one, ite_not, bI_z, bI_nz, bI_t, bI_f, bI_or, Bool.false_eq_true, Bool.true_eq_false, reduceCtorEq, e0]
  exact y _ _
theorem s147w {n b : Nat} {s c : Int32} {t : Bool} (hn : σ.1 71 7 = nI n) (hl : n ≤ 8) (hb : b < 16) : AW sv 147 24 [.ref 71, .int s, .int c, .int (bI (!t)), .int (nI b), .int 0] [] (am_toH σ) 0 0 Q = AW sv 147 14 [.ref 71, .int s, .int c, .int (bI (!(t || anW (fun w => σ.1 78 (3 * w)) (σ.1 73 b) c n))), .int (nI (b + 1)), .int (nI n)] [] (am_toH σ) 0 0 Q := by
  have b2 : am_in (nI b) 16 = true := nI_in' (by omega) (by omega)
  have b3 : (nI b).toNatClampNeg = b := nI_clamp (by omega)
  have key := am_up (N := n) (f := fun i => AW sv 147 24 [.ref 71, .int s, .int c, .int (bI (!(t || anW (fun w => σ.1 78 (3 * w)) (σ.1 73 b) c i))), .int (nI b), .int (nI i)] [] (am_toH σ) 0 0 Q) (by
    intro i hi
    have e1 : ¬ nI n ≤ nI i := nI_ge hi (by omega)
    have e2 : am_in (nI (3 * i)) 24 = true := nI_in' (by omega) (by omega)
    have e3 : (nI (3 * i)).toNatClampNeg = 3 * i := nI_clamp (by omega)
    simp only [anW]
    rw [← Bool.or_assoc, x147_24]
    cases hu : (t || anW (fun w => σ.1 78 (3 * w)) (σ.1 73 b) c i) with
    | true => simp only [x147_26, x147_27, x147_30, x147_33, x147_34, x147_37, x147_38, x147_41, x147_43, x147_44, x147_47, x147_48, x147_49, x147_52, x147_53, x147_55, x147_56, x147_57, x147_58, x147_61, x147_63, x147_64, x147_66, x147_67, x147_68, x147_71, x147_74, x147_75, x147_78, x147_79, x147_80, x147_83, Option.toList_some, Option.toList_none, List.cons_append, List.nil_append, cat_i, cat_r, cat_n, cat_f, cs_n, cs_i, cs_r, cs_l, cs_f, Nat.reduceAdd, Nat.reduceLeDiff, Nat.zero_le, if_true, if_false, true_or, or_true, am_wr_at, Nat.reduceEqDiff, not_true_eq_false, not_false_eq_true, i_one, ite_not, bI_z, bI_nz, bI_t, bI_f, bI_or, Bool.false_eq_true, Bool.true_eq_false, reduceCtorEq, hn, e1, nI_1, Bool.not_true, Bool.true_or]
    | false =>
      by_cases hz : σ.1 73 b = 0
      · simp only [x147_26, x147_27, x147_30, x147_33, x147_34, x147_37, x147_38, x147_41, x147_43, x147_44, x147_47, x147_48, x147_49, x147_52, x147_53, x147_55, x147_56, x147_57, x147_58, x147_61, x147_63, x147_64, x147_66, x147_67, x147_68, x147_71, x147_74, x147_75, x147_78, x147_79, x147_80, x147_83, Option.toList_some, Option.toList_none, List.cons_append, List.nil_append, cat_i, cat_r, cat_n, cat_f, cs_n, cs_i, cs_r, cs_l, cs_f, Nat.reduceAdd, Nat.reduceLeDiff, Nat.zero_le, if_true, if_false, true_or, or_true, am_wr_at, Nat.reduceEqDiff, not_true_eq_false, not_false_eq_true, i_one, ite_not, bI_z, bI_nz, bI_t, bI_f, bI_or, Bool.false_eq_true, Bool.true_eq_false, reduceCtorEq, lc73, hn, b2, b3, e1, hz, nI_1, Bool.not_false, decide_false, Bool.false_and, Bool.or_false]
      · by_cases q : canF (σ.1 78 (3 * i)) (σ.1 73 b / 10) c = true
        · simp only [x147_26, x147_27, x147_30, x147_33, x147_34, x147_37, x147_38, x147_41, x147_43, x147_44, x147_47, x147_48, x147_49, x147_52, x147_53, x147_55, x147_56, x147_57, x147_58, x147_61, x147_63, x147_64, x147_66, x147_67, x147_68, x147_71, x147_74, x147_75, x147_78, x147_79, x147_80, x147_83, Option.toList_some, Option.toList_none, List.cons_append, List.nil_append, cat_i, cat_r, cat_n, cat_f, cs_n, cs_i, cs_r, cs_l, cs_f, Nat.reduceAdd, Nat.reduceLeDiff, Nat.zero_le, if_true, if_false, true_or, or_true, am_wr_at, Nat.reduceEqDiff, not_true_eq_false, not_false_eq_true, i_one, ite_not, bI_z, bI_nz, bI_t, bI_f, bI_or, Bool.false_eq_true, Bool.true_eq_false, reduceCtorEq, lc73, lc78, hn, ix30, b2, b3, e1, e2, e3, hz, q, s135, ten_ne0, nI_1, Bool.not_false, Bool.not_true, decide_true, Bool.true_and, Bool.or_true]
        · have q : canF (σ.1 78 (3 * i)) (σ.1 73 b / 10) c = false := by simpa using q
          simp only [x147_26, x147_27, x147_30, x147_33, x147_34, x147_37, x147_38, x147_41, x147_43, x147_44, x147_47, x147_48, x147_49, x147_52, x147_53, x147_55, x147_56, x147_57, x147_58, x147_61, x147_63, x147_64, x147_66, x147_67, x147_68, x147_71, x147_74, x147_75, x147_78, x147_79, x147_80, x147_83, Option.toList_some, Option.toList_none, List.cons_append, List.nil_append, cat_i, cat_r, cat_n, cat_f, cs_n, cs_i, cs_r, cs_l, cs_f, Nat.reduceAdd, Nat.reduceLeDiff, Nat.zero_le, if_true, if_false, true_or, or_true, am_wr_at, Nat.reduceEqDiff, not_true_eq_false, not_false_eq_true, i_one, ite_not, bI_z, bI_nz, bI_t, bI_f, bI_or, Bool.false_eq_true, Bool.true_eq_false, reduceCtorEq, lc73, lc78, hn, ix30, b2, b3, e1, e2, e3, hz, q, s135, ten_ne0, nI_1, Bool.not_false, Bool.and_false, Bool.or_false]) n (Nat.le_refl _)
  simp only [anW, Bool.or_false] at key
  refine Eq.trans key ?_
  have e1 : nI n ≤ nI n := nI_le (Nat.le_refl _) (by omega)
  rw [x147_24]
  simp only [x147_26, x147_27, x147_30, x147_86, x147_89, Option.toList_some, Option.toList_none, List.cons_append, List.nil_append, cat_i, cat_r, cat_n, cat_f, cs_n, cs_i, cs_r, cs_l, cs_f, Nat.reduceAdd, Nat.reduceLeDiff, Nat.zero_le, if_true, if_false, true_or, or_true, am_wr_at, Nat.reduceEqDiff, not_true_eq_false, not_false_eq_true, i_one, ite_not, bI_z, bI_nz, bI_t, bI_f, bI_or, Bool.false_eq_true, Bool.true_eq_false, reduceCtorEq, hn, e1, nI_1]
def vz147 (v : Value) (n : Nat) : Nat → Value
  | 0 => v
  | _ + 1 => .int (nI n)
theorem s147b {n : Nat} {s c : Int32} {v : Value} (hn : σ.1 71 7 = nI n) (hl : n ≤ 8) : AW sv 147 14 [.ref 71, .int s, .int c, .int 1, .int 0, v] [] (am_toH σ) 0 0 Q = AW sv 147 92 [.ref 71, .int s, .int c, .int (bI (!anB (fun w => σ.1 78 (3 * w)) (σ.1 73) n c 16)), .int (nI 16), .int (nI n)] [] (am_toH σ) 0 0 Q := by
  have key := am_up (N := 16) (f := fun i => AW sv 147 14 [.ref 71, .int s, .int c, .int (bI (!anB (fun w => σ.1 78 (3 * w)) (σ.1 73) n c i)), .int (nI i), vz147 v n i] [] (am_toH σ) 0 0 Q) (by
    intro i hi
    have e1 : ¬ 16 ≤ nI i := by
      show ¬ nI 16 ≤ nI i
      exact nI_ge (by omega) (by decide)
    simp only [anB, vz147]
    rw [← s147w hn hl hi, x147_14]
    simp only [x147_16, x147_18, x147_21, x147_22, Option.toList_some, Option.toList_none, List.cons_append, List.nil_append, cat_i, cat_r, cat_n, cat_f, cs_n, cs_i, cs_r, cs_l, cs_f, Nat.reduceAdd, Nat.reduceLeDiff, Nat.zero_le, if_true, if_false, true_or, or_true, am_wr_at, Nat.reduceEqDiff, not_true_eq_false, not_false_eq_true, i_one, ite_not, bI_z, bI_nz, bI_t, bI_f, bI_or, Bool.false_eq_true, Bool.true_eq_false, reduceCtorEq, e1]) 16 (Nat.le_refl _)
  refine Eq.trans key ?_
  simp only [vz147]
  have e0 : (16 : Int32) ≤ nI 16 := by decide
  generalize anB (fun w => σ.1 78 (3 * w)) (σ.1 73) n c 16 = z
  rw [x147_14]
  simp only [x147_16, x147_18, Option.toList_some, Option.toList_none, List.cons_append, List.nil_append, cat_i, cat_r, cat_n, cat_f, cs_n, cs_i, cs_r, cs_l, cs_f, Nat.reduceAdd, Nat.reduceLeDiff, Nat.zero_le, if_true, if_false, true_or, or_true, am_wr_at, Nat.reduceEqDiff, not_true_eq_false, not_false_eq_true, i_one, ite_not, bI_z, bI_nz, bI_t, bI_f, bI_or, Bool.false_eq_true, Bool.true_eq_false, reduceCtorEq, e0]
def vv147 (f : Nat → Bool) : Nat → Value
  | 0 => .null
  | c + 1 => .int (bI (!f c))
/-- stances -/
theorem sim21 : SimOK sv Inv 82 147 [] := by
  intro σ hI
  obtain ⟨n, hn, a1, a2, a3, a4⟩ := isW hI
  have hf : ∀ c, anB (σ.1 9) (σ.1 4) n c 16 = anB (fun w => σ.1 78 (3 * w)) (σ.1 73) n c 16 := fun c => anB_of (fun w hw => (rd_w hI hn a1 a2 hw).1) 16 (fun w hw => (rd_row hI.1 hw).2.1)
  have c33 := fun Q c => s33 (sv := sv) (Q := Q) (c := c) st1 a1 (by omega : n ≤ 12)
  simp only [Nat.reduceAdd, hf] at c33
  refine ⟨stn (fun c => anB (fun w => σ.1 78 (3 * w)) (σ.1 73) n (nI c) 16) 4, σ, σ, fun Q => ?_, fun Q => ?_, hI⟩
  · have key := am_up (N := 4) (f := fun i => AW sv 82 4 [.ref 0, .int (stn (fun c => anB (fun w => σ.1 78 (3 * w)) (σ.1 73) n (nI c) 16) i), .int (nI i)] [] (am_toH σ) 0 0 Q) (by
      intro i hi
      have e1 : ¬ 4 ≤ nI i := by
        show ¬ nI 4 ≤ nI i
        exact nI_ge (by omega) (by decide)
      simp only [stn]
      rw [x82_4]
      by_cases q : anB (fun w => σ.1 78 (3 * w)) (σ.1 73) n (nI i) 16 = true
      · simp only [x82_5, x82_6, x82_9, x82_10, x82_13, x82_14, x82_17, x82_20, x82_21, x82_22, x82_23, x82_24, x82_25, x82_26, x82_29, Option.toList_some, Option.toList_none, List.cons_append, List.nil_append, cat_i, cat_r, cat_n, cat_f, cs_n, cs_i, cs_r, cs_l, cs_f, Nat.reduceAdd, Nat.reduceLeDiff, Nat.zero_le, if_true, if_false, true_or, or_true, am_wr_at, Nat.reduceEqDiff, not_true_eq_false, not_false_eq_true, i_one, ite_not, bI_z, bI_nz, bI_t, bI_f, bI_or, Bool.false_eq_true, Bool.true_eq_false, reduceCtorEq, st1, c33, q, e1, nI_1]
      · have q : anB (fun w => σ.1 78 (3 * w)) (σ.1 73) n (nI i) 16 = false := by simpa using q
        simp only [x82_5, x82_6, x82_9, x82_10, x82_13, x82_14, x82_17, x82_20, x82_21, x82_22, x82_23, x82_24, x82_25, x82_26, x82_29, Option.toList_some, Option.toList_none, List.cons_append, List.nil_append, cat_i, cat_r, cat_n, cat_f, cs_n, cs_i, cs_r, cs_l, cs_f, Nat.reduceAdd, Nat.reduceLeDiff, Nat.zero_le, if_true, if_false, true_or, or_true, am_wr_at, Nat.reduceEqDiff, not_true_eq_false, not_false_eq_true, i_one, ite_not, bI_z, bI_nz, bI_t, bI_f, bI_or, Bool.false_eq_true, Bool.true_eq_false, reduceCtorEq, st1, c33, q, e1, nI_1]) 4 (Nat.le_refl _)
    have e0 : (4 : Int32) ≤ nI 4 := by decide
    rw [n82]
    simp only [x82_0, x82_1, x82_2, x82_3, Option.toList_some, Option.toList_none, List.cons_append, List.nil_append, cat_i, cat_r, cat_n, cat_f, cs_n, cs_i, cs_r, cs_l, cs_f, Nat.reduceAdd, Nat.reduceLeDiff, Nat.zero_le, if_true, if_false, true_or, or_true, am_wr_at, Nat.reduceEqDiff, not_true_eq_false, not_false_eq_true, i_one, ite_not, bI_z, bI_nz, bI_t, bI_f, bI_or, Bool.false_eq_true, Bool.true_eq_false, reduceCtorEq]
    refine Eq.trans key ?_
    generalize stn (fun c => anB (fun w => σ.1 78 (3 * w)) (σ.1 73) n (nI c) 16) 4 = z
    rw [x82_4]
    simp only [x82_5, x82_6, x82_32, x82_33, Option.toList_some, Option.toList_none, List.cons_append, List.nil_append, cat_i, cat_r, cat_n, cat_f, cs_n, cs_i, cs_r, cs_l, cs_f, Nat.reduceAdd, Nat.reduceLeDiff, Nat.zero_le, if_true, if_false, true_or, or_true, am_wr_at, Nat.reduceEqDiff, not_true_eq_false, not_false_eq_true, i_one, ite_not, bI_z, bI_nz, bI_t, bI_f, bI_or, Bool.false_eq_true, Bool.true_eq_false, reduceCtorEq, e0]
  · have k := fun Q s c v => s147b (sv := sv) (Q := Q) (s := s) (c := c) (v := v) a2 hn
    have key := am_up (N := 4) (f := fun i => AW sv 147 4 [.ref 71, .int (stn (fun c => anB (fun w => σ.1 78 (3 * w)) (σ.1 73) n (nI c) 16) i), .int (nI i), vv147 (fun c => anB (fun w => σ.1 78 (3 * w)) (σ.1 73) n (nI c) 16) i, vz147 .null 16 i, vz147 .null n i] [] (am_toH σ) 0 0 Q) (by
      intro i hi
      have e1 : ¬ 4 ≤ nI i := by
        show ¬ nI 4 ≤ nI i
        exact nI_ge (by omega) (by decide)
      simp only [stn, vv147, vz147]
      rw [x147_4]
      by_cases q : anB (fun w => σ.1 78 (3 * w)) (σ.1 73) n (nI i) 16 = true
      · simp only [x147_5, x147_6, x147_9, x147_10, x147_11, x147_12, x147_92, x147_93, x147_94, x147_97, x147_98, x147_99, x147_100, x147_103, x147_104, x147_105, x147_106, x147_109, Option.toList_some, Option.toList_none, List.cons_append, List.nil_append, cat_i, cat_r, cat_n, cat_f, cs_n, cs_i, cs_r, cs_l, cs_f, Nat.reduceAdd, Nat.reduceLeDiff, Nat.zero_le, if_true, if_false, true_or, or_true, am_wr_at, Nat.reduceEqDiff, not_true_eq_false, not_false_eq_true, i_one, ite_not, bI_z, bI_nz, bI_t, bI_f, bI_or, Bool.false_eq_true, Bool.true_eq_false, reduceCtorEq, k, q, e1, nI_1, Bool.not_true, Int32.or_zero]
      · have q : anB (fun w => σ.1 78 (3 * w)) (σ.1 73) n (nI i) 16 = false := by simpa using q
        simp only [x147_5, x147_6, x147_9, x147_10, x147_11, x147_12, x147_92, x147_93, x147_94, x147_97, x147_98, x147_99, x147_100, x147_103, x147_104, x147_105, x147_106, x147_109, Option.toList_some, Option.toList_none, List.cons_append, List.nil_append, cat_i, cat_r, cat_n, cat_f, cs_n, cs_i, cs_r, cs_l, cs_f, Nat.reduceAdd, Nat.reduceLeDiff, Nat.zero_le, if_true, if_false, true_or, or_true, am_wr_at, Nat.reduceEqDiff, not_true_eq_false, not_false_eq_true, i_one, ite_not, bI_z, bI_nz, bI_t, bI_f, bI_or, Bool.false_eq_true, Bool.true_eq_false, reduceCtorEq, k, q, e1, nI_1, Bool.not_false]) 4 (Nat.le_refl _)
    have e0 : (4 : Int32) ≤ nI 4 := by decide
    rw [n147]
    simp only [x147_0, x147_1, x147_2, x147_3, Option.toList_some, Option.toList_none, List.cons_append, List.nil_append, cat_i, cat_r, cat_n, cat_f, cs_n, cs_i, cs_r, cs_l, cs_f, Nat.reduceAdd, Nat.reduceLeDiff, Nat.zero_le, if_true, if_false, true_or, or_true, am_wr_at, Nat.reduceEqDiff, not_true_eq_false, not_false_eq_true, i_one, ite_not, bI_z, bI_nz, bI_t, bI_f, bI_or, Bool.false_eq_true, Bool.true_eq_false, reduceCtorEq]
    refine Eq.trans key ?_
    generalize stn (fun c => anB (fun w => σ.1 78 (3 * w)) (σ.1 73) n (nI c) 16) 4 = z
    rw [x147_4]
    simp only [x147_5, x147_6, x147_112, x147_113, Option.toList_some, Option.toList_none, List.cons_append, List.nil_append, cat_i, cat_r, cat_n, cat_f, cs_n, cs_i, cs_r, cs_l, cs_f, Nat.reduceAdd, Nat.reduceLeDiff, Nat.zero_le, if_true, if_false, true_or, or_true, am_wr_at, Nat.reduceEqDiff, not_true_eq_false, not_false_eq_true, i_one, ite_not, bI_z, bI_nz, bI_t, bI_f, bI_or, Bool.false_eq_true, Bool.true_eq_false, reduceCtorEq, e0]
end I56
