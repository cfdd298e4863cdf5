/-! SIMULATIONS: sheets -/
theorem am_wr_wr {σ : am_S} {a : Nat} {f g : Nat → Int32} : am_wr (am_wr σ a f) a g = am_wr σ a g := by
  unfold am_wr
  congr 1
  funext k
  by_cases h : k = a <;> simp [h]
theorem Inv_sh {σ τ : am_S} (hI : Inv σ) (hf : ∀ k, (k < 68 ∨ (70 < k ∧ k < 86) ∨ 89 < k) → τ.1 k = σ.1 k) (hs : inS τ) : Inv τ := by
  obtain ⟨hv, hok, hT, hS, hM⟩ := hI
  have ec : cV τ 1 = cV σ 1 := cV_of (fun k q1 q2 => hf k (by omega)) (by rw [hf 1 (by omega)])
  have em : mV τ = mV σ := mV_of (fun k q1 q2 => hf k (by omega)) ⟨hf 81 (by omega), hf 83 (by omega), hf 84 (by omega)⟩ ⟨by rw [hf 71 (by omega)], by rw [hf 71 (by omega)], by rw [hf 71 (by omega)], by rw [hf 71 (by omega)]⟩
  exact ⟨by rw [ec, em]; exact hv, by rw [em]; exact hok, inT_of ⟨by rw [hf 65 (by omega)], hf 66 (by omega), hf 79 (by omega), by rw [hf 71 (by omega)]⟩ hT, hs, inI_of ⟨by rw [hf 0 (by omega)], by rw [hf 71 (by omega)], hf 85 (by omega)⟩ (fun k q1 q2 => hf k (by omega)) hM⟩
section I46
variable {sv : am_V} {h : am_H} {σ : am_S} {Q : Option Value → am_H → Prop} {x y : Int32}
theorem s19 {k : Nat} (hk : k < 4) : AM sv 19 [.ref 67, .int (nI k)] (am_toH σ) Q = Q (some (.int (bI (decide (σ.1 68 k = -1))))) (am_toH σ) := by
  have h1 : am_in (nI k) 4 = true := nI_in' hk (by omega)
  have d0 : (nI k).toNatClampNeg = k := nI_clamp (by omega)
  rw [n19]
  by_cases h2 : σ.1 68 k = -1
  · simp only [x19_0, x19_1, x19_4, x19_5, x19_6, x19_7, x19_10, x19_11, x19_14, x19_15, Option.toList_some, Option.toList_none, List.cons_append, List.nil_append, cat_i, cat_r, cat_n, cat_f, cs_n, cs_i, cs_r, cs_l, cs_f, Nat.reduceAdd, Nat.reduceLeDiff, Nat.zero_le, if_true, if_false, true_or, or_true, am_wr_at, Nat.reduceEqDiff, not_true_eq_false, not_false_eq_true, i_one, ite_not, bI_z, bI_nz, bI_t, bI_f, bI_or, Bool.false_eq_true, Bool.true_eq_false, reduceCtorEq, h1, d0, lc68, h2, decide_true]
  · simp only [x19_0, x19_1, x19_4, x19_5, x19_6, x19_7, x19_10, x19_11, x19_14, x19_15, Option.toList_some, Option.toList_none, List.cons_append, List.nil_append, cat_i, cat_r, cat_n, cat_f, cs_n, cs_i, cs_r, cs_l, cs_f, Nat.reduceAdd, Nat.reduceLeDiff, Nat.zero_le, if_true, if_false, true_or, or_true, am_wr_at, Nat.reduceEqDiff, not_true_eq_false, not_false_eq_true, i_one, ite_not, bI_z, bI_nz, bI_t, bI_f, bI_or, Bool.false_eq_true, Bool.true_eq_false, reduceCtorEq, h1, d0, lc68, h2, decide_false]
/-- drop -/
theorem sim33 : ∀ x0 : Int32, SimOK sv Inv 94 167 [.int x0] := by
  intro w σ hI
  by_cases h0 : am_in w 4 = true
  · obtain ⟨k, hk, rfl⟩ := in_nI h0 (by decide)
    have d0 : (nI k).toNatClampNeg = k := nI_clamp (by omega)
    obtain ⟨q1, q2, q3, q4, q5⟩ := hI.2.2.2.1 k hk
    by_cases h1 : σ.1 68 k = -1
    · have h2 : ¬ 0 ≤ σ.1 86 k := by rw [← q1, h1]; decide
      refine ⟨-11, σ, σ, fun Q => ?_, fun Q => ?_, hI⟩
      · rw [n94]
        simp only [x94_0, x94_1, x94_2, x94_5, x94_8, x94_9, x94_10, x94_11, x94_14, x94_15, x94_18, x94_21, x94_23, x94_24, x94_25, x94_28, x94_31, x94_32, x94_33, x94_34, x94_35, x94_38, x94_41, x94_42, x94_43, Option.toList_some, Option.toList_none, List.cons_append, List.nil_append, cat_i, cat_r, cat_n, cat_f, cs_n, cs_i, cs_r, cs_l, cs_f, Nat.reduceAdd, Nat.reduceLeDiff, Nat.zero_le, if_true, if_false, true_or, or_true, am_wr_at, Nat.reduceEqDiff, not_true_eq_false, not_false_eq_true, i_one, ite_not, bI_z, bI_nz, bI_t, bI_f, bI_or, Bool.false_eq_true, Bool.true_eq_false, reduceCtorEq, lt1, lt2, lt3, lt4, lt5, lt10, lt12, lt16, lt100, lt1000, bt1, bt2, bt3, bt4, bt5, bt10, bt12, bt16, bt100, bt1000, bt6, bt25, bt100000, s97, s19 hk, h0, h1, decide_true]
      · rw [n167]
        simp only [x167_0, x167_1, x167_4, x167_7, x167_8, x167_9, x167_10, x167_13, x167_14, x167_15, x167_18, x167_20, x167_21, x167_22, x167_25, x167_26, x167_27, x167_28, x167_29, x167_32, x167_33, x167_34, Option.toList_some, Option.toList_none, List.cons_append, List.nil_append, cat_i, cat_r, cat_n, cat_f, cs_n, cs_i, cs_r, cs_l, cs_f, Nat.reduceAdd, Nat.reduceLeDiff, Nat.zero_le, if_true, if_false, true_or, or_true, am_wr_at, Nat.reduceEqDiff, not_true_eq_false, not_false_eq_true, i_one, ite_not, bI_z, bI_nz, bI_t, bI_f, bI_or, Bool.false_eq_true, Bool.true_eq_false, reduceCtorEq, lt1, lt2, lt3, lt4, lt5, lt10, lt12, lt16, lt100, lt1000, bt1, bt2, bt3, bt4, bt5, bt10, bt12, bt16, bt100, bt1000, bt6, bt25, bt100000, s162, h0, d0, lc86, h2]
    · have h2 : ¬ σ.1 86 k < 0 := by
        rw [← q1]
        intro q
        have := Int32.lt_iff_toInt_lt.mp q
        rw [show (0 : Int32).toInt = 0 by decide] at this
        apply h1
        apply Int32.toInt_inj.mp
        rw [show (-1 : Int32).toInt = -1 by decide]
        have := q2.1
        omega
      have h2' : 0 ≤ σ.1 86 k := Int32.not_lt.mp h2
      refine ⟨σ.1 69 k, am_wr σ 68 (upd (σ.1 68) k (-1)), am_wr (am_wr σ 68 (upd (σ.1 68) k (-1))) 86 (upd (σ.1 86) k (-1)), fun Q => ?_, fun Q => ?_, ?_⟩
      · rw [n94]
        simp only [x94_0, x94_1, x94_2, x94_5, x94_8, x94_9, x94_10, x94_11, x94_14, x94_15, x94_18, x94_21, x94_23, x94_24, x94_25, x94_28, x94_31, x94_32, x94_33, x94_34, x94_35, x94_38, x94_41, x94_42, x94_43, Option.toList_some, Option.toList_none, List.cons_append, List.nil_append, cat_i, cat_r, cat_n, cat_f, cs_n, cs_i, cs_r, cs_l, cs_f, Nat.reduceAdd, Nat.reduceLeDiff, Nat.zero_le, if_true, if_false, true_or, or_true, am_wr_at, Nat.reduceEqDiff, not_true_eq_false, not_false_eq_true, i_one, ite_not, bI_z, bI_nz, bI_t, bI_f, bI_or, Bool.false_eq_true, Bool.true_eq_false, reduceCtorEq, lt1, lt2, lt3, lt4, lt5, lt10, lt12, lt16, lt100, lt1000, bt1, bt2, bt3, bt4, bt5, bt10, bt12, bt16, bt100, bt1000, bt6, bt25, bt100000, s97, s19 hk, h0, h1, d0, lc68, lc69, decide_false]
      · rw [n167, q3]
        simp only [x167_0, x167_1, x167_4, x167_7, x167_8, x167_9, x167_10, x167_13, x167_14, x167_15, x167_18, x167_20, x167_21, x167_22, x167_25, x167_26, x167_27, x167_28, x167_29, x167_32, x167_33, x167_34, Option.toList_some, Option.toList_none, List.cons_append, List.nil_append, cat_i, cat_r, cat_n, cat_f, cs_n, cs_i, cs_r, cs_l, cs_f, Nat.reduceAdd, Nat.reduceLeDiff, Nat.zero_le, if_true, if_false, true_or, or_true, am_wr_at, Nat.reduceEqDiff, not_true_eq_false, not_false_eq_true, i_one, ite_not, bI_z, bI_nz, bI_t, bI_f, bI_or, Bool.false_eq_true, Bool.true_eq_false, reduceCtorEq, lt1, lt2, lt3, lt4, lt5, lt10, lt12, lt16, lt100, lt1000, bt1, bt2, bt3, bt4, bt5, bt10, bt12, bt16, bt100, bt1000, bt6, bt25, bt100000, s162, h0, d0, lc86, lc87, h2, h2']
      · refine Inv_sh hI (fun k q => by rw [am_wr_ne (by omega), am_wr_ne (by omega)]) ?_
        intro k' hk'
        obtain ⟨p1, p2, p3, p4, p5⟩ := hI.2.2.2.1 k' hk'
        simp only [am_wr_at, upd_at, Nat.reduceEqDiff, if_true, if_false]
        refine ⟨?_, ?_, p3, p4, p5⟩
        · split <;> first | rfl | exact p1
        · split
          · exact ⟨by decide, by decide⟩
          · exact p2
  · have h0 : am_in w 4 = false := by simpa using h0
    exact ⟨-1, σ, σ, fun Q => by rw [n94]; simp only [x94_0, x94_1, x94_2, x94_5, x94_8, x94_9, x94_10, x94_11, x94_14, x94_15, x94_18, x94_21, x94_23, x94_24, x94_25, x94_28, x94_31, x94_32, x94_33, x94_34, x94_35, x94_38, x94_41, x94_42, x94_43, Option.toList_some, Option.toList_none, List.cons_append, List.nil_append, cat_i, cat_r, cat_n, cat_f, cs_n, cs_i, cs_r, cs_l, cs_f, Nat.reduceAdd, Nat.reduceLeDiff, Nat.zero_le, if_true, if_false, true_or, or_true, am_wr_at, Nat.reduceEqDiff, not_true_eq_false, not_false_eq_true, i_one, ite_not, bI_z, bI_nz, bI_t, bI_f, bI_or, Bool.false_eq_true, Bool.true_eq_false, reduceCtorEq, lt1, lt2, lt3, lt4, lt5, lt10, lt12, lt16, lt100, lt1000, bt1, bt2, bt3, bt4, bt5, bt10, bt12, bt16, bt100, bt1000, bt6, bt25, bt100000, s97, h0], fun Q => by rw [n167]; simp only [x167_0, x167_1, x167_4, x167_7, x167_8, x167_9, x167_10, x167_13, x167_14, x167_15, x167_18, x167_20, x167_21, x167_22, x167_25, x167_26, x167_27, x167_28, x167_29, x167_32, x167_33, x167_34, Option.toList_some, Option.toList_none, List.cons_append, List.nil_append, cat_i, cat_r, cat_n, cat_f, cs_n, cs_i, cs_r, cs_l, cs_f, Nat.reduceAdd, Nat.reduceLeDiff, Nat.zero_le, if_true, if_false, true_or, or_true, am_wr_at, Nat.reduceEqDiff, not_true_eq_false, not_false_eq_true, i_one, ite_not, bI_z, bI_nz, bI_t, bI_f, bI_or, Bool.false_eq_true, Bool.true_eq_false, reduceCtorEq, lt1, lt2, lt3, lt4, lt5, lt10, lt12, lt16, lt100, lt1000, bt1, bt2, bt3, bt4, bt5, bt10, bt12, bt16, bt100, bt1000, bt6, bt25, bt100000, s162, h0], hI⟩
/-- items from b on, i of them, are 0 -/
def zr (f : Nat → Int32) (b i : Nat) : Nat → Int32 := fun j => if b ≤ j ∧ j < b + i then 0 else f j
theorem zr_0 {f : Nat → Int32} {b : Nat} : zr f b 0 = f := by
  funext j
  simp only [zr]
  rw [if_neg (by omega)]
theorem zr_s {f : Nat → Int32} {b i : Nat} : upd (zr f b i) (b + i) 0 = zr f b (i + 1) := by
  funext j
  simp only [upd, zr]
  by_cases h : j = b + i
  · rw [if_pos h, if_pos (by omega)]
  · rw [if_neg h]
    by_cases h2 : b ≤ j ∧ j < b + i
    · rw [if_pos h2, if_pos (by omega)]
    · rw [if_neg h2, if_neg (by omega)]
theorem wr_id {σ : am_S} {a : Nat} : am_wr σ a (σ.1 a) = σ := by
  obtain ⟨f, g⟩ := σ
  unfold am_wr
  congr 1
  funext k
  by_cases h : k = a <;> simp [h]
theorem ix16 {k i : Nat} : nI k * 16 + nI i = nI (16 * k + i) := by
  show nI k * nI 16 + nI i = _
  unfold nI
  rw [← Int32.ofNat_mul, ← Int32.ofNat_add, Nat.mul_comm]
theorem ix16' {k i : Nat} : 16 * nI k + nI i = nI (16 * k + i) := by
  show nI 16 * nI k + nI i = _
  unfold nI
  rw [← Int32.ofNat_mul, ← Int32.ofNat_add]
theorem s22 {k n : Nat} (hk : k < 4) (hn : n ≤ 16) : AM sv 22 [.ref 67, .int (nI k), .int x, .int (nI n)] (am_toH σ) Q = Q none (am_toH (am_wr (am_wr (am_wr σ 68 (upd (σ.1 68) k x)) 69 (upd (σ.1 69) k (nI n))) 70 (zr (σ.1 70) (16 * k) n))) := by
  have h1 : am_in (nI k) 4 = true := nI_in' hk (by omega)
  have d0 : (nI k).toNatClampNeg = k := nI_clamp (by omega)
  have key := am_up (N := n) (f := fun i => AW sv 22 17 [.ref 67, .int (nI k), .int x, .int (nI n), .int (nI i)] [] (am_toH (am_wr (am_wr (am_wr σ 68 (upd (σ.1 68) k x)) 69 (upd (σ.1 69) k (nI n))) 70 (zr (σ.1 70) (16 * k) i))) 0 0 Q) (by
    intro i hi
    have e1 : ¬ nI n ≤ nI i := nI_ge (by omega) (by omega)
    have e3 : am_in (nI (16 * k + i)) 64 = true := nI_in' (by omega) (by omega)
    have e4 : (nI (16 * k + i)).toNatClampNeg = 16 * k + i := nI_clamp (by omega)
    rw [x22_17]
    simp only [x22_19, x22_20, x22_23, x22_24, x22_27, x22_28, x22_30, x22_31, x22_33, x22_34, x22_35, x22_36, x22_39, x22_42, Option.toList_some, Option.toList_none, List.cons_append, List.nil_append, cat_i, cat_r, cat_n, cat_f, cs_n, cs_i, cs_r, cs_l, cs_f, Nat.reduceAdd, Nat.reduceLeDiff, Nat.zero_le, if_true, if_false, true_or, or_true, am_wr_at, Nat.reduceEqDiff, not_true_eq_false, not_false_eq_true, i_one, ite_not, bI_z, bI_nz, bI_t, bI_f, bI_or, Bool.false_eq_true, Bool.true_eq_false, reduceCtorEq, e1, ix16, e3, e4, lc70, am_wr_wr, zr_s, nI_1]) n (Nat.le_refl _)
  rw [n22]
  simp only [x22_0, x22_1, x22_4, x22_5, x22_6, x22_7, x22_8, x22_11, x22_12, x22_13, x22_14, x22_15, Option.toList_some, Option.toList_none, List.cons_append, List.nil_append, cat_i, cat_r, cat_n, cat_f, cs_n, cs_i, cs_r, cs_l, cs_f, Nat.reduceAdd, Nat.reduceLeDiff, Nat.zero_le, if_true, if_false, true_or, or_true, am_wr_at, Nat.reduceEqDiff, not_true_eq_false, not_false_eq_true, i_one, ite_not, bI_z, bI_nz, bI_t, bI_f, bI_or, Bool.false_eq_true, Bool.true_eq_false, reduceCtorEq, h1, d0, lc68, lc69]
  have z0 : am_wr (am_wr (am_wr σ 68 (upd (σ.1 68) k x)) 69 (upd (σ.1 69) k (nI n))) 70 (zr (σ.1 70) (16 * k) 0) = am_wr (am_wr σ 68 (upd (σ.1 68) k x)) 69 (upd (σ.1 69) k (nI n)) := by
    rw [zr_0]
    have := wr_id (σ := am_wr (am_wr σ 68 (upd (σ.1 68) k x)) 69 (upd (σ.1 69) k (nI n))) (a := 70)
    simpa only [Option.toList_some, Option.toList_none, List.cons_append, List.nil_append, cat_i, cat_r, cat_n, cat_f, cs_n, cs_i, cs_r, cs_l, cs_f, Nat.reduceAdd, Nat.reduceLeDiff, Nat.zero_le, if_true, if_false, true_or, or_true, am_wr_at, Nat.reduceEqDiff, not_true_eq_false, not_false_eq_true, i_one, ite_not, bI_z, bI_nz, bI_t, bI_f, bI_or, Bool.false_eq_true, Bool.true_eq_false, reduceCtorEq] using this
  rw [z0, nI_0] at key
  refine Eq.trans key ?_
  have e1 : nI n ≤ nI n := nI_le (Nat.le_refl _) (by omega)
  rw [x22_17]
  simp only [x22_19, x22_20, x22_23, x22_24, x22_27, x22_28, x22_30, x22_31, x22_33, x22_34, x22_35, x22_36, x22_39, x22_42, Option.toList_some, Option.toList_none, List.cons_append, List.nil_append, cat_i, cat_r, cat_n, cat_f, cs_n, cs_i, cs_r, cs_l, cs_f, Nat.reduceAdd, Nat.reduceLeDiff, Nat.zero_le, if_true, if_false, true_or, or_true, am_wr_at, Nat.reduceEqDiff, not_true_eq_false, not_false_eq_true, i_one, ite_not, bI_z, bI_nz, bI_t, bI_f, bI_or, Bool.false_eq_true, Bool.true_eq_false, reduceCtorEq, e1]
theorem s166 {k n : Nat} (hk : k < 4) (hn : n ≤ 16) (hx : am_in x 3 = true) : AM sv 166 [.ref 71, .int (nI k), .int x, .int (nI n)] (am_toH σ) Q = Q (some (.int (nI n))) (am_toH (am_wr (am_wr (am_wr σ 86 (upd (σ.1 86) k x)) 87 (upd (σ.1 87) k (nI n))) 88 (zr (σ.1 88) (16 * k) 16))) := by
  have h1 : am_in (nI k) 4 = true := nI_in' hk (by omega)
  have d0 : (nI k).toNatClampNeg = k := nI_clamp (by omega)
  have g1 : nI n ≤ 16 := nI_le (b := 16) hn (by decide)
  have g2 : 0 ≤ nI n := nI_pos' (by omega)
  have key := am_up (N := 16) (f := fun i => AW sv 166 46 [.ref 71, .int (nI k), .int x, .int (nI n), .int (nI i)] [] (am_toH (am_wr (am_wr (am_wr σ 86 (upd (σ.1 86) k x)) 87 (upd (σ.1 87) k (nI n))) 88 (zr (σ.1 88) (16 * k) i))) 0 0 Q) (by
    intro i hi
    have e1 : ¬ 16 ≤ nI i := nI_ge (b := 16) (by omega) (by omega)
    have e3 : am_in (nI (16 * k + i)) 64 = true := nI_in' (by omega) (by omega)
    have e4 : (nI (16 * k + i)).toNatClampNeg = 16 * k + i := nI_clamp (by omega)
    rw [x166_46]
    simp only [x166_48, x166_50, x166_53, x166_54, x166_57, x166_59, x166_60, x166_61, x166_63, x166_64, x166_65, x166_66, x166_69, x166_72, x166_73, Option.toList_some, Option.toList_none, List.cons_append, List.nil_append, cat_i, cat_r, cat_n, cat_f, cs_n, cs_i, cs_r, cs_l, cs_f, Nat.reduceAdd, Nat.reduceLeDiff, Nat.zero_le, if_true, if_false, true_or, or_true, am_wr_at, Nat.reduceEqDiff, not_true_eq_false, not_false_eq_true, i_one, ite_not, bI_z, bI_nz, bI_t, bI_f, bI_or, Bool.false_eq_true, Bool.true_eq_false, reduceCtorEq, e1, ix16', e3, e4, lc88, am_wr_wr, zr_s, nI_1]) 16 (Nat.le_refl _)
  rw [n166]
  simp only [x166_0, x166_1, x166_4, x166_7, x166_8, x166_11, x166_14, x166_15, x166_17, x166_20, x166_21, x166_22, x166_23, x166_26, x166_28, x166_29, x166_30, x166_33, x166_34, x166_35, x166_36, x166_37, x166_40, x166_41, x166_42, x166_43, x166_44, Option.toList_some, Option.toList_none, List.cons_append, List.nil_append, cat_i, cat_r, cat_n, cat_f, cs_n, cs_i, cs_r, cs_l, cs_f, Nat.reduceAdd, Nat.reduceLeDiff, Nat.zero_le, if_true, if_false, true_or, or_true, am_wr_at, Nat.reduceEqDiff, not_true_eq_false, not_false_eq_true, i_one, ite_not, bI_z, bI_nz, bI_t, bI_f, bI_or, Bool.false_eq_true, Bool.true_eq_false, reduceCtorEq, lt1, lt2, lt3, lt4, lt5, lt10, lt12, lt16, lt100, lt1000, bt1, bt2, bt3, bt4, bt5, bt10, bt12, bt16, bt100, bt1000, bt6, bt25, bt100000, s162, s163, h1, hx, d0, g1, g2, lc86, lc87]
  have z0 : am_wr (am_wr (am_wr σ 86 (upd (σ.1 86) k x)) 87 (upd (σ.1 87) k (nI n))) 88 (zr (σ.1 88) (16 * k) 0) = am_wr (am_wr σ 86 (upd (σ.1 86) k x)) 87 (upd (σ.1 87) k (nI n)) := by
    rw [zr_0]
    have := wr_id (σ := am_wr (am_wr σ 86 (upd (σ.1 86) k x)) 87 (upd (σ.1 87) k (nI n))) (a := 88)
    simpa only [Option.toList_some, Option.toList_none, List.cons_append, List.nil_append, cat_i, cat_r, cat_n, cat_f, cs_n, cs_i, cs_r, cs_l, cs_f, Nat.reduceAdd, Nat.reduceLeDiff, Nat.zero_le, if_true, if_false, true_or, or_true, am_wr_at, Nat.reduceEqDiff, not_true_eq_false, not_false_eq_true, i_one, ite_not, bI_z, bI_nz, bI_t, bI_f, bI_or, Bool.false_eq_true, Bool.true_eq_false, reduceCtorEq] using this
  rw [z0, nI_0] at key
  refine Eq.trans key ?_
  have e1 : 16 ≤ nI 16 := by decide
  rw [x166_46]
  simp only [x166_48, x166_50, x166_53, x166_54, x166_57, x166_59, x166_60, x166_61, x166_63, x166_64, x166_65, x166_66, x166_69, x166_72, x166_73, Option.toList_some, Option.toList_none, List.cons_append, List.nil_append, cat_i, cat_r, cat_n, cat_f, cs_n, cs_i, cs_r, cs_l, cs_f, Nat.reduceAdd, Nat.reduceLeDiff, Nat.zero_le, if_true, if_false, true_or, or_true, am_wr_at, Nat.reduceEqDiff, not_true_eq_false, not_false_eq_true, i_one, ite_not, bI_z, bI_nz, bI_t, bI_f, bI_or, Bool.false_eq_true, Bool.true_eq_false, reduceCtorEq, e1]
/-- sheet -/
theorem sim32 : ∀ x0 x1 x2 : Int32, SimOK sv Inv 93 166 [.int x0, .int x1, .int x2] := by
  intro w l n σ hI
  by_cases h0 : am_in w 4 = true
  · by_cases h1 : am_in l 3 = true
    · by_cases h2 : n ≤ 16
      · have h2' : ¬ 16 < n := Int32.not_lt.mpr h2
        by_cases h3 : n < 0
        · have h3' : ¬ 0 ≤ n := Int32.not_le.mpr h3
          exact ⟨-14, σ, σ, fun Q => by rw [n93]; simp only [x93_0, x93_1, x93_2, x93_5, x93_8, x93_9, x93_10, x93_13, x93_16, x93_17, x93_19, x93_22, x93_23, x93_24, x93_25, x93_28, x93_30, x93_31, x93_32, x93_35, x93_36, x93_37, x93_38, x93_41, x93_42, Option.toList_some, Option.toList_none, List.cons_append, List.nil_append, cat_i, cat_r, cat_n, cat_f, cs_n, cs_i, cs_r, cs_l, cs_f, Nat.reduceAdd, Nat.reduceLeDiff, Nat.zero_le, if_true, if_false, true_or, or_true, am_wr_at, Nat.reduceEqDiff, not_true_eq_false, not_false_eq_true, i_one, ite_not, bI_z, bI_nz, bI_t, bI_f, bI_or, Bool.false_eq_true, Bool.true_eq_false, reduceCtorEq, lt1, lt2, lt3, lt4, lt5, lt10, lt12, lt16, lt100, lt1000, bt1, bt2, bt3, bt4, bt5, bt10, bt12, bt16, bt100, bt1000, bt6, bt25, bt100000, s97, h0, h1, h2, h2', h3, h3'], fun Q => by rw [n166]; simp only [x166_0, x166_1, x166_4, x166_7, x166_8, x166_11, x166_14, x166_15, x166_17, x166_20, x166_21, x166_22, x166_23, x166_26, x166_28, x166_29, x166_30, x166_33, x166_34, x166_35, x166_36, x166_37, x166_40, x166_41, x166_42, x166_43, x166_44, Option.toList_some, Option.toList_none, List.cons_append, List.nil_append, cat_i, cat_r, cat_n, cat_f, cs_n, cs_i, cs_r, cs_l, cs_f, Nat.reduceAdd, Nat.reduceLeDiff, Nat.zero_le, if_true, if_false, true_or, or_true, am_wr_at, Nat.reduceEqDiff, not_true_eq_false, not_false_eq_true, i_one, ite_not, bI_z, bI_nz, bI_t, bI_f, bI_or, Bool.false_eq_true, Bool.true_eq_false, reduceCtorEq, lt1, lt2, lt3, lt4, lt5, lt10, lt12, lt16, lt100, lt1000, bt1, bt2, bt3, bt4, bt5, bt10, bt12, bt16, bt100, bt1000, bt6, bt25, bt100000, s162, s163, h0, h1, h2, h2', h3, h3'], hI⟩
        · have h3' : 0 ≤ n := Int32.not_lt.mp h3
          obtain ⟨nn, hn, rfl⟩ : ∃ nn, nn ≤ 16 ∧ n = nI nn := nI_of2 (M := 16) (by decide) h3 h2
          obtain ⟨k, hk, rfl⟩ := in_nI h0 (by decide)
          refine ⟨nI nn, am_wr (am_wr (am_wr σ 68 (upd (σ.1 68) k l)) 69 (upd (σ.1 69) k (nI nn))) 70 (zr (σ.1 70) (16 * k) nn), _, fun Q => ?_, fun Q => s166 hk hn h1, ?_⟩
          · rw [n93]
            simp only [x93_0, x93_1, x93_2, x93_5, x93_8, x93_9, x93_10, x93_13, x93_16, x93_17, x93_19, x93_22, x93_23, x93_24, x93_25, x93_28, x93_30, x93_31, x93_32, x93_35, x93_36, x93_37, x93_38, x93_41, x93_42, Option.toList_some, Option.toList_none, List.cons_append, List.nil_append, cat_i, cat_r, cat_n, cat_f, cs_n, cs_i, cs_r, cs_l, cs_f, Nat.reduceAdd, Nat.reduceLeDiff, Nat.zero_le, if_true, if_false, true_or, or_true, am_wr_at, Nat.reduceEqDiff, not_true_eq_false, not_false_eq_true, i_one, ite_not, bI_z, bI_nz, bI_t, bI_f, bI_or, Bool.false_eq_true, Bool.true_eq_false, reduceCtorEq, lt1, lt2, lt3, lt4, lt5, lt10, lt12, lt16, lt100, lt1000, bt1, bt2, bt3, bt4, bt5, bt10, bt12, bt16, bt100, bt1000, bt6, bt25, bt100000, s97, s22 hk hn, h0, h1, h2, h2', h3, h3']
          · refine Inv_sh hI (fun k q => ?_) ?_
            · rw [am_wr_ne (by omega), am_wr_ne (by omega), am_wr_ne (by omega), am_wr_ne (by omega), am_wr_ne (by omega), am_wr_ne (by omega)]
            · intro k' hk'
              obtain ⟨p1, p2, p3, p4, p5⟩ := hI.2.2.2.1 k' hk'
              simp only [am_wr_at, upd_at, Nat.reduceEqDiff, if_true, if_false]
              by_cases e : k' = k
              · subst e
                simp only [if_true]
                have hc : (nI nn).toNatClampNeg = nn := nI_clamp (by omega)
                have h1r := inR h1
                refine ⟨trivial, ⟨by have := h1r.1; omega, by have := h1r.2; omega⟩, trivial, ?_, fun j hj => ?_⟩
                · rw [rg, nI_toInt (by omega)]
                  omega
                · rw [hc] at hj
                  simp only [zr]
                  rw [if_pos (by omega), if_pos (by omega)]
              · simp only [e, if_false]
                refine ⟨p1, p2, p3, p4, fun j hj => ?_⟩
                have hj16 : j < 16 := by
                  obtain ⟨q, h4, h5⟩ := rg_nI (n := 16) (by decide) p4
                  rw [h5, nI_clamp (by omega)] at hj
                  omega
                simp only [zr]
                rw [if_neg (by omega), if_neg (by omega)]
                exact p5 j hj
      · have h2' : 16 < n := Int32.not_le.mp h2
        exact ⟨-1, σ, σ, fun Q => by rw [n93]; simp only [x93_0, x93_1, x93_2, x93_5, x93_8, x93_9, x93_10, x93_13, x93_16, x93_17, x93_19, x93_22, x93_23, x93_24, x93_25, x93_28, x93_30, x93_31, x93_32, x93_35, x93_36, x93_37, x93_38, x93_41, x93_42, Option.toList_some, Option.toList_none, List.cons_append, List.nil_append, cat_i, cat_r, cat_n, cat_f, cs_n, cs_i, cs_r, cs_l, cs_f, Nat.reduceAdd, Nat.reduceLeDiff, Nat.zero_le, if_true, if_false, true_or, or_true, am_wr_at, Nat.reduceEqDiff, not_true_eq_false, not_false_eq_true, i_one, ite_not, bI_z, bI_nz, bI_t, bI_f, bI_or, Bool.false_eq_true, Bool.true_eq_false, reduceCtorEq, lt1, lt2, lt3, lt4, lt5, lt10, lt12, lt16, lt100, lt1000, bt1, bt2, bt3, bt4, bt5, bt10, bt12, bt16, bt100, bt1000, bt6, bt25, bt100000, s97, h0, h1, h2, h2'], fun Q => by rw [n166]; simp only [x166_0, x166_1, x166_4, x166_7, x166_8, x166_11, x166_14, x166_15, x166_17, x166_20, x166_21, x166_22, x166_23, x166_26, x166_28, x166_29, x166_30, x166_33, x166_34, x166_35, x166_36, x166_37, x166_40, x166_41, x166_42, x166_43, x166_44, Option.toList_some, Option.toList_none, List.cons_append, List.nil_append, cat_i, cat_r, cat_n, cat_f, cs_n, cs_i, cs_r, cs_l, cs_f, Nat.reduceAdd, Nat.reduceLeDiff, Nat.zero_le, if_true, if_false, true_or, or_true, am_wr_at, Nat.reduceEqDiff, not_true_eq_false, not_false_eq_true, i_one, ite_not, bI_z, bI_nz, bI_t, bI_f, bI_or, Bool.false_eq_true, Bool.true_eq_false, reduceCtorEq, lt1, lt2, lt3, lt4, lt5, lt10, lt12, lt16, lt100, lt1000, bt1, bt2, bt3, bt4, bt5, bt10, bt12, bt16, bt100, bt1000, bt6, bt25, bt100000, s162, s163, h0, h1, h2, h2'], hI⟩
    · have h1 : am_in l 3 = false := by simpa using h1
      exact ⟨-1, σ, σ, fun Q => by rw [n93]; simp only [x93_0, x93_1, x93_2, x93_5, x93_8, x93_9, x93_10, x93_13, x93_16, x93_17, x93_19, x93_22, x93_23, x93_24, x93_25, x93_28, x93_30, x93_31, x93_32, x93_35, x93_36, x93_37, x93_38, x93_41, x93_42, Option.toList_some, Option.toList_none, List.cons_append, List.nil_append, cat_i, cat_r, cat_n, cat_f, cs_n, cs_i, cs_r, cs_l, cs_f, Nat.reduceAdd, Nat.reduceLeDiff, Nat.zero_le, if_true, if_false, true_or, or_true, am_wr_at, Nat.reduceEqDiff, not_true_eq_false, not_false_eq_true, i_one, ite_not, bI_z, bI_nz, bI_t, bI_f, bI_or, Bool.false_eq_true, Bool.true_eq_false, reduceCtorEq, lt1, lt2, lt3, lt4, lt5, lt10, lt12, lt16, lt100, lt1000, bt1, bt2, bt3, bt4, bt5, bt10, bt12, bt16, bt100, bt1000, bt6, bt25, bt100000, s97, h0, h1], fun Q => by rw [n166]; simp only [x166_0, x166_1, x166_4, x166_7, x166_8, x166_11, x166_14, x166_15, x166_17, x166_20, x166_21, x166_22, x166_23, x166_26, x166_28, x166_29, x166_30, x166_33, x166_34, x166_35, x166_36, x166_37, x166_40, x166_41, x166_42, x166_43, x166_44, Option.toList_some, Option.toList_none, List.cons_append, List.nil_append, cat_i, cat_r, cat_n, cat_f, cs_n, cs_i, cs_r, cs_l, cs_f, Nat.reduceAdd, Nat.reduceLeDiff, Nat.zero_le, if_true, if_false, true_or, or_true, am_wr_at, Nat.reduceEqDiff, not_true_eq_false, not_false_eq_true, i_one, ite_not, bI_z, bI_nz, bI_t, bI_f, bI_or, Bool.false_eq_true, Bool.true_eq_false, reduceCtorEq, lt1, lt2, lt3, lt4, lt5, lt10, lt12, lt16, lt100, lt1000, bt1, bt2, bt3, bt4, bt5, bt10, bt12, bt16, bt100, bt1000, bt6, bt25, bt100000, s162, s163, h0, h1], hI⟩
  · have h0 : am_in w 4 = false := by simpa using h0
    exact ⟨-1, σ, σ, fun Q => by rw [n93]; simp only [x93_0, x93_1, x93_2, x93_5, x93_8, x93_9, x93_10, x93_13, x93_16, x93_17, x93_19, x93_22, x93_23, x93_24, x93_25, x93_28, x93_30, x93_31, x93_32, x93_35, x93_36, x93_37, x93_38, x93_41, x93_42, Option.toList_some, Option.toList_none, List.cons_append, List.nil_append, cat_i, cat_r, cat_n, cat_f, cs_n, cs_i, cs_r, cs_l, cs_f, Nat.reduceAdd, Nat.reduceLeDiff, Nat.zero_le, if_true, if_false, true_or, or_true, am_wr_at, Nat.reduceEqDiff, not_true_eq_false, not_false_eq_true, i_one, ite_not, bI_z, bI_nz, bI_t, bI_f, bI_or, Bool.false_eq_true, Bool.true_eq_false, reduceCtorEq, lt1, lt2, lt3, lt4, lt5, lt10, lt12, lt16, lt100, lt1000, bt1, bt2, bt3, bt4, bt5, bt10, bt12, bt16, bt100, bt1000, bt6, bt25, bt100000, s97, h0], fun Q => by rw [n166]; simp only [x166_0, x166_1, x166_4, x166_7, x166_8, x166_11, x166_14, x166_15, x166_17, x166_20, x166_21, x166_22, x166_23, x166_26, x166_28, x166_29, x166_30, x166_33, x166_34, x166_35, x166_36, x166_37, x166_40, x166_41, x166_42, x166_43, x166_44, Option.toList_some, Option.toList_none, List.cons_append, List.nil_append, cat_i, cat_r, cat_n, cat_f, cs_n, cs_i, cs_r, cs_l, cs_f, Nat.reduceAdd, Nat.reduceLeDiff, Nat.zero_le, if_true, if_false, true_or, or_true, am_wr_at, Nat.reduceEqDiff, not_true_eq_false, not_false_eq_true, i_one, ite_not, bI_z, bI_nz, bI_t, bI_f, bI_or, Bool.false_eq_true, Bool.true_eq_false, reduceCtorEq, lt1, lt2, lt3, lt4, lt5, lt10, lt12, lt16, lt100, lt1000, bt1, bt2, bt3, bt4, bt5, bt10, bt12, bt16, bt100, bt1000, bt6, bt25, bt100000, s162, s163, h0], hI⟩
end I46
