/-! SIMULATIONS: told, cover -/
/-- the covers' rows get one more -/
def vcv (V : Nat → Nat → Int32) (n : Nat) (x y z c : Int32) : Nat → Nat → Int32 := fun i j => if i = 9 ∧ j = 2 then nI (n + 1) else if i = 10 ∧ j = n then x else if i = 11 ∧ j = n then y else if i = 12 ∧ j = n then z else if i = 13 ∧ j = n then c else V i j
theorem row1 {n j : Nat} {f : Nat → Int32} {x : Int32} : (if j < n + 1 then (if j = n then x else f j) else 0) = (if j = n then x else if j < n then f j else 0) := by
  by_cases h : j = n
  · subst h; simp
  · by_cases q : j < n
    · simp [h, q, show j < n + 1 by omega]
    · simp [h, q, show ¬ j < n + 1 by omega]
theorem cV_cv {σ τ : am_S} {a n : Nat} {x y z c : Int32} (hn : σ.1 (a + 11) 4 = nI n) (hl : n < 8) (h1 : ∀ k, (k = a + 11 ∨ k = a + 12 ∨ k = a + 13 ∨ k = a + 14 ∨ k = a + 15) ∨ τ.1 k = σ.1 k) (h2 : τ.1 (a + 11) 4 = nI (n + 1)) (h3 : τ.1 (a + 12) = upd (σ.1 (a + 12)) n x) (h4 : τ.1 (a + 13) = upd (σ.1 (a + 13)) n y) (h5 : τ.1 (a + 14) = upd (σ.1 (a + 14)) n z) (h6 : τ.1 (a + 15) = upd (σ.1 (a + 15)) n c) : cV τ a = vcv (cV σ a) n x y z c := by
  have f : ∀ k, (k < 11 ∨ 15 < k) → τ.1 (a + k) = σ.1 (a + k) := by
    intro k q1
    rcases h1 (a + k) with q | q
    · omega
    · exact q
  have f0 : τ.1 a = σ.1 a := f 0 (by omega)
  have c1 : (nI n).toNatClampNeg = n := nI_clamp (by omega)
  have c2 : (nI (n + 1)).toNatClampNeg = n + 1 := nI_clamp (by omega)
  funext i j
  unfold vcv cV
  simp only [f 2 (by omega), f 3 (by omega), f 4 (by omega), f 5 (by omega), f 6 (by omega), f 7 (by omega), f 8 (by omega), f 9 (by omega), f 10 (by omega), f 16 (by omega), f 17 (by omega), f 18 (by omega), f 19 (by omega), f0, h2, h3, h4, h5, h6, hn, c1, c2, upd_at, row1]
  by_cases e9 : i = 9
  · subst e9
    by_cases e3 : j = 2
    · subst e3; simp
    · simp [e3]
      split <;> first | rfl | simp_all
  · by_cases e10 : i = 10
    · subst e10; simp
    · by_cases e11 : i = 11
      · subst e11; simp
      · by_cases e12 : i = 12
        · subst e12; simp
        · by_cases e13 : i = 13
          · subst e13; simp
          · simp [e9, e10, e11, e12, e13]
            split <;> first | rfl | simp_all
theorem mV_cv {σ τ : am_S} {n : Nat} {x y z c : Int32} (hn : σ.1 71 16 = nI n) (hl : n < 8) (h1 : ∀ k, (k = 71 ∨ k = 81) ∨ τ.1 k = σ.1 k) (h0 : τ.1 71 5 = σ.1 71 5 ∧ τ.1 71 7 = σ.1 71 7 ∧ τ.1 71 19 = σ.1 71 19) (h2 : τ.1 71 16 = nI (n + 1)) (h3 : τ.1 81 = upd (upd (upd (upd (σ.1 81) (4 * n) x) (4 * n + 1) y) (4 * n + 2) z) (4 * n + 3) c) : mV τ = vcv (mV σ) n x y z c := by
  have f : ∀ k, k ≠ 71 → k ≠ 81 → τ.1 k = σ.1 k := by
    intro k q1 q2
    rcases h1 k with q | q
    · omega
    · exact q
  have c1 : (nI n).toNatClampNeg = n := nI_clamp (by omega)
  have c2 : (nI (n + 1)).toNatClampNeg = n + 1 := nI_clamp (by omega)
  have g0 : ∀ j, τ.1 81 (4 * j) = if j = n then x else σ.1 81 (4 * j) := by
    intro j
    rw [h3]; simp only [upd_at]
    rw [if_neg (by omega), if_neg (by omega), if_neg (by omega)]
    by_cases q : j = n
    · simp [q]
    · rw [if_neg (by omega), if_neg q]
  have g1 : ∀ j, τ.1 81 (4 * j + 1) = if j = n then y else σ.1 81 (4 * j + 1) := by
    intro j
    rw [h3]; simp only [upd_at]
    rw [if_neg (by omega), if_neg (by omega)]
    by_cases q : j = n <;> simp [q]
    rw [if_neg (by omega), if_neg (by omega)]
  have g2 : ∀ j, τ.1 81 (4 * j + 2) = if j = n then z else σ.1 81 (4 * j + 2) := by
    intro j
    rw [h3]; simp only [upd_at]
    rw [if_neg (by omega)]
    by_cases q : j = n <;> simp [q]
    rw [if_neg (by omega), if_neg (by omega), if_neg (by omega)]
  have g3 : ∀ j, τ.1 81 (4 * j + 3) = if j = n then c else σ.1 81 (4 * j + 3) := by
    intro j
    rw [h3]; simp only [upd_at]
    by_cases q : j = n <;> simp [q]
    rw [if_neg (by omega), if_neg (by omega), if_neg (by omega), if_neg (by omega)]
  funext i j
  unfold vcv mV
  simp only [g0, g1, g2, g3]
  have r1 : ∀ (f : Nat → Int32) (x : Int32), (if j < n + 1 then (if j = n then x else f j) else 0) = (if j = n then x else if j < n then f j else 0) := fun f x => row1
  have q0 := r1 (fun j => σ.1 81 (4 * j)) x
  have q1 := r1 (fun j => σ.1 81 (4 * j + 1)) y
  have q2 := r1 (fun j => σ.1 81 (4 * j + 2)) z
  have q3 := r1 (fun j => σ.1 81 (4 * j + 3)) c
  simp only [f 72 (by decide) (by decide), f 73 (by decide) (by decide), f 74 (by decide) (by decide), f 75 (by decide) (by decide), f 76 (by decide) (by decide), f 77 (by decide) (by decide), f 78 (by decide) (by decide), f 83 (by decide) (by decide), f 84 (by decide) (by decide), h0.1, h0.2.1, h0.2.2, h2, hn, c1, c2, q0, q1, q2, q3]
  by_cases e9 : i = 9
  · subst e9
    by_cases e3 : j = 2
    · subst e3; simp
    · simp [e3]
      split <;> first | rfl | simp_all
  · by_cases e10 : i = 10
    · subst e10; simp
    · by_cases e11 : i = 11
      · subst e11; simp
      · by_cases e12 : i = 12
        · subst e12; simp
        · by_cases e13 : i = 13
          · subst e13; simp
          · simp [e9, e10, e11, e12, e13]
            split <;> first | rfl | simp_all
theorem okV_cv {V : Nat → Nat → Int32} {n : Nat} {x y z c : Int32} (h : okV V) (hn : V 9 2 = nI n) (hl : n < 8) (hx : rg x 0 15) (hy : rg y 0 3) (hz : rg z 0 3) (hc : rg c 0 99) : okV (vcv V n x y z c) := by
  obtain ⟨o1, o2, o3, o4, o5, o6, o7, o8, o9⟩ := h
  refine ⟨o1, o2, o3, o4, ?_, o6, o7, fun j hj => ?_, o9⟩
  · show rg (nI (n + 1)) 0 8
    rw [rg, nI_toInt (by omega)]
    omega
  · have hj2 : j < n + 1 := by
      have : (vcv V n x y z c 9 2) = nI (n + 1) := by simp [vcv]
      rw [this, nI_clamp (by omega)] at hj
      exact hj
    by_cases e : j = n
    · subst e
      simp only [vcv]
      simp
      exact ⟨hx, hy, hz, hc⟩
    · have q := o8 j (by rw [hn, nI_clamp (by omega)]; omega)
      simp only [vcv]
      simp [e]
      exact q
section I51
variable {sv : am_V} {h : am_H} {σ : am_S} {Q : Option Value → am_H → Prop} {x y : Int32}
theorem n1c : (1 : Int32).toNatClampNeg = 1 := by decide
/-- told -/
theorem sim6 : ∀ x0 x1 : Int32, SimOK sv Inv 67 117 [.int x0, .int x1] := by
  intro w b σ hI
  obtain ⟨n, hn, a1, a2, a3, a4⟩ := isW hI
  by_cases h0 : am_in w n = true
  · by_cases h1 : am_in b 3 = true
    · obtain ⟨ww, hw, rfl⟩ := in_nI h0 (by omega)
      obtain ⟨bb, hb, rfl⟩ := in_nI h1 (by decide)
      obtain ⟨g1, g2, g3, r1, r2, r3⟩ := rd_w hI hn a1 a2 hw
      have d0 : (nI ww).toNatClampNeg = ww := nI_clamp (by omega)
      have b0 : am_in (nI ww) 12 = true := nI_in' (by omega) (by omega)
      have e5 : σ.1 20 2 = cV σ 1 5 2 := rfl
      have bm0 : am_in (nI (3 * ww)) 24 = true := nI_in' (by omega) (by omega)
      have dm0 : (nI (3 * ww)).toNatClampNeg = 3 * ww := nI_clamp (by omega)
      have bm1 : am_in (nI (3 * ww + 1)) 24 = true := nI_in' (by omega) (by omega)
      have dm1 : (nI (3 * ww + 1)).toNatClampNeg = 3 * ww + 1 := nI_clamp (by omega)
      rcases (show bb = 0 ∨ bb = 1 ∨ bb = 2 by omega) with rfl | rfl | rfl
      · have z0 : nI 0 = 0 := nI_0
        have z1 : (0 : Int32) < 2 := by decide
        have z2 : ¬ (2 : Int32) ≤ 0 := by decide
        have z3 : 3 * nI ww + 0 = nI (3 * ww) := ix3 (i := 0)
        refine ⟨σ.1 78 (3 * ww), σ, σ, fun Q => ?_, fun Q => ?_, hI⟩
        · rw [n67]
          simp only [x67_0, x67_1, x67_2, x67_5, x67_8, x67_11, x67_14, x67_17, x67_18, x67_19, x67_22, x67_25, x67_26, x67_27, x67_28, x67_31, x67_32, x67_35, x67_38, x67_41, x67_42, x67_43, x67_44, x67_45, x67_48, x67_51, x67_54, x67_55, x67_56, x67_57, x67_58, x67_59, x67_62, x67_63, x67_66, x67_67, x67_70, x67_73, x67_75, x67_76, x67_77, x67_80, x67_81, x67_84, x67_85, x67_86, x67_89, x67_92, x67_93, x67_94, x67_97, Option.toList_some, Option.toList_none, List.cons_append, List.nil_append, cat_i, cat_r, cat_n, cat_f, cs_n, cs_i, cs_r, cs_l, cs_f, Nat.reduceAdd, Nat.reduceLeDiff, Nat.zero_le, if_true, if_false, true_or, or_true, am_wr_at, Nat.reduceEqDiff, not_true_eq_false, not_false_eq_true, i_one, ite_not, bI_z, bI_nz, bI_t, bI_f, bI_or, Bool.false_eq_true, Bool.true_eq_false, reduceCtorEq, lt1, lt2, lt3, lt4, lt5, lt10, lt12, lt16, lt100, lt1000, bt1, bt2, bt3, bt4, bt5, bt10, bt12, bt16, bt100, bt1000, bt6, bt25, bt100000, st1, s97, a1, a3, h0, iz3, b0, d0, lc9, g1, z0]
        · rw [n117]
          simp only [x117_0, x117_1, x117_2, x117_5, x117_8, x117_9, x117_10, x117_11, x117_14, x117_17, x117_20, x117_21, x117_22, x117_23, x117_24, x117_27, x117_28, x117_31, x117_32, x117_33, x117_34, x117_35, x117_36, x117_37, x117_40, x117_41, x117_42, x117_44, x117_47, Option.toList_some, Option.toList_none, List.cons_append, List.nil_append, cat_i, cat_r, cat_n, cat_f, cs_n, cs_i, cs_r, cs_l, cs_f, Nat.reduceAdd, Nat.reduceLeDiff, Nat.zero_le, if_true, if_false, true_or, or_true, am_wr_at, Nat.reduceEqDiff, not_true_eq_false, not_false_eq_true, i_one, ite_not, bI_z, bI_nz, bI_t, bI_f, bI_or, Bool.false_eq_true, Bool.true_eq_false, reduceCtorEq, lt1, lt2, lt3, lt4, lt5, lt10, lt12, lt16, lt100, lt1000, bt1, bt2, bt3, bt4, bt5, bt10, bt12, bt16, bt100, bt1000, bt6, bt25, bt100000, s104, s108, a2, a4, h0, iz3, z0, z1, z2, z3, bm0, dm0, lc78]
      · have z0 : nI 1 = 1 := rfl
        have z1 : (1 : Int32) < 2 := by decide
        have z2 : ¬ (2 : Int32) ≤ 1 := by decide
        refine ⟨σ.1 78 (3 * ww + 1), σ, σ, fun Q => ?_, fun Q => ?_, hI⟩
        · rw [n67]
          simp only [x67_0, x67_1, x67_2, x67_5, x67_8, x67_11, x67_14, x67_17, x67_18, x67_19, x67_22, x67_25, x67_26, x67_27, x67_28, x67_31, x67_32, x67_35, x67_38, x67_41, x67_42, x67_43, x67_44, x67_45, x67_48, x67_51, x67_54, x67_55, x67_56, x67_57, x67_58, x67_59, x67_62, x67_63, x67_66, x67_67, x67_70, x67_73, x67_75, x67_76, x67_77, x67_80, x67_81, x67_84, x67_85, x67_86, x67_89, x67_92, x67_93, x67_94, x67_97, Option.toList_some, Option.toList_none, List.cons_append, List.nil_append, cat_i, cat_r, cat_n, cat_f, cs_n, cs_i, cs_r, cs_l, cs_f, Nat.reduceAdd, Nat.reduceLeDiff, Nat.zero_le, if_true, if_false, true_or, or_true, am_wr_at, Nat.reduceEqDiff, not_true_eq_false, not_false_eq_true, i_one, ite_not, bI_z, bI_nz, bI_t, bI_f, bI_or, Bool.false_eq_true, Bool.true_eq_false, reduceCtorEq, lt1, lt2, lt3, lt4, lt5, lt10, lt12, lt16, lt100, lt1000, bt1, bt2, bt3, bt4, bt5, bt10, bt12, bt16, bt100, bt1000, bt6, bt25, bt100000, st1, s97, a1, a3, h0, i13, b0, d0, lc10, g2, z0]
        · rw [n117]
          simp only [x117_0, x117_1, x117_2, x117_5, x117_8, x117_9, x117_10, x117_11, x117_14, x117_17, x117_20, x117_21, x117_22, x117_23, x117_24, x117_27, x117_28, x117_31, x117_32, x117_33, x117_34, x117_35, x117_36, x117_37, x117_40, x117_41, x117_42, x117_44, x117_47, Option.toList_some, Option.toList_none, List.cons_append, List.nil_append, cat_i, cat_r, cat_n, cat_f, cs_n, cs_i, cs_r, cs_l, cs_f, Nat.reduceAdd, Nat.reduceLeDiff, Nat.zero_le, if_true, if_false, true_or, or_true, am_wr_at, Nat.reduceEqDiff, not_true_eq_false, not_false_eq_true, i_one, ite_not, bI_z, bI_nz, bI_t, bI_f, bI_or, Bool.false_eq_true, Bool.true_eq_false, reduceCtorEq, lt1, lt2, lt3, lt4, lt5, lt10, lt12, lt16, lt100, lt1000, bt1, bt2, bt3, bt4, bt5, bt10, bt12, bt16, bt100, bt1000, bt6, bt25, bt100000, s104, s108, a2, a4, h0, i13, z0, z1, z2, ix31, bm1, dm1, lc78]
      · have z0 : nI 2 = 2 := rfl
        have z1 : ¬ (2 : Int32) < 2 := by decide
        have z2 : (2 : Int32) ≤ 2 := by decide
        have z3 : am_in 2 3 = true := by decide
        have z4 : ¬ (2 : Int32) = 0 := by decide
        have z5 : ¬ (2 : Int32) = 1 := by decide
        have k1 := fun (c : Bool) Q => s16 (sv := sv) (σ := σ) (Q := Q) (child := c) st1 (by decide : 15 < 16)
        have k2 := fun Q => s133 (sv := sv) (Q := Q) hI hn a1 a2 hw (by decide : 15 < 16)
        simp only [Nat.reduceAdd, nI15] at k1 k2
        refine ⟨heedF (mV σ) (decide (σ.1 78 (3 * ww + 1) = 2)) 16, σ, σ, fun Q => ?_, fun Q => ?_, hI⟩
        · rw [n67]
          by_cases hk : σ.1 78 (3 * ww + 1) = 2
          · have k3 := k1 true
            simp only [bI_t] at k3
            simp only [x67_0, x67_1, x67_2, x67_5, x67_8, x67_11, x67_14, x67_17, x67_18, x67_19, x67_22, x67_25, x67_26, x67_27, x67_28, x67_31, x67_32, x67_35, x67_38, x67_41, x67_42, x67_43, x67_44, x67_45, x67_48, x67_51, x67_54, x67_55, x67_56, x67_57, x67_58, x67_59, x67_62, x67_63, x67_66, x67_67, x67_70, x67_73, x67_75, x67_76, x67_77, x67_80, x67_81, x67_84, x67_85, x67_86, x67_89, x67_92, x67_93, x67_94, x67_97, Option.toList_some, Option.toList_none, List.cons_append, List.nil_append, cat_i, cat_r, cat_n, cat_f, cs_n, cs_i, cs_r, cs_l, cs_f, Nat.reduceAdd, Nat.reduceLeDiff, Nat.zero_le, if_true, if_false, true_or, or_true, am_wr_at, Nat.reduceEqDiff, not_true_eq_false, not_false_eq_true, i_one, ite_not, bI_z, bI_nz, bI_t, bI_f, bI_or, Bool.false_eq_true, Bool.true_eq_false, reduceCtorEq, lt1, lt2, lt3, lt4, lt5, lt10, lt12, lt16, lt100, lt1000, bt1, bt2, bt3, bt4, bt5, bt10, bt12, bt16, bt100, bt1000, bt6, bt25, bt100000, st1, s97, a1, a3, h0, z0, z3, z4, z5, b0, d0, lc10, lc20, t25, n2c, g2, hk, e5, k3, decide_true]
            rw [hI.1]
          · have k3 := k1 false
            simp only [bI_f] at k3
            simp only [x67_0, x67_1, x67_2, x67_5, x67_8, x67_11, x67_14, x67_17, x67_18, x67_19, x67_22, x67_25, x67_26, x67_27, x67_28, x67_31, x67_32, x67_35, x67_38, x67_41, x67_42, x67_43, x67_44, x67_45, x67_48, x67_51, x67_54, x67_55, x67_56, x67_57, x67_58, x67_59, x67_62, x67_63, x67_66, x67_67, x67_70, x67_73, x67_75, x67_76, x67_77, x67_80, x67_81, x67_84, x67_85, x67_86, x67_89, x67_92, x67_93, x67_94, x67_97, Option.toList_some, Option.toList_none, List.cons_append, List.nil_append, cat_i, cat_r, cat_n, cat_f, cs_n, cs_i, cs_r, cs_l, cs_f, Nat.reduceAdd, Nat.reduceLeDiff, Nat.zero_le, if_true, if_false, true_or, or_true, am_wr_at, Nat.reduceEqDiff, not_true_eq_false, not_false_eq_true, i_one, ite_not, bI_z, bI_nz, bI_t, bI_f, bI_or, Bool.false_eq_true, Bool.true_eq_false, reduceCtorEq, lt1, lt2, lt3, lt4, lt5, lt10, lt12, lt16, lt100, lt1000, bt1, bt2, bt3, bt4, bt5, bt10, bt12, bt16, bt100, bt1000, bt6, bt25, bt100000, st1, s97, a1, a3, h0, z0, z3, z4, z5, b0, d0, lc10, lc20, t25, n2c, g2, hk, e5, k3, decide_false]
            rw [hI.1]
        · rw [n117]
          simp only [x117_0, x117_1, x117_2, x117_5, x117_8, x117_9, x117_10, x117_11, x117_14, x117_17, x117_20, x117_21, x117_22, x117_23, x117_24, x117_27, x117_28, x117_31, x117_32, x117_33, x117_34, x117_35, x117_36, x117_37, x117_40, x117_41, x117_42, x117_44, x117_47, Option.toList_some, Option.toList_none, List.cons_append, List.nil_append, cat_i, cat_r, cat_n, cat_f, cs_n, cs_i, cs_r, cs_l, cs_f, Nat.reduceAdd, Nat.reduceLeDiff, Nat.zero_le, if_true, if_false, true_or, or_true, am_wr_at, Nat.reduceEqDiff, not_true_eq_false, not_false_eq_true, i_one, ite_not, bI_z, bI_nz, bI_t, bI_f, bI_or, Bool.false_eq_true, Bool.true_eq_false, reduceCtorEq, lt1, lt2, lt3, lt4, lt5, lt10, lt12, lt16, lt100, lt1000, bt1, bt2, bt3, bt4, bt5, bt10, bt12, bt16, bt100, bt1000, bt6, bt25, bt100000, s104, s108, a2, a4, h0, z0, z1, z2, z3, k2]
    · have h1 : am_in b 3 = false := by simpa using h1
      exact ⟨-1, σ, σ, fun Q => by rw [n67]; simp only [x67_0, x67_1, x67_2, x67_5, x67_8, x67_11, x67_14, x67_17, x67_18, x67_19, x67_22, x67_25, x67_26, x67_27, x67_28, x67_31, x67_32, x67_35, x67_38, x67_41, x67_42, x67_43, x67_44, x67_45, x67_48, x67_51, x67_54, x67_55, x67_56, x67_57, x67_58, x67_59, x67_62, x67_63, x67_66, x67_67, x67_70, x67_73, x67_75, x67_76, x67_77, x67_80, x67_81, x67_84, x67_85, x67_86, x67_89, x67_92, x67_93, x67_94, x67_97, Option.toList_some, Option.toList_none, List.cons_append, List.nil_append, cat_i, cat_r, cat_n, cat_f, cs_n, cs_i, cs_r, cs_l, cs_f, Nat.reduceAdd, Nat.reduceLeDiff, Nat.zero_le, if_true, if_false, true_or, or_true, am_wr_at, Nat.reduceEqDiff, not_true_eq_false, not_false_eq_true, i_one, ite_not, bI_z, bI_nz, bI_t, bI_f, bI_or, Bool.false_eq_true, Bool.true_eq_false, reduceCtorEq, lt1, lt2, lt3, lt4, lt5, lt10, lt12, lt16, lt100, lt1000, bt1, bt2, bt3, bt4, bt5, bt10, bt12, bt16, bt100, bt1000, bt6, bt25, bt100000, st1, s97, a1, a3, h0, h1], fun Q => by rw [n117]; simp only [x117_0, x117_1, x117_2, x117_5, x117_8, x117_9, x117_10, x117_11, x117_14, x117_17, x117_20, x117_21, x117_22, x117_23, x117_24, x117_27, x117_28, x117_31, x117_32, x117_33, x117_34, x117_35, x117_36, x117_37, x117_40, x117_41, x117_42, x117_44, x117_47, Option.toList_some, Option.toList_none, List.cons_append, List.nil_append, cat_i, cat_r, cat_n, cat_f, cs_n, cs_i, cs_r, cs_l, cs_f, Nat.reduceAdd, Nat.reduceLeDiff, Nat.zero_le, if_true, if_false, true_or, or_true, am_wr_at, Nat.reduceEqDiff, not_true_eq_false, not_false_eq_true, i_one, ite_not, bI_z, bI_nz, bI_t, bI_f, bI_or, Bool.false_eq_true, Bool.true_eq_false, reduceCtorEq, lt1, lt2, lt3, lt4, lt5, lt10, lt12, lt16, lt100, lt1000, bt1, bt2, bt3, bt4, bt5, bt10, bt12, bt16, bt100, bt1000, bt6, bt25, bt100000, s104, s108, a2, a4, h0, h1], hI⟩
  · have h0 : am_in w n = false := by simpa using h0
    exact ⟨-1, σ, σ, fun Q => by rw [n67]; simp only [x67_0, x67_1, x67_2, x67_5, x67_8, x67_11, x67_14, x67_17, x67_18, x67_19, x67_22, x67_25, x67_26, x67_27, x67_28, x67_31, x67_32, x67_35, x67_38, x67_41, x67_42, x67_43, x67_44, x67_45, x67_48, x67_51, x67_54, x67_55, x67_56, x67_57, x67_58, x67_59, x67_62, x67_63, x67_66, x67_67, x67_70, x67_73, x67_75, x67_76, x67_77, x67_80, x67_81, x67_84, x67_85, x67_86, x67_89, x67_92, x67_93, x67_94, x67_97, Option.toList_some, Option.toList_none, List.cons_append, List.nil_append, cat_i, cat_r, cat_n, cat_f, cs_n, cs_i, cs_r, cs_l, cs_f, Nat.reduceAdd, Nat.reduceLeDiff, Nat.zero_le, if_true, if_false, true_or, or_true, am_wr_at, Nat.reduceEqDiff, not_true_eq_false, not_false_eq_true, i_one, ite_not, bI_z, bI_nz, bI_t, bI_f, bI_or, Bool.false_eq_true, Bool.true_eq_false, reduceCtorEq, lt1, lt2, lt3, lt4, lt5, lt10, lt12, lt16, lt100, lt1000, bt1, bt2, bt3, bt4, bt5, bt10, bt12, bt16, bt100, bt1000, bt6, bt25, bt100000, st1, s97, a1, a3, h0], fun Q => by rw [n117]; simp only [x117_0, x117_1, x117_2, x117_5, x117_8, x117_9, x117_10, x117_11, x117_14, x117_17, x117_20, x117_21, x117_22, x117_23, x117_24, x117_27, x117_28, x117_31, x117_32, x117_33, x117_34, x117_35, x117_36, x117_37, x117_40, x117_41, x117_42, x117_44, x117_47, Option.toList_some, Option.toList_none, List.cons_append, List.nil_append, cat_i, cat_r, cat_n, cat_f, cs_n, cs_i, cs_r, cs_l, cs_f, Nat.reduceAdd, Nat.reduceLeDiff, Nat.zero_le, if_true, if_false, true_or, or_true, am_wr_at, Nat.reduceEqDiff, not_true_eq_false, not_false_eq_true, i_one, ite_not, bI_z, bI_nz, bI_t, bI_f, bI_or, Bool.false_eq_true, Bool.true_eq_false, reduceCtorEq, lt1, lt2, lt3, lt4, lt5, lt10, lt12, lt16, lt100, lt1000, bt1, bt2, bt3, bt4, bt5, bt10, bt12, bt16, bt100, bt1000, bt6, bt25, bt100000, s104, s108, a2, a4, h0], hI⟩
theorem s2 {n : Nat} {x y z c : Int32} (hn : σ.1 12 4 = nI n) (hl : n < 8) : AM sv 2 [.ref 12, .int x, .int y, .int z, .int c] (am_toH σ) Q = Q none (am_toH (am_wr (am_wr (am_wr (am_wr (am_wr σ 13 (upd (σ.1 13) n x)) 14 (upd (σ.1 14) n y)) 15 (upd (σ.1 15) n z)) 16 (upd (σ.1 16) n c)) 12 (upd (σ.1 12) 4 (nI (n + 1))))) := by
  have e1 : ¬ 8 ≤ nI n := nI_ge (b := 8) hl (by decide)
  have e2 : am_in (nI n) 8 = true := nI_in' hl (by omega)
  have e3 : (nI n).toNatClampNeg = n := nI_clamp (by omega)
  rw [n2]
  simp only [x2_0, x2_1, x2_4, x2_6, x2_9, x2_10, x2_13, x2_14, x2_17, x2_18, x2_19, x2_20, x2_23, x2_24, x2_27, x2_28, x2_29, x2_30, x2_33, x2_34, x2_37, x2_38, x2_39, x2_40, x2_43, x2_44, x2_47, x2_49, x2_50, x2_51, x2_52, x2_55, x2_56, x2_57, x2_60, Option.toList_some, Option.toList_none, List.cons_append, List.nil_append, cat_i, cat_r, cat_n, cat_f, cs_n, cs_i, cs_r, cs_l, cs_f, Nat.reduceAdd, Nat.reduceLeDiff, Nat.zero_le, if_true, if_false, true_or, or_true, am_wr_at, Nat.reduceEqDiff, not_true_eq_false, not_false_eq_true, i_one, ite_not, bI_z, bI_nz, bI_t, bI_f, bI_or, Bool.false_eq_true, Bool.true_eq_false, reduceCtorEq, st1, hn, e1, e2, e3, lc13, lc14, lc15, lc16, nI_1]
theorem ix4 {w i : Nat} : 4 * nI w + nI i = nI (4 * w + i) := by
  show nI 4 * nI w + nI i = _
  unfold nI
  rw [← Int32.ofNat_mul, ← Int32.ofNat_add]
theorem ix41 {w : Nat} : 4 * nI w + 1 = nI (4 * w + 1) := ix4 (i := 1)
theorem ix42 {w : Nat} : 4 * nI w + 2 = nI (4 * w + 2) := ix4 (i := 2)
theorem ix43 {w : Nat} : 4 * nI w + 3 = nI (4 * w + 3) := ix4 (i := 3)
theorem ix40 {w : Nat} : 4 * nI w = nI (4 * w) := by
  show nI 4 * nI w = _
  unfold nI
  rw [← Int32.ofNat_mul]
theorem Inv_cv {n : Nat} {x y z c : Int32} (hI : Inv σ) (hn : σ.1 12 4 = nI n) (hl : n < 8) (hx : rg x 0 15) (hy : rg y 0 3) (hz : rg z 0 3) (hc : rg c 0 99) : Inv (am_wr (am_wr (am_wr (am_wr (am_wr (am_wr (am_wr σ 13 (upd (σ.1 13) n x)) 14 (upd (σ.1 14) n y)) 15 (upd (σ.1 15) n z)) 16 (upd (σ.1 16) n c)) 12 (upd (σ.1 12) 4 (nI (n + 1)))) 81 (upd (upd (upd (upd (σ.1 81) (4 * n) x) (4 * n + 1) y) (4 * n + 2) z) (4 * n + 3) c)) 71 (upd (σ.1 71) 16 (nI (n + 1)))) := by
  have e9 : σ.1 12 4 = σ.1 71 16 := congrFun (congrFun hI.1 9) 2
  have hm : σ.1 71 16 = nI n := by rw [← e9]; exact hn
  refine Inv_mk (V := vcv (mV σ) n x y z c) hI ⟨?_, ?_, ?_, ?_, ?_, ?_, ?_, ?_, ?_, ?_, ?_, ?_, ?_, fun k q1 q2 => ?_⟩ ?_ ?_ (okV_cv hI.2.1 hm hl hx hy hz hc)
  iterate 13 (simp only [Option.toList_some, Option.toList_none, List.cons_append, List.nil_append, cat_i, cat_r, cat_n, cat_f, cs_n, cs_i, cs_r, cs_l, cs_f, Nat.reduceAdd, Nat.reduceLeDiff, Nat.zero_le, if_true, if_false, true_or, or_true, am_wr_at, Nat.reduceEqDiff, not_true_eq_false, not_false_eq_true, i_one, ite_not, bI_z, bI_nz, bI_t, bI_f, bI_or, Bool.false_eq_true, Bool.true_eq_false, reduceCtorEq, upd_at])
  · rw [am_wr_ne (by omega), am_wr_ne (by omega), am_wr_ne (by omega), am_wr_ne (by omega), am_wr_ne (by omega), am_wr_ne (by omega), am_wr_ne (by omega)]
  · rw [← hI.1]
    refine (cV_of (σ := am_wr (am_wr (am_wr (am_wr (am_wr σ 13 (upd (σ.1 13) n x)) 14 (upd (σ.1 14) n y)) 15 (upd (σ.1 15) n z)) 16 (upd (σ.1 16) n c)) 12 (upd (σ.1 12) 4 (nI (n + 1)))) (fun k q1 q2 => ?_) ?_).trans (cV_cv (a := 1) hn hl (fun k => ?_) ?_ ?_ ?_ ?_ ?_)
    · rw [am_wr_ne (by omega), am_wr_ne (by omega)]
    · rw [am_wr_ne (by omega), am_wr_ne (by omega)]
    · by_cases q : k = 12 ∨ k = 13 ∨ k = 14 ∨ k = 15 ∨ k = 16
      · exact Or.inl q
      · refine Or.inr ?_
        rw [am_wr_ne (by omega), am_wr_ne (by omega), am_wr_ne (by omega), am_wr_ne (by omega), am_wr_ne (by omega)]
    iterate 5 (simp only [Option.toList_some, Option.toList_none, List.cons_append, List.nil_append, cat_i, cat_r, cat_n, cat_f, cs_n, cs_i, cs_r, cs_l, cs_f, Nat.reduceAdd, Nat.reduceLeDiff, Nat.zero_le, if_true, if_false, true_or, or_true, am_wr_at, Nat.reduceEqDiff, not_true_eq_false, not_false_eq_true, i_one, ite_not, bI_z, bI_nz, bI_t, bI_f, bI_or, Bool.false_eq_true, Bool.true_eq_false, reduceCtorEq, upd_at])
  · have e0 : mV (am_wr (am_wr (am_wr (am_wr (am_wr σ 13 (upd (σ.1 13) n x)) 14 (upd (σ.1 14) n y)) 15 (upd (σ.1 15) n z)) 16 (upd (σ.1 16) n c)) 12 (upd (σ.1 12) 4 (nI (n + 1)))) = mV σ := mV_of (fun k q1 q2 => by rw [am_wr_ne (by omega), am_wr_ne (by omega), am_wr_ne (by omega), am_wr_ne (by omega), am_wr_ne (by omega)]) ⟨by simp only [Option.toList_some, Option.toList_none, List.cons_append, List.nil_append, cat_i, cat_r, cat_n, cat_f, cs_n, cs_i, cs_r, cs_l, cs_f, Nat.reduceAdd, Nat.reduceLeDiff, Nat.zero_le, if_true, if_false, true_or, or_true, am_wr_at, Nat.reduceEqDiff, not_true_eq_false, not_false_eq_true, i_one, ite_not, bI_z, bI_nz, bI_t, bI_f, bI_or, Bool.false_eq_true, Bool.true_eq_false, reduceCtorEq], by simp only [Option.toList_some, Option.toList_none, List.cons_append, List.nil_append, cat_i, cat_r, cat_n, cat_f, cs_n, cs_i, cs_r, cs_l, cs_f, Nat.reduceAdd, Nat.reduceLeDiff, Nat.zero_le, if_true, if_false, true_or, or_true, am_wr_at, Nat.reduceEqDiff, not_true_eq_false, not_false_eq_true, i_one, ite_not, bI_z, bI_nz, bI_t, bI_f, bI_or, Bool.false_eq_true, Bool.true_eq_false, reduceCtorEq], by simp only [Option.toList_some, Option.toList_none, List.cons_append, List.nil_append, cat_i, cat_r, cat_n, cat_f, cs_n, cs_i, cs_r, cs_l, cs_f, Nat.reduceAdd, Nat.reduceLeDiff, Nat.zero_le, if_true, if_false, true_or, or_true, am_wr_at, Nat.reduceEqDiff, not_true_eq_false, not_false_eq_true, i_one, ite_not, bI_z, bI_nz, bI_t, bI_f, bI_or, Bool.false_eq_true, Bool.true_eq_false, reduceCtorEq]⟩ ⟨by simp only [Option.toList_some, Option.toList_none, List.cons_append, List.nil_append, cat_i, cat_r, cat_n, cat_f, cs_n, cs_i, cs_r, cs_l, cs_f, Nat.reduceAdd, Nat.reduceLeDiff, Nat.zero_le, if_true, if_false, true_or, or_true, am_wr_at, Nat.reduceEqDiff, not_true_eq_false, not_false_eq_true, i_one, ite_not, bI_z, bI_nz, bI_t, bI_f, bI_or, Bool.false_eq_true, Bool.true_eq_false, reduceCtorEq], by simp only [Option.toList_some, Option.toList_none, List.cons_append, List.nil_append, cat_i, cat_r, cat_n, cat_f, cs_n, cs_i, cs_r, cs_l, cs_f, Nat.reduceAdd, Nat.reduceLeDiff, Nat.zero_le, if_true, if_false, true_or, or_true, am_wr_at, Nat.reduceEqDiff, not_true_eq_false, not_false_eq_true, i_one, ite_not, bI_z, bI_nz, bI_t, bI_f, bI_or, Bool.false_eq_true, Bool.true_eq_false, reduceCtorEq], by simp only [Option.toList_some, Option.toList_none, List.cons_append, List.nil_append, cat_i, cat_r, cat_n, cat_f, cs_n, cs_i, cs_r, cs_l, cs_f, Nat.reduceAdd, Nat.reduceLeDiff, Nat.zero_le, if_true, if_false, true_or, or_true, am_wr_at, Nat.reduceEqDiff, not_true_eq_false, not_false_eq_true, i_one, ite_not, bI_z, bI_nz, bI_t, bI_f, bI_or, Bool.false_eq_true, Bool.true_eq_false, reduceCtorEq], by simp only [Option.toList_some, Option.toList_none, List.cons_append, List.nil_append, cat_i, cat_r, cat_n, cat_f, cs_n, cs_i, cs_r, cs_l, cs_f, Nat.reduceAdd, Nat.reduceLeDiff, Nat.zero_le, if_true, if_false, true_or, or_true, am_wr_at, Nat.reduceEqDiff, not_true_eq_false, not_false_eq_true, i_one, ite_not, bI_z, bI_nz, bI_t, bI_f, bI_or, Bool.false_eq_true, Bool.true_eq_false, reduceCtorEq]⟩
    rw [← e0]
    refine mV_cv (by simp only [Option.toList_some, Option.toList_none, List.cons_append, List.nil_append, cat_i, cat_r, cat_n, cat_f, cs_n, cs_i, cs_r, cs_l, cs_f, Nat.reduceAdd, Nat.reduceLeDiff, Nat.zero_le, if_true, if_false, true_or, or_true, am_wr_at, Nat.reduceEqDiff, not_true_eq_false, not_false_eq_true, i_one, ite_not, bI_z, bI_nz, bI_t, bI_f, bI_or, Bool.false_eq_true, Bool.true_eq_false, reduceCtorEq]; exact hm) hl (fun k => ?_) ⟨?_, ?_, ?_⟩ ?_ ?_
    · by_cases q : k = 71 ∨ k = 81
      · exact Or.inl q
      · refine Or.inr ?_
        rw [am_wr_ne (by omega), am_wr_ne (by omega)]
    iterate 5 (simp only [Option.toList_some, Option.toList_none, List.cons_append, List.nil_append, cat_i, cat_r, cat_n, cat_f, cs_n, cs_i, cs_r, cs_l, cs_f, Nat.reduceAdd, Nat.reduceLeDiff, Nat.zero_le, if_true, if_false, true_or, or_true, am_wr_at, Nat.reduceEqDiff, not_true_eq_false, not_false_eq_true, i_one, ite_not, bI_z, bI_nz, bI_t, bI_f, bI_or, Bool.false_eq_true, Bool.true_eq_false, reduceCtorEq, upd_at])
end I51
