/-! DOES, BOUGHT -/
def buS (coin cost sees : Int32) (i : Nat) (p : Nat × Int32 × Int32) : Nat × Int32 × Int32 := if coin < cost then p else if sees < p.2.1 then (i, sees, cost) else if sees = p.2.1 then (if p.2.2 ≤ cost then p else (i, sees, cost)) else p
def csE (V : Nat → Nat → Int32) (s : Nat) : Int32 := csF V s (V 9 2).toNatClampNeg
def buF (V : Nat → Nat → Int32) (coin : Int32) : Nat → Nat × Int32 × Int32
  | 0 => (0, saF V 1 16, 0)
  | i + 1 => buS coin (csE V (i + 1)) (lyE V (i + 1)) (i + 1) (buF V coin i)
def buM (V : Nat → Nat → Int32) (coin : Int32) : Nat → Nat × Int32 × Int32
  | 0 => (0, 0, 0)
  | i + 1 => buF V coin i
theorem ly_e0 {V : Nat → Nat → Int32} : lyE V 0 = saF V 1 16 := by unfold lyE; rw [ly_0]
theorem cs_e0 {V : Nat → Nat → Int32} : csE V 0 = 0 := by unfold csE; rw [cs_0]
theorem bu_inv {V : Nat → Nat → Int32} {coin : Int32} : ∀ i, (buF V coin i).1 ≤ i ∧ (buF V coin i).2.1 = lyE V (buF V coin i).1 ∧ (buF V coin i).2.2 = csE V (buF V coin i).1 := by
  intro i
  induction i with
  | zero => exact ⟨Nat.le_refl _, ly_e0.symm, cs_e0.symm⟩
  | succ i ih =>
    have g : ∀ p : Nat × Int32 × Int32, (p = buF V coin i ∨ p = (i + 1, lyE V (i + 1), csE V (i + 1))) → p.1 ≤ i + 1 ∧ p.2.1 = lyE V p.1 ∧ p.2.2 = csE V p.1 := by
      intro p hp
      rcases hp with rfl | rfl
      · exact ⟨by omega, ih.2.1, ih.2.2⟩
      · exact ⟨Nat.le_refl _, rfl, rfl⟩
    apply g
    simp only [buF, buS]
    split
    · exact Or.inl rfl
    · split
      · exact Or.inr rfl
      · split
        · split
          · exact Or.inl rfl
          · exact Or.inr rfl
        · exact Or.inl rfl
theorem p2_le : ∀ n, n ≤ 8 → 2 ^ n ≤ 256 ∧ 1 ≤ 2 ^ n := by decide +kernel
section I70
variable {sv : am_V} {h : am_H} {σ τ ρ : am_S} {Q : Option Value → am_H → Prop} {k kd db x coin : Int32} {a b w o s : Nat} {V W : Nat → Nat → Int32} {v0 v1 v2 v3 : Value} {r : List Value}
/-- does -/
theorem sim19 : ∀ x0 x1 : Int32, SimOK sv Inv 80 145 [.int x0, .int x1] := by
  intro c wh
  refine sim_q (fun V hok => ?_)
  obtain ⟨m, hm, em, cm, a3, a4⟩ := vC hok
  have g8 : ∀ σ, cV σ 1 = V → σ.1 12 4 = nI m := fun σ hV => (rc hV).2.2.1.trans em
  have g7 : ∀ σ, mV σ = V → σ.1 71 16 = nI m := fun σ hV => (rm hV).2.2.1.trans em
  by_cases h0 : am_in c m = true
  · by_cases h1 : am_in wh 2 = true
    · obtain ⟨c, hc, rfl⟩ := in_nI h0 (by omega)
      have o1 := w_one c (by omega)
      have o2 := w_one m hm
      have o3 := w_all m hm
      obtain ⟨o4, o5, o6, o7, o8⟩ := w_rest m hm c hc
      by_cases q : wh = 0
      · have q' : (wh = 0) = True := eq_true q
        refine ⟨saF V 1 16 - lyE V (2 ^ c), fun σ hV => ?_, fun σ hV => ?_⟩
        · obtain ⟨t1, R1, c1⟩ := c32 (sv := sv) st1 hV hok rg11
          obtain ⟨t2, R2, c2⟩ := c55 (sv := sv) ((Cx_cV R1).trans hV) hok o8
          refine ⟨t2, Cf_trans (Cf_1 R1) R2, fun Q => ?_⟩
          rw [n80]
          simp only [x80_0, x80_1, x80_2, x80_5, x80_8, x80_11, x80_14, x80_17, x80_18, x80_19, x80_22, x80_25, x80_27, x80_28, x80_29, x80_30, x80_31, x80_32, x80_33, x80_36, x80_37, x80_40, x80_41, x80_44, x80_45, x80_48, x80_49, x80_52, x80_53, x80_56, x80_57, x80_58, x80_59, x80_60, x80_63, x80_66, x80_69, x80_70, x80_71, x80_72, x80_74, x80_75, x80_78, x80_79, x80_82, x80_84, x80_85, x80_86, x80_89, x80_90, x80_93, x80_94, x80_97, x80_99, x80_102, x80_103, Option.toList_some, Option.toList_none, List.cons_append, List.nil_append, cat_i, cat_r, cat_n, cat_f, cs_n, cs_i, cs_r, cs_l, cs_f, Nat.reduceAdd, Nat.reduceLeDiff, Nat.zero_le, if_true, if_false, true_or, or_true, am_wr_at, Nat.reduceEqDiff, not_true_eq_false, not_false_eq_true, i_one, ite_not, bI_z, bI_nz, bI_t, bI_f, bI_or, Bool.false_eq_true, Bool.true_eq_false, reduceCtorEq, lt1, lt2, lt3, lt4, lt5, lt10, lt12, lt16, lt100, lt1000, bt1, bt2, bt3, bt4, bt5, bt10, bt12, bt16, bt100, bt1000, bt6, bt25, bt100000, st1, s97, g8 σ hV, a3, h0, h1, o1, q', c1, c2]
        · obtain ⟨t1, R1, v1, c1⟩ := m144 (sv := sv) (s := 0) hV hok (by decide)
          obtain ⟨t2, R2, v2, c2⟩ := m144 (sv := sv) v1 hok o8
          rw [nI_0, ly_e0] at c1
          refine ⟨t2, Mf_trans R1 R2, v2, fun Q => ?_⟩
          rw [n145]
          simp only [x145_0, x145_1, x145_2, x145_3, x145_4, x145_7, x145_8, x145_9, x145_10, x145_13, x145_16, x145_17, x145_18, x145_19, x145_20, x145_23, x145_26, x145_28, x145_29, x145_30, x145_31, x145_34, x145_35, x145_36, x145_37, x145_38, x145_39, x145_40, x145_41, x145_43, x145_44, x145_47, x145_48, x145_49, x145_52, x145_53, x145_55, x145_58, x145_59, x145_62, x145_63, x145_64, x145_66, x145_67, x145_68, x145_69, x145_72, x145_73, x145_74, x145_77, x145_78, Option.toList_some, Option.toList_none, List.cons_append, List.nil_append, cat_i, cat_r, cat_n, cat_f, cs_n, cs_i, cs_r, cs_l, cs_f, Nat.reduceAdd, Nat.reduceLeDiff, Nat.zero_le, if_true, if_false, true_or, or_true, am_wr_at, Nat.reduceEqDiff, not_true_eq_false, not_false_eq_true, i_one, ite_not, bI_z, bI_nz, bI_t, bI_f, bI_or, Bool.false_eq_true, Bool.true_eq_false, reduceCtorEq, lt1, lt2, lt3, lt4, lt5, lt10, lt12, lt16, lt100, lt1000, bt1, bt2, bt3, bt4, bt5, bt10, bt12, bt16, bt100, bt1000, bt6, bt25, bt100000, s104, g7 σ hV, a4, h0, h1, o1, o2, o3, q', c1, c2]
      · have q' : (wh = 0) = False := eq_false q
        refine ⟨lyE V (2 ^ m - 1 - 2 ^ c) - lyE V (2 ^ m - 1), fun σ hV => ?_, fun σ hV => ?_⟩
        · obtain ⟨t1, R1, c1⟩ := c55 (sv := sv) hV hok o6
          obtain ⟨t2, R2, c2⟩ := c55 (sv := sv) ((Cf_cV R1).trans hV) hok o7
          refine ⟨t2, Cf_trans R1 R2, fun Q => ?_⟩
          rw [n80]
          simp only [x80_0, x80_1, x80_2, x80_5, x80_8, x80_11, x80_14, x80_17, x80_18, x80_19, x80_22, x80_25, x80_27, x80_28, x80_29, x80_30, x80_31, x80_32, x80_33, x80_36, x80_37, x80_40, x80_41, x80_44, x80_45, x80_48, x80_49, x80_52, x80_53, x80_56, x80_57, x80_58, x80_59, x80_60, x80_63, x80_66, x80_69, x80_70, x80_71, x80_72, x80_74, x80_75, x80_78, x80_79, x80_82, x80_84, x80_85, x80_86, x80_89, x80_90, x80_93, x80_94, x80_97, x80_99, x80_102, x80_103, Option.toList_some, Option.toList_none, List.cons_append, List.nil_append, cat_i, cat_r, cat_n, cat_f, cs_n, cs_i, cs_r, cs_l, cs_f, Nat.reduceAdd, Nat.reduceLeDiff, Nat.zero_le, if_true, if_false, true_or, or_true, am_wr_at, Nat.reduceEqDiff, not_true_eq_false, not_false_eq_true, i_one, ite_not, bI_z, bI_nz, bI_t, bI_f, bI_or, Bool.false_eq_true, Bool.true_eq_false, reduceCtorEq, lt1, lt2, lt3, lt4, lt5, lt10, lt12, lt16, lt100, lt1000, bt1, bt2, bt3, bt4, bt5, bt10, bt12, bt16, bt100, bt1000, bt6, bt25, bt100000, st1, s97, g8 σ hV, a3, h0, h1, o1, o2, o3, o4, q', c1, c2]
        · obtain ⟨t1, R1, v1, c1⟩ := m144 (sv := sv) hV hok o6
          obtain ⟨t2, R2, v2, c2⟩ := m144 (sv := sv) v1 hok o7
          refine ⟨t2, Mf_trans R1 R2, v2, fun Q => ?_⟩
          rw [n145]
          simp only [x145_0, x145_1, x145_2, x145_3, x145_4, x145_7, x145_8, x145_9, x145_10, x145_13, x145_16, x145_17, x145_18, x145_19, x145_20, x145_23, x145_26, x145_28, x145_29, x145_30, x145_31, x145_34, x145_35, x145_36, x145_37, x145_38, x145_39, x145_40, x145_41, x145_43, x145_44, x145_47, x145_48, x145_49, x145_52, x145_53, x145_55, x145_58, x145_59, x145_62, x145_63, x145_64, x145_66, x145_67, x145_68, x145_69, x145_72, x145_73, x145_74, x145_77, x145_78, Option.toList_some, Option.toList_none, List.cons_append, List.nil_append, cat_i, cat_r, cat_n, cat_f, cs_n, cs_i, cs_r, cs_l, cs_f, Nat.reduceAdd, Nat.reduceLeDiff, Nat.zero_le, if_true, if_false, true_or, or_true, am_wr_at, Nat.reduceEqDiff, not_true_eq_false, not_false_eq_true, i_one, ite_not, bI_z, bI_nz, bI_t, bI_f, bI_or, Bool.false_eq_true, Bool.true_eq_false, reduceCtorEq, lt1, lt2, lt3, lt4, lt5, lt10, lt12, lt16, lt100, lt1000, bt1, bt2, bt3, bt4, bt5, bt10, bt12, bt16, bt100, bt1000, bt6, bt25, bt100000, s104, g7 σ hV, a4, h0, h1, o1, o2, o3, o5, q', c1, c2]
    · have h1 : am_in wh 2 = false := by simpa using h1
      exact ⟨-100001, fun σ hV => ⟨σ, Cf_refl, fun Q => by rw [n80]; simp only [x80_0, x80_1, x80_2, x80_5, x80_8, x80_11, x80_14, x80_17, x80_18, x80_19, x80_22, x80_25, x80_27, x80_28, x80_29, x80_30, x80_31, x80_32, x80_33, x80_36, x80_37, x80_40, x80_41, x80_44, x80_45, x80_48, x80_49, x80_52, x80_53, x80_56, x80_57, x80_58, x80_59, x80_60, x80_63, x80_66, x80_69, x80_70, x80_71, x80_72, x80_74, x80_75, x80_78, x80_79, x80_82, x80_84, x80_85, x80_86, x80_89, x80_90, x80_93, x80_94, x80_97, x80_99, x80_102, x80_103, Option.toList_some, Option.toList_none, List.cons_append, List.nil_append, cat_i, cat_r, cat_n, cat_f, cs_n, cs_i, cs_r, cs_l, cs_f, Nat.reduceAdd, Nat.reduceLeDiff, Nat.zero_le, if_true, if_false, true_or, or_true, am_wr_at, Nat.reduceEqDiff, not_true_eq_false, not_false_eq_true, i_one, ite_not, bI_z, bI_nz, bI_t, bI_f, bI_or, Bool.false_eq_true, Bool.true_eq_false, reduceCtorEq, lt1, lt2, lt3, lt4, lt5, lt10, lt12, lt16, lt100, lt1000, bt1, bt2, bt3, bt4, bt5, bt10, bt12, bt16, bt100, bt1000, bt6, bt25, bt100000, st1, s97, g8 σ hV, a3, h0, h1]⟩, fun σ hV => ⟨σ, Mf_refl, hV, fun Q => by rw [n145]; simp only [x145_0, x145_1, x145_2, x145_3, x145_4, x145_7, x145_8, x145_9, x145_10, x145_13, x145_16, x145_17, x145_18, x145_19, x145_20, x145_23, x145_26, x145_28, x145_29, x145_30, x145_31, x145_34, x145_35, x145_36, x145_37, x145_38, x145_39, x145_40, x145_41, x145_43, x145_44, x145_47, x145_48, x145_49, x145_52, x145_53, x145_55, x145_58, x145_59, x145_62, x145_63, x145_64, x145_66, x145_67, x145_68, x145_69, x145_72, x145_73, x145_74, x145_77, x145_78, Option.toList_some, Option.toList_none, List.cons_append, List.nil_append, cat_i, cat_r, cat_n, cat_f, cs_n, cs_i, cs_r, cs_l, cs_f, Nat.reduceAdd, Nat.reduceLeDiff, Nat.zero_le, if_true, if_false, true_or, or_true, am_wr_at, Nat.reduceEqDiff, not_true_eq_false, not_false_eq_true, i_one, ite_not, bI_z, bI_nz, bI_t, bI_f, bI_or, Bool.false_eq_true, Bool.true_eq_false, reduceCtorEq, lt1, lt2, lt3, lt4, lt5, lt10, lt12, lt16, lt100, lt1000, bt1, bt2, bt3, bt4, bt5, bt10, bt12, bt16, bt100, bt1000, bt6, bt25, bt100000, s104, g7 σ hV, a4, h0, h1]⟩⟩
  · have h0 : am_in c m = false := by simpa using h0
    exact ⟨-100001, fun σ hV => ⟨σ, Cf_refl, fun Q => by rw [n80]; simp only [x80_0, x80_1, x80_2, x80_5, x80_8, x80_11, x80_14, x80_17, x80_18, x80_19, x80_22, x80_25, x80_27, x80_28, x80_29, x80_30, x80_31, x80_32, x80_33, x80_36, x80_37, x80_40, x80_41, x80_44, x80_45, x80_48, x80_49, x80_52, x80_53, x80_56, x80_57, x80_58, x80_59, x80_60, x80_63, x80_66, x80_69, x80_70, x80_71, x80_72, x80_74, x80_75, x80_78, x80_79, x80_82, x80_84, x80_85, x80_86, x80_89, x80_90, x80_93, x80_94, x80_97, x80_99, x80_102, x80_103, Option.toList_some, Option.toList_none, List.cons_append, List.nil_append, cat_i, cat_r, cat_n, cat_f, cs_n, cs_i, cs_r, cs_l, cs_f, Nat.reduceAdd, Nat.reduceLeDiff, Nat.zero_le, if_true, if_false, true_or, or_true, am_wr_at, Nat.reduceEqDiff, not_true_eq_false, not_false_eq_true, i_one, ite_not, bI_z, bI_nz, bI_t, bI_f, bI_or, Bool.false_eq_true, Bool.true_eq_false, reduceCtorEq, lt1, lt2, lt3, lt4, lt5, lt10, lt12, lt16, lt100, lt1000, bt1, bt2, bt3, bt4, bt5, bt10, bt12, bt16, bt100, bt1000, bt6, bt25, bt100000, st1, s97, g8 σ hV, a3, h0]⟩, fun σ hV => ⟨σ, Mf_refl, hV, fun Q => by rw [n145]; simp only [x145_0, x145_1, x145_2, x145_3, x145_4, x145_7, x145_8, x145_9, x145_10, x145_13, x145_16, x145_17, x145_18, x145_19, x145_20, x145_23, x145_26, x145_28, x145_29, x145_30, x145_31, x145_34, x145_35, x145_36, x145_37, x145_38, x145_39, x145_40, x145_41, x145_43, x145_44, x145_47, x145_48, x145_49, x145_52, x145_53, x145_55, x145_58, x145_59, x145_62, x145_63, x145_64, x145_66, x145_67, x145_68, x145_69, x145_72, x145_73, x145_74, x145_77, x145_78, Option.toList_some, Option.toList_none, List.cons_append, List.nil_append, cat_i, cat_r, cat_n, cat_f, cs_n, cs_i, cs_r, cs_l, cs_f, Nat.reduceAdd, Nat.reduceLeDiff, Nat.zero_le, if_true, if_false, true_or, or_true, am_wr_at, Nat.reduceEqDiff, not_true_eq_false, not_false_eq_true, i_one, ite_not, bI_z, bI_nz, bI_t, bI_f, bI_or, Bool.false_eq_true, Bool.true_eq_false, reduceCtorEq, lt1, lt2, lt3, lt4, lt5, lt10, lt12, lt16, lt100, lt1000, bt1, bt2, bt3, bt4, bt5, bt10, bt12, bt16, bt100, bt1000, bt6, bt25, bt100000, s104, g7 σ hV, a4, h0]⟩⟩
theorem c56 (hV : cV σ 1 = V) (hok : okV V) : ∃ τ, Cf σ τ ∧ ∀ Q, AM sv 56 [.ref 43, .ref 1, .int coin] (am_toH σ) Q = Q (some (.int (nI (buF V coin (2 ^ (V 9 2).toNatClampNeg - 1)).1))) (am_toH τ) := by
  obtain ⟨m, hm, em, cm, -⟩ := vC hok
  obtain ⟨pm, pm1⟩ := p2_le m hm
  have o2 := w_one m hm
  obtain ⟨t0, R0, c0⟩ := c32 (sv := sv) st1 hV hok rg11
  obtain ⟨⟨τ, v7, v8⟩, R, e⟩ := am_upG (N := 2 ^ m - 1) (s := ((t0, .null, .null) : am_S × Value × Value)) (R := fun _ t => Cf σ t.1) (F := fun i t Q => AW sv 56 15 [.ref 43, .ref 1, .int coin, .int (nI (buF V coin i).1), .int (buF V coin i).2.1, .int (buF V coin i).2.2, .int (nI (i + 1)), t.2.1, t.2.2] [] (am_toH t.1) 0 0 Q) (Cf_1 R0) (by
    intro i t hi R
    obtain ⟨τ, v7, v8⟩ := t
    have hVτ : cV τ 1 = V := (Cf_cV R).trans hV
    have h3 : τ.1 12 4 = nI m := (rc hVτ).2.2.1.trans em
    have cc := fun Q => c3 (sv := sv) (Q := Q) (s := i + 1) hVτ hok (by omega)
    have cc : ∀ Q, AM sv 3 [.ref 12, .int (nI (i + 1))] (am_toH τ) Q = Q (some (.int (csE V (i + 1)))) (am_toH τ) := cc
    obtain ⟨τ', R', c⟩ := c55 (sv := sv) (s := i + 1) hVτ hok (by omega)
    have e1 : ¬ nI (2 ^ m) ≤ nI (i + 1) := nI_ge (by omega) (by omega)
    simp only [buF, buS]
    generalize buF V coin i = p
    by_cases q : coin < csE V (i + 1)
    · have q1 : (coin < csE V (i + 1)) = True := eq_true q
      have q2 : (csE V (i + 1) ≤ coin) = False := eq_false (Int32.not_le.mpr q)
      refine ⟨(τ, .int (csE V (i + 1)), v8), R, fun Q => ?_⟩
      rw [x56_15]
      simp only [x56_17, x56_18, x56_19, x56_22, x56_25, x56_26, x56_29, x56_30, x56_33, x56_35, x56_38, x56_40, x56_42, x56_43, x56_46, x56_49, x56_50, x56_51, x56_53, x56_56, x56_58, x56_60, x56_62, x56_65, x56_67, x56_69, x56_72, x56_74, x56_76, x56_79, x56_81, x56_82, x56_84, x56_86, x56_88, x56_90, x56_93, Option.toList_some, Option.toList_none, List.cons_append, List.nil_append, cat_i, cat_r, cat_n, cat_f, cs_n, cs_i, cs_r, cs_l, cs_f, Nat.reduceAdd, Nat.reduceLeDiff, Nat.zero_le, if_true, if_false, true_or, or_true, am_wr_at, Nat.reduceEqDiff, not_true_eq_false, not_false_eq_true, i_one, ite_not, bI_z, bI_nz, bI_t, bI_f, bI_or, Bool.false_eq_true, Bool.true_eq_false, reduceCtorEq, st1, h3, o2, e1, cc, q1, q2, nI_1]
    · have q1 : (coin < csE V (i + 1)) = False := eq_false q
      have q2 : (csE V (i + 1) ≤ coin) = True := eq_true (Int32.not_lt.mp q)
      refine ⟨(τ', .int (csE V (i + 1)), .int (lyE V (i + 1))), Cf_trans R R', fun Q => ?_⟩
      rw [x56_15]
      by_cases q3 : lyE V (i + 1) < p.2.1
      · have q3' : (lyE V (i + 1) < p.2.1) = True := eq_true q3
        simp only [x56_17, x56_18, x56_19, x56_22, x56_25, x56_26, x56_29, x56_30, x56_33, x56_35, x56_38, x56_40, x56_42, x56_43, x56_46, x56_49, x56_50, x56_51, x56_53, x56_56, x56_58, x56_60, x56_62, x56_65, x56_67, x56_69, x56_72, x56_74, x56_76, x56_79, x56_81, x56_82, x56_84, x56_86, x56_88, x56_90, x56_93, Option.toList_some, Option.toList_none, List.cons_append, List.nil_append, cat_i, cat_r, cat_n, cat_f, cs_n, cs_i, cs_r, cs_l, cs_f, Nat.reduceAdd, Nat.reduceLeDiff, Nat.zero_le, if_true, if_false, true_or, or_true, am_wr_at, Nat.reduceEqDiff, not_true_eq_false, not_false_eq_true, i_one, ite_not, bI_z, bI_nz, bI_t, bI_f, bI_or, Bool.false_eq_true, Bool.true_eq_false, reduceCtorEq, st1, h3, o2, e1, cc, q1, q2, c, q3', nI_1]
      · have q3' : (lyE V (i + 1) < p.2.1) = False := eq_false q3
        by_cases q4 : lyE V (i + 1) = p.2.1
        · have q4' : (lyE V (i + 1) = p.2.1) = True := eq_true q4
          by_cases q5 : p.2.2 ≤ csE V (i + 1)
          · have q5' : (p.2.2 ≤ csE V (i + 1)) = True := eq_true q5
            simp only [x56_17, x56_18, x56_19, x56_22, x56_25, x56_26, x56_29, x56_30, x56_33, x56_35, x56_38, x56_40, x56_42, x56_43, x56_46, x56_49, x56_50, x56_51, x56_53, x56_56, x56_58, x56_60, x56_62, x56_65, x56_67, x56_69, x56_72, x56_74, x56_76, x56_79, x56_81, x56_82, x56_84, x56_86, x56_88, x56_90, x56_93, Option.toList_some, Option.toList_none, List.cons_append, List.nil_append, cat_i, cat_r, cat_n, cat_f, cs_n, cs_i, cs_r, cs_l, cs_f, Nat.reduceAdd, Nat.reduceLeDiff, Nat.zero_le, if_true, if_false, true_or, or_true, am_wr_at, Nat.reduceEqDiff, not_true_eq_false, not_false_eq_true, i_one, ite_not, bI_z, bI_nz, bI_t, bI_f, bI_or, Bool.false_eq_true, Bool.true_eq_false, reduceCtorEq, st1, h3, o2, e1, cc, q1, q2, c, q3', q4', q5', nI_1]
          · have q5' : (p.2.2 ≤ csE V (i + 1)) = False := eq_false q5
            simp only [x56_17, x56_18, x56_19, x56_22, x56_25, x56_26, x56_29, x56_30, x56_33, x56_35, x56_38, x56_40, x56_42, x56_43, x56_46, x56_49, x56_50, x56_51, x56_53, x56_56, x56_58, x56_60, x56_62, x56_65, x56_67, x56_69, x56_72, x56_74, x56_76, x56_79, x56_81, x56_82, x56_84, x56_86, x56_88, x56_90, x56_93, Option.toList_some, Option.toList_none, List.cons_append, List.nil_append, cat_i, cat_r, cat_n, cat_f, cs_n, cs_i, cs_r, cs_l, cs_f, Nat.reduceAdd, Nat.reduceLeDiff, Nat.zero_le, if_true, if_false, true_or, or_true, am_wr_at, Nat.reduceEqDiff, not_true_eq_false, not_false_eq_true, i_one, ite_not, bI_z, bI_nz, bI_t, bI_f, bI_or, Bool.false_eq_true, Bool.true_eq_false, reduceCtorEq, st1, h3, o2, e1, cc, q1, q2, c, q3', q4', q5', nI_1]
        · have q4' : (lyE V (i + 1) = p.2.1) = False := eq_false q4
          simp only [x56_17, x56_18, x56_19, x56_22, x56_25, x56_26, x56_29, x56_30, x56_33, x56_35, x56_38, x56_40, x56_42, x56_43, x56_46, x56_49, x56_50, x56_51, x56_53, x56_56, x56_58, x56_60, x56_62, x56_65, x56_67, x56_69, x56_72, x56_74, x56_76, x56_79, x56_81, x56_82, x56_84, x56_86, x56_88, x56_90, x56_93, Option.toList_some, Option.toList_none, List.cons_append, List.nil_append, cat_i, cat_r, cat_n, cat_f, cs_n, cs_i, cs_r, cs_l, cs_f, Nat.reduceAdd, Nat.reduceLeDiff, Nat.zero_le, if_true, if_false, true_or, or_true, am_wr_at, Nat.reduceEqDiff, not_true_eq_false, not_false_eq_true, i_one, ite_not, bI_z, bI_nz, bI_t, bI_f, bI_or, Bool.false_eq_true, Bool.true_eq_false, reduceCtorEq, st1, h3, o2, e1, cc, q1, q2, c, q3', q4', nI_1])
  refine ⟨τ, R, fun Q => ?_⟩
  have h3 : τ.1 12 4 = nI m := (rc ((Cf_cV R).trans hV)).2.2.1.trans em
  have e1 : nI (2 ^ m) ≤ nI (2 ^ m - 1 + 1) := nI_le (by omega) (by omega)
  rw [n56, cm]
  simp only [x56_0, x56_1, x56_2, x56_3, x56_4, x56_7, x56_9, x56_10, x56_12, x56_13, Option.toList_some, Option.toList_none, List.cons_append, List.nil_append, cat_i, cat_r, cat_n, cat_f, cs_n, cs_i, cs_r, cs_l, cs_f, Nat.reduceAdd, Nat.reduceLeDiff, Nat.zero_le, if_true, if_false, true_or, or_true, am_wr_at, Nat.reduceEqDiff, not_true_eq_false, not_false_eq_true, i_one, ite_not, bI_z, bI_nz, bI_t, bI_f, bI_or, Bool.false_eq_true, Bool.true_eq_false, reduceCtorEq, st1, c0]
  refine (e Q).trans ?_
  show AW sv 56 15 [.ref 43, .ref 1, .int coin, .int (nI (buF V coin (2 ^ m - 1)).1), .int (buF V coin (2 ^ m - 1)).2.1, .int (buF V coin (2 ^ m - 1)).2.2, .int (nI (2 ^ m - 1 + 1)), v7, v8] [] (am_toH τ) 0 0 Q = _
  generalize buF V coin (2 ^ m - 1) = p
  rw [x56_15]
  simp only [x56_17, x56_18, x56_19, x56_22, x56_25, x56_26, x56_96, x56_97, Option.toList_some, Option.toList_none, List.cons_append, List.nil_append, cat_i, cat_r, cat_n, cat_f, cs_n, cs_i, cs_r, cs_l, cs_f, Nat.reduceAdd, Nat.reduceLeDiff, Nat.zero_le, if_true, if_false, true_or, or_true, am_wr_at, Nat.reduceEqDiff, not_true_eq_false, not_false_eq_true, i_one, ite_not, bI_z, bI_nz, bI_t, bI_f, bI_or, Bool.false_eq_true, Bool.true_eq_false, reduceCtorEq, st1, h3, o2, e1]
theorem m146c {y1 y2 y3 y4 y5 : Int32} {v8 : Value} (hV : mV σ = V) (hok : okV V) (hs : s < 256) : ∀ Q, AW sv 146 54 [.ref 71, .int y1, .int y2, .int y3, .int y4, .int y5, .int (nI s), .int 0, .int 0] [] (am_toH σ) 0 0 Q = AW sv 146 100 [.ref 71, .int y1, .int y2, .int y3, .int y4, .int y5, .int (nI s), .int (csE V s), .int (V 9 2)] [] (am_toH σ) 0 0 Q := by
  intro Q
  obtain ⟨m, hm, em, cm, -⟩ := vC hok
  have h3 : σ.1 71 16 = nI m := (rm hV).2.2.1.trans em
  have key := am_up (N := m) (f := fun i => AW sv 146 54 [.ref 71, .int y1, .int y2, .int y3, .int y4, .int y5, .int (nI s), .int (csF V s i), .int (nI i)] [] (am_toH σ) 0 0 Q) (by
    intro i hi
    have hi' : i < (V 9 2).toNatClampNeg := by rw [cm]; exact hi
    have w13 : σ.1 81 (4 * i + 3) = V 13 i := (rmc hV hi').2.2.2
    have e1 : ¬ nI m ≤ nI i := nI_ge hi (by omega)
    have m3 : am_in (nI (4 * i + 3)) 32 = true := nI_in' (by omega) (by omega)
    have d3 : (nI (4 * i + 3)).toNatClampNeg = 4 * i + 3 := nI_clamp (by omega)
    have wb := w_bit s hs i (by omega)
    simp only [csF]
    rw [x146_54]
    by_cases q : s.testBit i = true
    · have q' : (nI s >>> (nI i &&& 31) &&& 1 = 1) = True := eq_true (wb.mpr q)
      have q1 : (s.testBit i = true) = True := eq_true q
      simp only [x146_56, x146_57, x146_60, x146_63, x146_65, x146_67, x146_69, x146_70, x146_71, x146_72, x146_73, x146_76, x146_77, x146_80, x146_81, x146_83, x146_84, x146_85, x146_86, x146_87, x146_90, x146_91, x146_92, x146_94, x146_97, Option.toList_some, Option.toList_none, List.cons_append, List.nil_append, cat_i, cat_r, cat_n, cat_f, cs_n, cs_i, cs_r, cs_l, cs_f, Nat.reduceAdd, Nat.reduceLeDiff, Nat.zero_le, if_true, if_false, true_or, or_true, am_wr_at, Nat.reduceEqDiff, not_true_eq_false, not_false_eq_true, i_one, ite_not, bI_z, bI_nz, bI_t, bI_f, bI_or, Bool.false_eq_true, Bool.true_eq_false, reduceCtorEq, lc81, h3, e1, q', q1, ix40, nI_p3, m3, d3, w13, nI_1]
    · have q' : (nI s >>> (nI i &&& 31) &&& 1 = 1) = False := eq_false (fun c => q (wb.mp c))
      have q1 : (s.testBit i = true) = False := eq_false q
      simp only [x146_56, x146_57, x146_60, x146_63, x146_65, x146_67, x146_69, x146_70, x146_71, x146_72, x146_73, x146_76, x146_77, x146_80, x146_81, x146_83, x146_84, x146_85, x146_86, x146_87, x146_90, x146_91, x146_92, x146_94, x146_97, Option.toList_some, Option.toList_none, List.cons_append, List.nil_append, cat_i, cat_r, cat_n, cat_f, cs_n, cs_i, cs_r, cs_l, cs_f, Nat.reduceAdd, Nat.reduceLeDiff, Nat.zero_le, if_true, if_false, true_or, or_true, am_wr_at, Nat.reduceEqDiff, not_true_eq_false, not_false_eq_true, i_one, ite_not, bI_z, bI_nz, bI_t, bI_f, bI_or, Bool.false_eq_true, Bool.true_eq_false, reduceCtorEq, lc81, h3, e1, q', q1, Int32.add_zero, nI_1]) m (Nat.le_refl _)
  have e1 : nI m ≤ nI m := nI_le (by omega) (by omega)
  refine Eq.trans key ?_
  show AW sv 146 54 [.ref 71, .int y1, .int y2, .int y3, .int y4, .int y5, .int (nI s), .int (csF V s m), .int (nI m)] [] (am_toH σ) 0 0 Q = _
  unfold csE
  rw [x146_54, cm, em]
  simp only [x146_56, x146_57, x146_60, Option.toList_some, Option.toList_none, List.cons_append, List.nil_append, cat_i, cat_r, cat_n, cat_f, cs_n, cs_i, cs_r, cs_l, cs_f, Nat.reduceAdd, Nat.reduceLeDiff, Nat.zero_le, if_true, if_false, true_or, or_true, am_wr_at, Nat.reduceEqDiff, not_true_eq_false, not_false_eq_true, i_one, ite_not, bI_z, bI_nz, bI_t, bI_f, bI_or, Bool.false_eq_true, Bool.true_eq_false, reduceCtorEq, h3, e1]
theorem m146 {wh : Int32} (hV : mV σ = V) (hok : okV V) (hc : ¬ coin < 0) : ∃ τ : am_S, Mf σ τ ∧ mV τ = V ∧ ∀ Q, AW sv 146 26 [.ref 71, .int coin, .int wh, .null, .null, .null, .null, .null, .null] [] (am_toH σ) 0 0 Q = Q (some (.int (if wh = 0 then nI (buF V coin (2 ^ (V 9 2).toNatClampNeg - 1)).1 else if wh = 1 then (buF V coin (2 ^ (V 9 2).toNatClampNeg - 1)).2.1 else (buF V coin (2 ^ (V 9 2).toNatClampNeg - 1)).2.2))) (am_toH τ) := by
  obtain ⟨m, hm, em, cm, -⟩ := vC hok
  obtain ⟨pm, pm1⟩ := p2_le m hm
  have o2 := w_one m hm
  obtain ⟨⟨τ, v7, v8⟩, ⟨R, RV⟩, e⟩ := am_upG (N := 2 ^ m) (s := ((σ, .null, .null) : am_S × Value × Value)) (R := fun _ t => Mf σ t.1 ∧ mV t.1 = V) (F := fun i t Q => AW sv 146 37 [.ref 71, .int coin, .int wh, .int (nI (buM V coin i).1), .int (buM V coin i).2.1, .int (buM V coin i).2.2, .int (nI i), t.2.1, t.2.2] [] (am_toH t.1) 0 0 Q) ⟨Mf_refl, hV⟩ (by
    intro i t hi R
    obtain ⟨τ, v7, v8⟩ := t
    obtain ⟨R, hVτ⟩ := R
    have hVτ : mV τ = V := hVτ
    have h3 : τ.1 71 16 = nI m := (rm hVτ).2.2.1.trans em
    obtain ⟨τ', R', v', c⟩ := m144 (sv := sv) (s := i) hVτ hok (by omega)
    have e1 : ¬ nI (2 ^ m) ≤ nI i := nI_ge (by omega) (by omega)
    have cc := m146c (sv := sv) (y1 := coin) (y2 := wh) (y3 := nI (buM V coin i).1) (y4 := (buM V coin i).2.1) (y5 := (buM V coin i).2.2) (s := i) (v8 := v8) hVτ hok (by omega)
    have st : ∀ Q, AW sv 146 37 [.ref 71, .int coin, .int wh, .int (nI (buM V coin i).1), .int (buM V coin i).2.1, .int (buM V coin i).2.2, .int (nI i), v7, v8] [] (am_toH τ) 0 0 Q = AW sv 146 54 [.ref 71, .int coin, .int wh, .int (nI (buM V coin i).1), .int (buM V coin i).2.1, .int (buM V coin i).2.2, .int (nI i), .int 0, .int 0] [] (am_toH τ) 0 0 Q := by
      intro Q
      rw [x146_37]
      simp only [x146_39, x146_40, x146_41, x146_44, x146_45, x146_48, x146_49, x146_51, x146_52, Option.toList_some, Option.toList_none, List.cons_append, List.nil_append, cat_i, cat_r, cat_n, cat_f, cs_n, cs_i, cs_r, cs_l, cs_f, Nat.reduceAdd, Nat.reduceLeDiff, Nat.zero_le, if_true, if_false, true_or, or_true, am_wr_at, Nat.reduceEqDiff, not_true_eq_false, not_false_eq_true, i_one, ite_not, bI_z, bI_nz, bI_t, bI_f, bI_or, Bool.false_eq_true, Bool.true_eq_false, reduceCtorEq, h3, o2, e1]
    cases i with
    | zero =>
      have q1 : ((0 : Int32) ≤ coin) = True := eq_true (Int32.not_lt.mp hc)
      have q2 : (coin < 0) = False := eq_false hc
      refine ⟨(τ', .int (csE V 0), .int (lyE V 0)), ⟨Mf_trans R R', v'⟩, fun Q => ?_⟩
      refine (st Q).trans ((cc Q).trans ?_)
      rw [nI_0] at c
      simp only [buM, buF, cs_e0, ly_e0, nI_0] at c ⊢
      simp only [x146_100, x146_102, x146_103, x146_106, x146_107, x146_110, x146_111, x146_113, x146_116, x146_118, x146_120, x146_121, x146_124, x146_126, x146_129, x146_131, x146_133, x146_136, x146_138, x146_140, x146_143, x146_145, x146_147, x146_150, x146_152, x146_153, x146_155, x146_157, x146_159, x146_161, x146_164, Option.toList_some, Option.toList_none, List.cons_append, List.nil_append, cat_i, cat_r, cat_n, cat_f, cs_n, cs_i, cs_r, cs_l, cs_f, Nat.reduceAdd, Nat.reduceLeDiff, Nat.zero_le, if_true, if_false, true_or, or_true, am_wr_at, Nat.reduceEqDiff, not_true_eq_false, not_false_eq_true, i_one, ite_not, bI_z, bI_nz, bI_t, bI_f, bI_or, Bool.false_eq_true, Bool.true_eq_false, reduceCtorEq, q1, q2, c]
      rfl
    | succ i =>
      have y0 : (nI (i + 1) = 0) = False := eq_false (nI_ne0 (by omega) (by omega))
      by_cases q : coin < csE V (i + 1)
      · have q1 : (coin < csE V (i + 1)) = True := eq_true q
        have q2 : (csE V (i + 1) ≤ coin) = False := eq_false (Int32.not_le.mpr q)
        refine ⟨(τ, .int (csE V (i + 1)), .int 0), ⟨R, hVτ⟩, fun Q => ?_⟩
        refine (st Q).trans ((cc Q).trans ?_)
        simp only [buM, buF, buS]
        generalize buF V coin i = p
        simp only [x146_100, x146_102, x146_103, x146_106, x146_107, x146_110, x146_111, x146_113, x146_116, x146_118, x146_120, x146_121, x146_124, x146_126, x146_129, x146_131, x146_133, x146_136, x146_138, x146_140, x146_143, x146_145, x146_147, x146_150, x146_152, x146_153, x146_155, x146_157, x146_159, x146_161, x146_164, Option.toList_some, Option.toList_none, List.cons_append, List.nil_append, cat_i, cat_r, cat_n, cat_f, cs_n, cs_i, cs_r, cs_l, cs_f, Nat.reduceAdd, Nat.reduceLeDiff, Nat.zero_le, if_true, if_false, true_or, or_true, am_wr_at, Nat.reduceEqDiff, not_true_eq_false, not_false_eq_true, i_one, ite_not, bI_z, bI_nz, bI_t, bI_f, bI_or, Bool.false_eq_true, Bool.true_eq_false, reduceCtorEq, q1, q2, y0, nI_1]
      · have q1 : (coin < csE V (i + 1)) = False := eq_false q
        have q2 : (csE V (i + 1) ≤ coin) = True := eq_true (Int32.not_lt.mp q)
        refine ⟨(τ', .int (csE V (i + 1)), .int (lyE V (i + 1))), ⟨Mf_trans R R', v'⟩, fun Q => ?_⟩
        refine (st Q).trans ((cc Q).trans ?_)
        simp only [buM, buF, buS]
        generalize buF V coin i = p
        by_cases q3 : lyE V (i + 1) < p.2.1
        · have q3' : (lyE V (i + 1) < p.2.1) = True := eq_true q3
          simp only [x146_100, x146_102, x146_103, x146_106, x146_107, x146_110, x146_111, x146_113, x146_116, x146_118, x146_120, x146_121, x146_124, x146_126, x146_129, x146_131, x146_133, x146_136, x146_138, x146_140, x146_143, x146_145, x146_147, x146_150, x146_152, x146_153, x146_155, x146_157, x146_159, x146_161, x146_164, Option.toList_some, Option.toList_none, List.cons_append, List.nil_append, cat_i, cat_r, cat_n, cat_f, cs_n, cs_i, cs_r, cs_l, cs_f, Nat.reduceAdd, Nat.reduceLeDiff, Nat.zero_le, if_true, if_false, true_or, or_true, am_wr_at, Nat.reduceEqDiff, not_true_eq_false, not_false_eq_true, i_one, ite_not, bI_z, bI_nz, bI_t, bI_f, bI_or, Bool.false_eq_true, Bool.true_eq_false, reduceCtorEq, q1, q2, c, y0, q3', nI_1]
        · have q3' : (lyE V (i + 1) < p.2.1) = False := eq_false q3
          by_cases q4 : lyE V (i + 1) = p.2.1
          · have q4' : (lyE V (i + 1) = p.2.1) = True := eq_true q4
            by_cases q5 : p.2.2 ≤ csE V (i + 1)
            · have q5' : (p.2.2 ≤ csE V (i + 1)) = True := eq_true q5
              simp only [x146_100, x146_102, x146_103, x146_106, x146_107, x146_110, x146_111, x146_113, x146_116, x146_118, x146_120, x146_121, x146_124, x146_126, x146_129, x146_131, x146_133, x146_136, x146_138, x146_140, x146_143, x146_145, x146_147, x146_150, x146_152, x146_153, x146_155, x146_157, x146_159, x146_161, x146_164, Option.toList_some, Option.toList_none, List.cons_append, List.nil_append, cat_i, cat_r, cat_n, cat_f, cs_n, cs_i, cs_r, cs_l, cs_f, Nat.reduceAdd, Nat.reduceLeDiff, Nat.zero_le, if_true, if_false, true_or, or_true, am_wr_at, Nat.reduceEqDiff, not_true_eq_false, not_false_eq_true, i_one, ite_not, bI_z, bI_nz, bI_t, bI_f, bI_or, Bool.false_eq_true, Bool.true_eq_false, reduceCtorEq, q1, q2, c, y0, q3', q4', q5', nI_1]
            · have q5' : (p.2.2 ≤ csE V (i + 1)) = False := eq_false q5
              simp only [x146_100, x146_102, x146_103, x146_106, x146_107, x146_110, x146_111, x146_113, x146_116, x146_118, x146_120, x146_121, x146_124, x146_126, x146_129, x146_131, x146_133, x146_136, x146_138, x146_140, x146_143, x146_145, x146_147, x146_150, x146_152, x146_153, x146_155, x146_157, x146_159, x146_161, x146_164, Option.toList_some, Option.toList_none, List.cons_append, List.nil_append, cat_i, cat_r, cat_n, cat_f, cs_n, cs_i, cs_r, cs_l, cs_f, Nat.reduceAdd, Nat.reduceLeDiff, Nat.zero_le, if_true, if_false, true_or, or_true, am_wr_at, Nat.reduceEqDiff, not_true_eq_false, not_false_eq_true, i_one, ite_not, bI_z, bI_nz, bI_t, bI_f, bI_or, Bool.false_eq_true, Bool.true_eq_false, reduceCtorEq, q1, q2, c, y0, q3', q4', q5', nI_1]
          · have q4' : (lyE V (i + 1) = p.2.1) = False := eq_false q4
            simp only [x146_100, x146_102, x146_103, x146_106, x146_107, x146_110, x146_111, x146_113, x146_116, x146_118, x146_120, x146_121, x146_124, x146_126, x146_129, x146_131, x146_133, x146_136, x146_138, x146_140, x146_143, x146_145, x146_147, x146_150, x146_152, x146_153, x146_155, x146_157, x146_159, x146_161, x146_164, Option.toList_some, Option.toList_none, List.cons_append, List.nil_append, cat_i, cat_r, cat_n, cat_f, cs_n, cs_i, cs_r, cs_l, cs_f, Nat.reduceAdd, Nat.reduceLeDiff, Nat.zero_le, if_true, if_false, true_or, or_true, am_wr_at, Nat.reduceEqDiff, not_true_eq_false, not_false_eq_true, i_one, ite_not, bI_z, bI_nz, bI_t, bI_f, bI_or, Bool.false_eq_true, Bool.true_eq_false, reduceCtorEq, q1, q2, c, y0, q3', q4', nI_1])
  refine ⟨τ, R, RV, fun Q => ?_⟩
  have RV : mV τ = V := RV
  have h3 : τ.1 71 16 = nI m := (rm RV).2.2.1.trans em
  have e1 : nI (2 ^ m) ≤ nI (2 ^ m) := nI_le (by omega) (by omega)
  have bm : buM V coin (2 ^ m) = buF V coin (2 ^ m - 1) := by
    obtain ⟨j, hj⟩ : ∃ j, 2 ^ m = j + 1 := ⟨2 ^ m - 1, by omega⟩
    rw [hj]
    rfl
  rw [cm]
  simp only [x146_26, x146_27, x146_28, x146_29, x146_31, x146_32, x146_34, x146_35, Option.toList_some, Option.toList_none, List.cons_append, List.nil_append, cat_i, cat_r, cat_n, cat_f, cs_n, cs_i, cs_r, cs_l, cs_f, Nat.reduceAdd, Nat.reduceLeDiff, Nat.zero_le, if_true, if_false, true_or, or_true, am_wr_at, Nat.reduceEqDiff, not_true_eq_false, not_false_eq_true, i_one, ite_not, bI_z, bI_nz, bI_t, bI_f, bI_or, Bool.false_eq_true, Bool.true_eq_false, reduceCtorEq]
  refine (e Q).trans ?_
  show AW sv 146 37 [.ref 71, .int coin, .int wh, .int (nI (buM V coin (2 ^ m)).1), .int (buM V coin (2 ^ m)).2.1, .int (buM V coin (2 ^ m)).2.2, .int (nI (2 ^ m)), v7, v8] [] (am_toH τ) 0 0 Q = _
  rw [bm]
  generalize buF V coin (2 ^ m - 1) = p
  rw [x146_37]
  by_cases q : wh = 0
  · have q' : (wh = 0) = True := eq_true q
    simp only [x146_39, x146_40, x146_41, x146_44, x146_45, x146_167, x146_168, x146_171, x146_172, x146_175, x146_176, x146_177, x146_180, x146_182, x146_185, x146_187, Option.toList_some, Option.toList_none, List.cons_append, List.nil_append, cat_i, cat_r, cat_n, cat_f, cs_n, cs_i, cs_r, cs_l, cs_f, Nat.reduceAdd, Nat.reduceLeDiff, Nat.zero_le, if_true, if_false, true_or, or_true, am_wr_at, Nat.reduceEqDiff, not_true_eq_false, not_false_eq_true, i_one, ite_not, bI_z, bI_nz, bI_t, bI_f, bI_or, Bool.false_eq_true, Bool.true_eq_false, reduceCtorEq, h3, o2, e1, q']
  · have q' : (wh = 0) = False := eq_false q
    by_cases q2 : wh = 1
    · have q2' : (wh = 1) = True := eq_true q2
      simp only [x146_39, x146_40, x146_41, x146_44, x146_45, x146_167, x146_168, x146_171, x146_172, x146_175, x146_176, x146_177, x146_180, x146_182, x146_185, x146_187, Option.toList_some, Option.toList_none, List.cons_append, List.nil_append, cat_i, cat_r, cat_n, cat_f, cs_n, cs_i, cs_r, cs_l, cs_f, Nat.reduceAdd, Nat.reduceLeDiff, Nat.zero_le, if_true, if_false, true_or, or_true, am_wr_at, Nat.reduceEqDiff, not_true_eq_false, not_false_eq_true, i_one, ite_not, bI_z, bI_nz, bI_t, bI_f, bI_or, Bool.false_eq_true, Bool.true_eq_false, reduceCtorEq, h3, o2, e1, q', q2']
    · have q2' : (wh = 1) = False := eq_false q2
      simp only [x146_39, x146_40, x146_41, x146_44, x146_45, x146_167, x146_168, x146_171, x146_172, x146_175, x146_176, x146_177, x146_180, x146_182, x146_185, x146_187, Option.toList_some, Option.toList_none, List.cons_append, List.nil_append, cat_i, cat_r, cat_n, cat_f, cs_n, cs_i, cs_r, cs_l, cs_f, Nat.reduceAdd, Nat.reduceLeDiff, Nat.zero_le, if_true, if_false, true_or, or_true, am_wr_at, Nat.reduceEqDiff, not_true_eq_false, not_false_eq_true, i_one, ite_not, bI_z, bI_nz, bI_t, bI_f, bI_or, Bool.false_eq_true, Bool.true_eq_false, reduceCtorEq, h3, o2, e1, q', q2']
/-- bought -/
theorem sim20 : ∀ x0 x1 : Int32, SimOK sv Inv 81 146 [.int x0, .int x1] := by
  intro coin wh
  refine sim_q (fun V hok => ?_)
  obtain ⟨m, hm, em, cm, -⟩ := vC hok
  obtain ⟨pm, pm1⟩ := p2_le m hm
  by_cases h0 : am_in coin 1000 = true
  · by_cases h1 : am_in wh 3 = true
    · have hc : ¬ coin < 0 := by
        obtain ⟨z, hz, e⟩ := in_nI h0 (by decide)
        rw [e]
        exact nI_pos (by omega)
      obtain ⟨i1, i2, i3⟩ := bu_inv (V := V) (coin := coin) (2 ^ (V 9 2).toNatClampNeg - 1)
      have i4 : (buF V coin (2 ^ (V 9 2).toNatClampNeg - 1)).1 < 256 := by rw [cm] at i1 ⊢; omega
      refine ⟨if wh = 0 then nI (buF V coin (2 ^ (V 9 2).toNatClampNeg - 1)).1 else if wh = 1 then (buF V coin (2 ^ (V 9 2).toNatClampNeg - 1)).2.1 else (buF V coin (2 ^ (V 9 2).toNatClampNeg - 1)).2.2, fun σ hV => ?_, fun σ hV => ?_⟩
      · obtain ⟨t1, R1, c1⟩ := c56 (sv := sv) (coin := coin) hV hok
        have hV1 : cV t1 1 = V := (Cf_cV R1).trans hV
        obtain ⟨t2, R2, c2⟩ := c55 (sv := sv) hV1 hok i4
        have c3' : ∀ Q, AM sv 3 [.ref 12, .int (nI (buF V coin (2 ^ (V 9 2).toNatClampNeg - 1)).1)] (am_toH t1) Q = Q (some (.int (csE V (buF V coin (2 ^ (V 9 2).toNatClampNeg - 1)).1))) (am_toH t1) := fun Q => c3 hV1 hok i4
        rw [i2, i3]
        generalize (buF V coin (2 ^ (V 9 2).toNatClampNeg - 1)).1 = z at *
        by_cases q : wh = 0
        · have q' : (wh = 0) = True := eq_true q
          refine ⟨t1, R1, fun Q => ?_⟩
          rw [n81]
          simp only [x81_0, x81_1, x81_4, x81_7, x81_10, x81_11, x81_12, x81_15, x81_18, x81_19, x81_20, x81_21, x81_24, x81_25, x81_28, x81_29, x81_32, x81_33, x81_34, x81_37, x81_38, x81_39, x81_40, x81_41, x81_44, x81_45, x81_48, x81_49, x81_52, x81_53, x81_56, x81_59, x81_60, x81_63, x81_66, x81_67, x81_70, Option.toList_some, Option.toList_none, List.cons_append, List.nil_append, cat_i, cat_r, cat_n, cat_f, cs_n, cs_i, cs_r, cs_l, cs_f, Nat.reduceAdd, Nat.reduceLeDiff, Nat.zero_le, if_true, if_false, true_or, or_true, am_wr_at, Nat.reduceEqDiff, not_true_eq_false, not_false_eq_true, i_one, ite_not, bI_z, bI_nz, bI_t, bI_f, bI_or, Bool.false_eq_true, Bool.true_eq_false, reduceCtorEq, lt1, lt2, lt3, lt4, lt5, lt10, lt12, lt16, lt100, lt1000, bt1, bt2, bt3, bt4, bt5, bt10, bt12, bt16, bt100, bt1000, bt6, bt25, bt100000, st1, s97, h0, h1, c1, q']
        · have q' : (wh = 0) = False := eq_false q
          by_cases q2 : wh = 1
          · have q2' : (wh = 1) = True := eq_true q2
            refine ⟨t2, Cf_trans R1 R2, fun Q => ?_⟩
            rw [n81]
            simp only [x81_0, x81_1, x81_4, x81_7, x81_10, x81_11, x81_12, x81_15, x81_18, x81_19, x81_20, x81_21, x81_24, x81_25, x81_28, x81_29, x81_32, x81_33, x81_34, x81_37, x81_38, x81_39, x81_40, x81_41, x81_44, x81_45, x81_48, x81_49, x81_52, x81_53, x81_56, x81_59, x81_60, x81_63, x81_66, x81_67, x81_70, Option.toList_some, Option.toList_none, List.cons_append, List.nil_append, cat_i, cat_r, cat_n, cat_f, cs_n, cs_i, cs_r, cs_l, cs_f, Nat.reduceAdd, Nat.reduceLeDiff, Nat.zero_le, if_true, if_false, true_or, or_true, am_wr_at, Nat.reduceEqDiff, not_true_eq_false, not_false_eq_true, i_one, ite_not, bI_z, bI_nz, bI_t, bI_f, bI_or, Bool.false_eq_true, Bool.true_eq_false, reduceCtorEq, lt1, lt2, lt3, lt4, lt5, lt10, lt12, lt16, lt100, lt1000, bt1, bt2, bt3, bt4, bt5, bt10, bt12, bt16, bt100, bt1000, bt6, bt25, bt100000, st1, s97, h0, h1, c1, q', q2', c2]
          · have q2' : (wh = 1) = False := eq_false q2
            refine ⟨t1, R1, fun Q => ?_⟩
            rw [n81]
            simp only [x81_0, x81_1, x81_4, x81_7, x81_10, x81_11, x81_12, x81_15, x81_18, x81_19, x81_20, x81_21, x81_24, x81_25, x81_28, x81_29, x81_32, x81_33, x81_34, x81_37, x81_38, x81_39, x81_40, x81_41, x81_44, x81_45, x81_48, x81_49, x81_52, x81_53, x81_56, x81_59, x81_60, x81_63, x81_66, x81_67, x81_70, Option.toList_some, Option.toList_none, List.cons_append, List.nil_append, cat_i, cat_r, cat_n, cat_f, cs_n, cs_i, cs_r, cs_l, cs_f, Nat.reduceAdd, Nat.reduceLeDiff, Nat.zero_le, if_true, if_false, true_or, or_true, am_wr_at, Nat.reduceEqDiff, not_true_eq_false, not_false_eq_true, i_one, ite_not, bI_z, bI_nz, bI_t, bI_f, bI_or, Bool.false_eq_true, Bool.true_eq_false, reduceCtorEq, lt1, lt2, lt3, lt4, lt5, lt10, lt12, lt16, lt100, lt1000, bt1, bt2, bt3, bt4, bt5, bt10, bt12, bt16, bt100, bt1000, bt6, bt25, bt100000, st1, s97, h0, h1, c1, q', q2', c3']
      · obtain ⟨τ, R, RV, c⟩ := m146 (sv := sv) (coin := coin) (wh := wh) hV hok hc
        refine ⟨τ, R, RV, fun Q => ?_⟩
        rw [← c Q, n146]
        simp only [x146_0, x146_1, x146_2, x146_3, x146_6, x146_9, x146_12, x146_13, x146_14, x146_15, x146_18, x146_21, x146_24, x146_25, Option.toList_some, Option.toList_none, List.cons_append, List.nil_append, cat_i, cat_r, cat_n, cat_f, cs_n, cs_i, cs_r, cs_l, cs_f, Nat.reduceAdd, Nat.reduceLeDiff, Nat.zero_le, if_true, if_false, true_or, or_true, am_wr_at, Nat.reduceEqDiff, not_true_eq_false, not_false_eq_true, i_one, ite_not, bI_z, bI_nz, bI_t, bI_f, bI_or, Bool.false_eq_true, Bool.true_eq_false, reduceCtorEq, lt1, lt2, lt3, lt4, lt5, lt10, lt12, lt16, lt100, lt1000, bt1, bt2, bt3, bt4, bt5, bt10, bt12, bt16, bt100, bt1000, bt6, bt25, bt100000, s104, h0, h1]
    · have h1 : am_in wh 3 = false := by simpa using h1
      exact ⟨-1, fun σ hV => ⟨σ, Cf_refl, fun Q => by rw [n81]; simp only [x81_0, x81_1, x81_4, x81_7, x81_10, x81_11, x81_12, x81_15, x81_18, x81_19, x81_20, x81_21, x81_24, x81_25, x81_28, x81_29, x81_32, x81_33, x81_34, x81_37, x81_38, x81_39, x81_40, x81_41, x81_44, x81_45, x81_48, x81_49, x81_52, x81_53, x81_56, x81_59, x81_60, x81_63, x81_66, x81_67, x81_70, Option.toList_some, Option.toList_none, List.cons_append, List.nil_append, cat_i, cat_r, cat_n, cat_f, cs_n, cs_i, cs_r, cs_l, cs_f, Nat.reduceAdd, Nat.reduceLeDiff, Nat.zero_le, if_true, if_false, true_or, or_true, am_wr_at, Nat.reduceEqDiff, not_true_eq_false, not_false_eq_true, i_one, ite_not, bI_z, bI_nz, bI_t, bI_f, bI_or, Bool.false_eq_true, Bool.true_eq_false, reduceCtorEq, lt1, lt2, lt3, lt4, lt5, lt10, lt12, lt16, lt100, lt1000, bt1, bt2, bt3, bt4, bt5, bt10, bt12, bt16, bt100, bt1000, bt6, bt25, bt100000, s97, h0, h1]⟩, fun σ hV => ⟨σ, Mf_refl, hV, fun Q => by rw [n146]; simp only [x146_0, x146_1, x146_2, x146_3, x146_6, x146_9, x146_12, x146_13, x146_14, x146_15, x146_18, x146_21, x146_24, x146_25, Option.toList_some, Option.toList_none, List.cons_append, List.nil_append, cat_i, cat_r, cat_n, cat_f, cs_n, cs_i, cs_r, cs_l, cs_f, Nat.reduceAdd, Nat.reduceLeDiff, Nat.zero_le, if_true, if_false, true_or, or_true, am_wr_at, Nat.reduceEqDiff, not_true_eq_false, not_false_eq_true, i_one, ite_not, bI_z, bI_nz, bI_t, bI_f, bI_or, Bool.false_eq_true, Bool.true_eq_false, reduceCtorEq, lt1, lt2, lt3, lt4, lt5, lt10, lt12, lt16, lt100, lt1000, bt1, bt2, bt3, bt4, bt5, bt10, bt12, bt16, bt100, bt1000, bt6, bt25, bt100000, s104, h0, h1]⟩⟩
  · have h0 : am_in coin 1000 = false := by simpa using h0
    exact ⟨-1, fun σ hV => ⟨σ, Cf_refl, fun Q => by rw [n81]; simp only [x81_0, x81_1, x81_4, x81_7, x81_10, x81_11, x81_12, x81_15, x81_18, x81_19, x81_20, x81_21, x81_24, x81_25, x81_28, x81_29, x81_32, x81_33, x81_34, x81_37, x81_38, x81_39, x81_40, x81_41, x81_44, x81_45, x81_48, x81_49, x81_52, x81_53, x81_56, x81_59, x81_60, x81_63, x81_66, x81_67, x81_70, Option.toList_some, Option.toList_none, List.cons_append, List.nil_append, cat_i, cat_r, cat_n, cat_f, cs_n, cs_i, cs_r, cs_l, cs_f, Nat.reduceAdd, Nat.reduceLeDiff, Nat.zero_le, if_true, if_false, true_or, or_true, am_wr_at, Nat.reduceEqDiff, not_true_eq_false, not_false_eq_true, i_one, ite_not, bI_z, bI_nz, bI_t, bI_f, bI_or, Bool.false_eq_true, Bool.true_eq_false, reduceCtorEq, lt1, lt2, lt3, lt4, lt5, lt10, lt12, lt16, lt100, lt1000, bt1, bt2, bt3, bt4, bt5, bt10, bt12, bt16, bt100, bt1000, bt6, bt25, bt100000, s97, h0]⟩, fun σ hV => ⟨σ, Mf_refl, hV, fun Q => by rw [n146]; simp only [x146_0, x146_1, x146_2, x146_3, x146_6, x146_9, x146_12, x146_13, x146_14, x146_15, x146_18, x146_21, x146_24, x146_25, Option.toList_some, Option.toList_none, List.cons_append, List.nil_append, cat_i, cat_r, cat_n, cat_f, cs_n, cs_i, cs_r, cs_l, cs_f, Nat.reduceAdd, Nat.reduceLeDiff, Nat.zero_le, if_true, if_false, true_or, or_true, am_wr_at, Nat.reduceEqDiff, not_true_eq_false, not_false_eq_true, i_one, ite_not, bI_z, bI_nz, bI_t, bI_f, bI_or, Bool.false_eq_true, Bool.true_eq_false, reduceCtorEq, lt1, lt2, lt3, lt4, lt5, lt10, lt12, lt16, lt100, lt1000, bt1, bt2, bt3, bt4, bt5, bt10, bt12, bt16, bt100, bt1000, bt6, bt25, bt100000, s104, h0]⟩⟩
end I70
