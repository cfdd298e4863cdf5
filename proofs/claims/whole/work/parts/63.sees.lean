/-! SEES, and odds -/
def seF (V : Nat → Nat → Int32) (b : Nat) (k : Int32) : Nat → Int32
  | 0 => 0
  | i + 1 => seF V b k i + nI (1000 * abN V i b k / blN V i b k)
def sbF (V : Nat → Nat → Int32) (b : Nat) (k : Int32) : Int32 := seF V b k (V 9 0).toNatClampNeg
def saF (V : Nat → Nat → Int32) (k : Int32) : Nat → Int32
  | 0 => 0
  | b + 1 => if V 1 b = 0 then saF V k b else saF V k b + sbF V b k
theorem lg_eq {u w : Int64} : (lg_cmp u w = 0) = (u = w) := by
  apply propext
  unfold lg_cmp
  constructor
  · intro h
    split at h
    · exact absurd h (by decide)
    · split at h
      · assumption
      · exact absurd h (by decide)
  · intro h
    subst h
    rw [if_neg (Int64.lt_irrefl), if_pos rfl]
theorem dd_le {S : Int32} (h : deed S) : (S ≤ 0) = (S = 0) := by
  apply propext
  rcases h with rfl | ⟨p, s, h1, h2, h3, rfl⟩
  · simp
  · have := dp_dec p h1 s (by omega) h2
    exact ⟨fun q => absurd q this.1, fun q => absurd q this.2⟩
section I63
variable {sv : am_V} {σ τ ρ : am_S} {Q : Option Value → am_H → Prop} {k hd : Int32} {a b w : Nat} {V : Nat → Nat → Int32}
theorem c16 (ha : am_St a) (hV : cV σ a = V) (hb : b < 16) (c : Bool) : AM sv 16 [.ref (a + 1), .int (nI b), .int (bI c), .int (V 5 2)] (am_toH σ) Q = Q (some (.int (heedF V c (b + 1)))) (am_toH σ) := by
  subst hV
  exact s16 ha hb
theorem c31 (ha : am_St a) (hV : cV σ a = V) (hok : okV V) (hb : b < 16) (hk : rg k 1 9) : ∃ τ, Cx a σ τ ∧ ∀ Q, AM sv 31 [.ref a, .int (nI b), .int k] (am_toH σ) Q = Q (some (.int (sbF V b k))) (am_toH τ) := by
  obtain ⟨n, hn, en, cn, -⟩ := vW hok
  have kf := fun Q => c16 (sv := sv) (Q := Q) ha hV hb false
  have kt := fun Q => c16 (sv := sv) (Q := Q) ha hV hb true
  simp only [bI_f] at kf
  simp only [bI_t] at kt
  have l2 : σ.1 (a + 19) 2 = V 5 2 := rcl hV (by decide)
  obtain ⟨τ, R, e⟩ := am_upE (N := n) (σ := σ) (R := fun _ τ => Cx a σ τ) (F := fun i τ Q => AW sv 31 39 [.ref a, .int (nI b), .int k, .int (heedF V false (b + 1)), .int (heedF V true (b + 1)), .int (seF V b k i), .int (nI i)] [] (am_toH τ) 0 0 Q) Cx_refl (by
    intro i τ hi R
    have hVτ : cV τ a = V := (Cx_cV R).trans hV
    have hi' : i < (V 9 0).toNatClampNeg := by rw [cn]; exact hi
    obtain ⟨τ', R', f7, f8, c⟩ := c30 (sv := sv) ha hVτ hok hb hi' hk
    have ab := ab_le hok hb hi' hk
    obtain ⟨w6, w7, w8⟩ := rcw hVτ hi'
    have h3 : τ.1 (a + 7) 3 = nI n := (rc hVτ).1.trans en
    have e1 : ¬ nI n ≤ nI i := nI_ge hi (by omega)
    have e2 : am_in (nI i) 12 = true := nI_in' (by omega) (by omega)
    have e3 : (nI i).toNatClampNeg = i := nI_clamp (by omega)
    have t := th_ok (x := abN V i b k) (y := blN V i b k) (by omega) (by omega) (by omega)
    refine ⟨τ', Cx_trans R R', fun Q => ?_⟩
    simp only [seF]
    rw [x31_39]
    by_cases q : V 7 i = 2
    · have q1 : decide (V 7 i = 2) = true := decide_eq_true q
      have q2 : (V 7 i = 2) = True := eq_true q
      simp only [q1] at c
      simp only [x31_41, x31_42, x31_45, x31_48, x31_51, x31_52, x31_54, x31_55, x31_56, x31_57, x31_60, x31_63, x31_65, x31_66, x31_67, x31_70, x31_72, x31_75, x31_76, x31_79, x31_81, x31_82, x31_85, x31_86, x31_89, x31_92, x31_93, x31_95, x31_98, Option.toList_some, Option.toList_none, List.cons_append, List.nil_append, cat_i, cat_r, cat_n, cat_f, cs_n, cs_i, cs_r, cs_l, cs_f, Nat.reduceAdd, Nat.reduceLeDiff, Nat.zero_le, if_true, if_false, true_or, or_true, am_wr_at, Nat.reduceEqDiff, not_true_eq_false, not_false_eq_true, i_one, ite_not, bI_z, bI_nz, bI_t, bI_f, bI_or, Bool.false_eq_true, Bool.true_eq_false, reduceCtorEq, ha, ln9, h3, e1, e2, e3, w7, q2, c, f7, f8, s101, t, nI_1]
    · have q1 : decide (V 7 i = 2) = false := decide_eq_false q
      have q2 : (V 7 i = 2) = False := eq_false q
      simp only [q1] at c
      simp only [x31_41, x31_42, x31_45, x31_48, x31_51, x31_52, x31_54, x31_55, x31_56, x31_57, x31_60, x31_63, x31_65, x31_66, x31_67, x31_70, x31_72, x31_75, x31_76, x31_79, x31_81, x31_82, x31_85, x31_86, x31_89, x31_92, x31_93, x31_95, x31_98, Option.toList_some, Option.toList_none, List.cons_append, List.nil_append, cat_i, cat_r, cat_n, cat_f, cs_n, cs_i, cs_r, cs_l, cs_f, Nat.reduceAdd, Nat.reduceLeDiff, Nat.zero_le, if_true, if_false, true_or, or_true, am_wr_at, Nat.reduceEqDiff, not_true_eq_false, not_false_eq_true, i_one, ite_not, bI_z, bI_nz, bI_t, bI_f, bI_or, Bool.false_eq_true, Bool.true_eq_false, reduceCtorEq, ha, ln9, h3, e1, e2, e3, w7, q2, c, f7, f8, s101, t, nI_1])
  refine ⟨τ, R, fun Q => ?_⟩
  have h3 : τ.1 (a + 7) 3 = nI n := (rc ((Cx_cV R).trans hV)).1.trans en
  have e1 : nI n ≤ nI n := nI_le (by omega) (by omega)
  rw [n31]
  simp only [x31_0, x31_1, x31_4, x31_5, x31_6, x31_7, x31_10, x31_11, x31_12, x31_15, x31_16, x31_17, x31_20, x31_21, x31_22, x31_23, x31_26, x31_27, x31_28, x31_31, x31_33, x31_34, x31_36, x31_37, Option.toList_some, Option.toList_none, List.cons_append, List.nil_append, cat_i, cat_r, cat_n, cat_f, cs_n, cs_i, cs_r, cs_l, cs_f, Nat.reduceAdd, Nat.reduceLeDiff, Nat.zero_le, if_true, if_false, true_or, or_true, am_wr_at, Nat.reduceEqDiff, not_true_eq_false, not_false_eq_true, i_one, ite_not, bI_z, bI_nz, bI_t, bI_f, bI_or, Bool.false_eq_true, Bool.true_eq_false, reduceCtorEq, ha, ln19, t25, n2c, l2, kf, kt]
  refine (e Q).trans ?_
  show AW sv 31 39 [.ref a, .int (nI b), .int k, .int (heedF V false (b + 1)), .int (heedF V true (b + 1)), .int (seF V b k n), .int (nI n)] [] (am_toH τ) 0 0 Q = _
  unfold sbF
  rw [cn, x31_39]
  simp only [x31_41, x31_42, x31_45, x31_48, x31_101, x31_103, Option.toList_some, Option.toList_none, List.cons_append, List.nil_append, cat_i, cat_r, cat_n, cat_f, cs_n, cs_i, cs_r, cs_l, cs_f, Nat.reduceAdd, Nat.reduceLeDiff, Nat.zero_le, if_true, if_false, true_or, or_true, am_wr_at, Nat.reduceEqDiff, not_true_eq_false, not_false_eq_true, i_one, ite_not, bI_z, bI_nz, bI_t, bI_f, bI_or, Bool.false_eq_true, Bool.true_eq_false, reduceCtorEq, ha, h3, e1]
theorem c32 (ha : am_St a) (hV : cV σ a = V) (hok : okV V) (hk : rg k 1 9) : ∃ τ, Cx a σ τ ∧ ∀ Q, AM sv 32 [.ref a, .int k] (am_toH σ) Q = Q (some (.int (saF V k 16))) (am_toH τ) := by
  obtain ⟨τ, R, e⟩ := am_upE (N := 16) (σ := σ) (R := fun _ τ => Cx a σ τ) (F := fun i τ Q => AW sv 32 4 [.ref a, .int k, .int (saF V k i), .int (nI i)] [] (am_toH τ) 0 0 Q) Cx_refl (by
    intro i τ hi R
    have hVτ : cV τ a = V := (Cx_cV R).trans hV
    obtain ⟨τ', R', c⟩ := c31 (sv := sv) ha hVτ hok hi hk
    obtain ⟨r0, r1, r2, r3, r4⟩ := rcb hVτ hi
    have e1 : ¬ 16 ≤ nI i := by
      show ¬ nI 16 ≤ nI i
      exact nI_ge (by omega) (by decide)
    have e2 : am_in (nI i) 16 = true := nI_in' (by omega) (by omega)
    have e3 : (nI i).toNatClampNeg = i := nI_clamp (by omega)
    simp only [saF]
    by_cases q : V 1 i = 0
    · refine ⟨τ, R, fun Q => ?_⟩
      rw [x32_4]
      simp only [x32_5, x32_7, x32_10, x32_11, x32_14, x32_17, x32_18, x32_19, x32_22, x32_23, x32_24, x32_25, x32_26, x32_29, x32_30, x32_31, x32_34, Option.toList_some, Option.toList_none, List.cons_append, List.nil_append, cat_i, cat_r, cat_n, cat_f, cs_n, cs_i, cs_r, cs_l, cs_f, Nat.reduceAdd, Nat.reduceLeDiff, Nat.zero_le, if_true, if_false, true_or, or_true, am_wr_at, Nat.reduceEqDiff, not_true_eq_false, not_false_eq_true, i_one, ite_not, bI_z, bI_nz, bI_t, bI_f, bI_or, Bool.false_eq_true, Bool.true_eq_false, reduceCtorEq, ha, ln3, e1, e2, e3, r1, q, nI_1]
    · refine ⟨τ', Cx_trans R R', fun Q => ?_⟩
      rw [x32_4]
      simp only [x32_5, x32_7, x32_10, x32_11, x32_14, x32_17, x32_18, x32_19, x32_22, x32_23, x32_24, x32_25, x32_26, x32_29, x32_30, x32_31, x32_34, Option.toList_some, Option.toList_none, List.cons_append, List.nil_append, cat_i, cat_r, cat_n, cat_f, cs_n, cs_i, cs_r, cs_l, cs_f, Nat.reduceAdd, Nat.reduceLeDiff, Nat.zero_le, if_true, if_false, true_or, or_true, am_wr_at, Nat.reduceEqDiff, not_true_eq_false, not_false_eq_true, i_one, ite_not, bI_z, bI_nz, bI_t, bI_f, bI_or, Bool.false_eq_true, Bool.true_eq_false, reduceCtorEq, ha, ln3, e1, e2, e3, r1, q, c, nI_1])
  refine ⟨τ, R, fun Q => ?_⟩
  have e1 : (16 : Int32) ≤ nI 16 := by decide
  rw [n32]
  simp only [x32_0, x32_1, x32_2, x32_3, Option.toList_some, Option.toList_none, List.cons_append, List.nil_append, cat_i, cat_r, cat_n, cat_f, cs_n, cs_i, cs_r, cs_l, cs_f, Nat.reduceAdd, Nat.reduceLeDiff, Nat.zero_le, if_true, if_false, true_or, or_true, am_wr_at, Nat.reduceEqDiff, not_true_eq_false, not_false_eq_true, i_one, ite_not, bI_z, bI_nz, bI_t, bI_f, bI_or, Bool.false_eq_true, Bool.true_eq_false, reduceCtorEq]
  refine (e Q).trans ?_
  show AW sv 32 4 [.ref a, .int k, .int (saF V k 16), .int (nI 16)] [] (am_toH τ) 0 0 Q = _
  generalize saF V k 16 = z
  rw [x32_4]
  simp only [x32_5, x32_7, x32_37, x32_38, Option.toList_some, Option.toList_none, List.cons_append, List.nil_append, cat_i, cat_r, cat_n, cat_f, cs_n, cs_i, cs_r, cs_l, cs_f, Nat.reduceAdd, Nat.reduceLeDiff, Nat.zero_le, if_true, if_false, true_or, or_true, am_wr_at, Nat.reduceEqDiff, not_true_eq_false, not_false_eq_true, i_one, ite_not, bI_z, bI_nz, bI_t, bI_f, bI_or, Bool.false_eq_true, Bool.true_eq_false, reduceCtorEq, e1]
theorem m139 (hV : mV σ = V) (hok : okV V) (hb : b < 16) (hk : rg k 1 9) : ∃ τ : am_S, τ.1 = σ.1 ∧ ∀ Q, AM sv 139 [.ref 71, .int (nI b), .int k] (am_toH σ) Q = Q (some (.int (if V 1 b = 0 then 0 else sbF V b k))) (am_toH τ) := by
  obtain ⟨n, hn, en, cn, -⟩ := vW hok
  have b2 : am_in (nI b) 16 = true := nI_in' (by omega) (by omega)
  have b3 : (nI b).toNatClampNeg = b := nI_clamp (by omega)
  have o2 := dd_le (hok.1 b hb).2.1
  by_cases hs : V 1 b = 0
  · refine ⟨σ, rfl, fun Q => ?_⟩
    obtain ⟨r0, r1, r2, r3, r4⟩ := rmb hV hb
    have h3 : σ.1 71 7 = nI n := (rm hV).1.trans en
    have hs' : (V 1 b ≤ 0) = True := by rw [o2]; exact eq_true hs
    have hs2 : (V 1 b = 0) = True := eq_true hs
    rw [n139]
    by_cases q : nI n ≤ 0
    · simp only [x139_0, x139_1, x139_2, x139_3, x139_5, x139_7, x139_8, x139_11, x139_14, x139_15, x139_18, x139_19, x139_20, x139_23, x139_24, x139_26, x139_27, x139_28, x139_31, x139_32, x139_33, x139_36, x139_39, x139_40, x139_41, x139_44, x139_45, x139_46, x139_47, x139_48, x139_51, x139_54, x139_55, Option.toList_some, Option.toList_none, List.cons_append, List.nil_append, cat_i, cat_r, cat_n, cat_f, cs_n, cs_i, cs_r, cs_l, cs_f, Nat.reduceAdd, Nat.reduceLeDiff, Nat.zero_le, if_true, if_false, true_or, or_true, am_wr_at, Nat.reduceEqDiff, not_true_eq_false, not_false_eq_true, i_one, ite_not, bI_z, bI_nz, bI_t, bI_f, bI_or, Bool.false_eq_true, Bool.true_eq_false, reduceCtorEq, h3, q, hs2]
    · simp only [x139_0, x139_1, x139_2, x139_3, x139_5, x139_7, x139_8, x139_11, x139_14, x139_15, x139_18, x139_19, x139_20, x139_23, x139_24, x139_26, x139_27, x139_28, x139_31, x139_32, x139_33, x139_36, x139_39, x139_40, x139_41, x139_44, x139_45, x139_46, x139_47, x139_48, x139_51, x139_54, x139_55, Option.toList_some, Option.toList_none, List.cons_append, List.nil_append, cat_i, cat_r, cat_n, cat_f, cs_n, cs_i, cs_r, cs_l, cs_f, Nat.reduceAdd, Nat.reduceLeDiff, Nat.zero_le, if_true, if_false, true_or, or_true, am_wr_at, Nat.reduceEqDiff, not_true_eq_false, not_false_eq_true, i_one, ite_not, bI_z, bI_nz, bI_t, bI_f, bI_or, Bool.false_eq_true, Bool.true_eq_false, reduceCtorEq, h3, q, lc73, b2, b3, r1, hs', hs2]
  · have hs' : (V 1 b ≤ 0) = False := by rw [o2]; exact eq_false hs
    have hs2 : (V 1 b = 0) = False := eq_false hs
    obtain ⟨τ, R, e⟩ := am_upE (N := n) (σ := σ) (R := fun _ τ => τ.1 = σ.1) (F := fun i τ Q => AW sv 139 5 [.ref 71, .int (nI b), .int k, .int (seF V b k i), .int (nI i)] [] (am_toH τ) 0 0 Q) rfl (by
      intro i τ hi R
      have hVτ : mV τ = V := (mV_1 R).trans hV
      have hi' : i < (V 9 0).toNatClampNeg := by rw [cn]; exact hi
      obtain ⟨τ', R', f14, f15, c⟩ := m137 (sv := sv) hVτ hok hb hi' hk
      have ab := ab_le hok hb hi' hk
      obtain ⟨r0, r1, r2, r3, r4⟩ := rmb hVτ hb
      have h3 : τ.1 71 7 = nI n := (rm hVτ).1.trans en
      have e1 : ¬ nI n ≤ nI i := nI_ge hi (by omega)
      have t := tl_ok (x := abN V i b k) (y := blN V i b k) (by omega) (by omega)
      have z := oL_ne0 (y := blN V i b k) (by omega) (by omega)
      refine ⟨τ', R'.trans R, fun Q => ?_⟩
      simp only [seF]
      rw [x139_5]
      simp only [x139_7, x139_8, x139_11, x139_14, x139_15, x139_18, x139_19, x139_20, x139_23, x139_24, x139_26, x139_27, x139_28, x139_31, x139_32, x139_33, x139_36, x139_39, x139_40, x139_41, x139_44, x139_45, x139_46, x139_47, x139_48, x139_51, Option.toList_some, Option.toList_none, List.cons_append, List.nil_append, cat_i, cat_r, cat_n, cat_f, cs_n, cs_i, cs_r, cs_l, cs_f, Nat.reduceAdd, Nat.reduceLeDiff, Nat.zero_le, if_true, if_false, true_or, or_true, am_wr_at, Nat.reduceEqDiff, not_true_eq_false, not_false_eq_true, i_one, ite_not, bI_z, bI_nz, bI_t, bI_f, bI_or, Bool.false_eq_true, Bool.true_eq_false, reduceCtorEq, h3, e1, lc73, b2, b3, r1, hs', c, f14, f15, t, z, nI_1])
    refine ⟨τ, R, fun Q => ?_⟩
    have h3 : τ.1 71 7 = nI n := (rm ((mV_1 R).trans hV)).1.trans en
    have e1 : nI n ≤ nI n := nI_le (by omega) (by omega)
    rw [n139]
    simp only [x139_0, x139_1, x139_2, x139_3, Option.toList_some, Option.toList_none, List.cons_append, List.nil_append, cat_i, cat_r, cat_n, cat_f, cs_n, cs_i, cs_r, cs_l, cs_f, Nat.reduceAdd, Nat.reduceLeDiff, Nat.zero_le, if_true, if_false, true_or, or_true, am_wr_at, Nat.reduceEqDiff, not_true_eq_false, not_false_eq_true, i_one, ite_not, bI_z, bI_nz, bI_t, bI_f, bI_or, Bool.false_eq_true, Bool.true_eq_false, reduceCtorEq]
    refine (e Q).trans ?_
    show AW sv 139 5 [.ref 71, .int (nI b), .int k, .int (seF V b k n), .int (nI n)] [] (am_toH τ) 0 0 Q = _
    unfold sbF
    rw [cn, x139_5]
    simp only [x139_7, x139_8, x139_11, x139_54, x139_55, Option.toList_some, Option.toList_none, List.cons_append, List.nil_append, cat_i, cat_r, cat_n, cat_f, cs_n, cs_i, cs_r, cs_l, cs_f, Nat.reduceAdd, Nat.reduceLeDiff, Nat.zero_le, if_true, if_false, true_or, or_true, am_wr_at, Nat.reduceEqDiff, not_true_eq_false, not_false_eq_true, i_one, ite_not, bI_z, bI_nz, bI_t, bI_f, bI_or, Bool.false_eq_true, Bool.true_eq_false, reduceCtorEq, h3, e1, hs2]
theorem m140 (hV : mV σ = V) (hok : okV V) (hk : rg k 1 9) : ∃ τ : am_S, τ.1 = σ.1 ∧ ∀ Q, AM sv 140 [.ref 71, .int k] (am_toH σ) Q = Q (some (.int (saF V k 16))) (am_toH τ) := by
  obtain ⟨τ, R, e⟩ := am_upE (N := 16) (σ := σ) (R := fun _ τ => τ.1 = σ.1) (F := fun i τ Q => AW sv 140 4 [.ref 71, .int k, .int (saF V k i), .int (nI i)] [] (am_toH τ) 0 0 Q) rfl (by
    intro i τ hi R
    have hVτ : mV τ = V := (mV_1 R).trans hV
    obtain ⟨τ', R', c⟩ := m139 (sv := sv) hVτ hok hi hk
    have e1 : ¬ 16 ≤ nI i := by
      show ¬ nI 16 ≤ nI i
      exact nI_ge (by omega) (by decide)
    have e3 : (nI i).toNatClampNeg = i := nI_clamp (by omega)
    simp only [saF]
    refine ⟨τ', R'.trans R, fun Q => ?_⟩
    rw [x140_4]
    by_cases q : V 1 i = 0
    · have q2 : (V 1 i = 0) = True := eq_true q
      simp only [x140_5, x140_7, x140_10, x140_11, x140_12, x140_13, x140_14, x140_17, x140_18, x140_19, x140_22, Option.toList_some, Option.toList_none, List.cons_append, List.nil_append, cat_i, cat_r, cat_n, cat_f, cs_n, cs_i, cs_r, cs_l, cs_f, Nat.reduceAdd, Nat.reduceLeDiff, Nat.zero_le, if_true, if_false, true_or, or_true, am_wr_at, Nat.reduceEqDiff, not_true_eq_false, not_false_eq_true, i_one, ite_not, bI_z, bI_nz, bI_t, bI_f, bI_or, Bool.false_eq_true, Bool.true_eq_false, reduceCtorEq, e1, c, q2, Int32.add_zero, nI_1]
    · have q2 : (V 1 i = 0) = False := eq_false q
      simp only [x140_5, x140_7, x140_10, x140_11, x140_12, x140_13, x140_14, x140_17, x140_18, x140_19, x140_22, Option.toList_some, Option.toList_none, List.cons_append, List.nil_append, cat_i, cat_r, cat_n, cat_f, cs_n, cs_i, cs_r, cs_l, cs_f, Nat.reduceAdd, Nat.reduceLeDiff, Nat.zero_le, if_true, if_false, true_or, or_true, am_wr_at, Nat.reduceEqDiff, not_true_eq_false, not_false_eq_true, i_one, ite_not, bI_z, bI_nz, bI_t, bI_f, bI_or, Bool.false_eq_true, Bool.true_eq_false, reduceCtorEq, e1, c, q2, nI_1])
  refine ⟨τ, R, fun Q => ?_⟩
  have e1 : (16 : Int32) ≤ nI 16 := by decide
  rw [n140]
  simp only [x140_0, x140_1, x140_2, x140_3, Option.toList_some, Option.toList_none, List.cons_append, List.nil_append, cat_i, cat_r, cat_n, cat_f, cs_n, cs_i, cs_r, cs_l, cs_f, Nat.reduceAdd, Nat.reduceLeDiff, Nat.zero_le, if_true, if_false, true_or, or_true, am_wr_at, Nat.reduceEqDiff, not_true_eq_false, not_false_eq_true, i_one, ite_not, bI_z, bI_nz, bI_t, bI_f, bI_or, Bool.false_eq_true, Bool.true_eq_false, reduceCtorEq]
  refine (e Q).trans ?_
  show AW sv 140 4 [.ref 71, .int k, .int (saF V k 16), .int (nI 16)] [] (am_toH τ) 0 0 Q = _
  generalize saF V k 16 = z
  rw [x140_4]
  simp only [x140_5, x140_7, x140_25, x140_26, Option.toList_some, Option.toList_none, List.cons_append, List.nil_append, cat_i, cat_r, cat_n, cat_f, cs_n, cs_i, cs_r, cs_l, cs_f, Nat.reduceAdd, Nat.reduceLeDiff, Nat.zero_le, if_true, if_false, true_or, or_true, am_wr_at, Nat.reduceEqDiff, not_true_eq_false, not_false_eq_true, i_one, ite_not, bI_z, bI_nz, bI_t, bI_f, bI_or, Bool.false_eq_true, Bool.true_eq_false, reduceCtorEq, e1]
/-! odds -/
theorem m138l {v0 v1 v2 v3 : Value} {p : Int32} {h : am_H} : ∀ y x v9, x < 2 ^ 31 → y < 2 ^ 31 → ∃ v9', AW sv 138 71 [v0, v1, v2, v3, .int p, .long (lN x), .null, .long (lN y), .null, v9, .null] [] h 0 0 Q = AW sv 138 96 [v0, v1, v2, v3, .int p, .long (lN (Nat.gcd y x)), .null, .long 0, .null, v9', .null] [] h 0 0 Q := by
  intro y
  induction y using Nat.strongRecOn with
  | _ y ih =>
    intro x v9 hx hy
    by_cases q : y = 0
    · subst q
      refine ⟨v9, ?_⟩
      have z : lN 0 = 0 := rfl
      rw [Nat.gcd_zero_left, x138_71]
      simp only [x138_73, x138_74, x138_75, Option.toList_some, Option.toList_none, List.cons_append, List.nil_append, cat_i, cat_r, cat_n, cat_f, cs_n, cs_i, cs_r, cs_l, cs_f, Nat.reduceAdd, Nat.reduceLeDiff, Nat.zero_le, if_true, if_false, true_or, or_true, am_wr_at, Nat.reduceEqDiff, not_true_eq_false, not_false_eq_true, i_one, ite_not, bI_z, bI_nz, bI_t, bI_f, bI_or, Bool.false_eq_true, Bool.true_eq_false, reduceCtorEq, lg_eq, z]
    · have z := oL_ne0 (y := y) (by omega) hy
      have z2 : (lN y = 0) = False := eq_false z
      have r := oL_rem hx hy
      have r1 : x % y < y := Nat.mod_lt _ (by omega)
      obtain ⟨v9', e⟩ := ih (x % y) r1 y (.long (lN (x % y))) hy (by omega)
      refine ⟨v9', ?_⟩
      rw [Nat.gcd_rec y x, ← e, x138_71]
      simp only [x138_73, x138_74, x138_75, x138_78, x138_80, x138_82, x138_83, x138_85, x138_87, x138_89, x138_91, x138_93, Option.toList_some, Option.toList_none, List.cons_append, List.nil_append, cat_i, cat_r, cat_n, cat_f, cs_n, cs_i, cs_r, cs_l, cs_f, Nat.reduceAdd, Nat.reduceLeDiff, Nat.zero_le, if_true, if_false, true_or, or_true, am_wr_at, Nat.reduceEqDiff, not_true_eq_false, not_false_eq_true, i_one, ite_not, bI_z, bI_nz, bI_t, bI_f, bI_or, Bool.false_eq_true, Bool.true_eq_false, reduceCtorEq, lg_eq, z2, r]
theorem sim15 : ∀ x0 x1 x2 x3 : Int32, SimOK sv Inv 76 138 [.int x0, .int x1, .int x2, .int x3] := by
  intro w b k p
  refine sim_q (fun V hok => ?_)
  obtain ⟨n, hn, en, cn, a3, a4⟩ := vW hok
  have g8 : ∀ σ, cV σ 1 = V → σ.1 8 3 = nI n := fun σ hV => (rc hV).1.trans en
  have g7 : ∀ σ, mV σ = V → σ.1 71 7 = nI n := fun σ hV => (rm hV).1.trans en
  by_cases h0 : am_in w n = true
  · by_cases h1 : am_in b 16 = true
    · by_cases h2 : am_bt k.toInt64 1 9 = true
      · by_cases h3 : am_in p 2 = true
        · obtain ⟨w, hw, rfl⟩ := in_nI h0 (by omega)
          obtain ⟨b, hb, rfl⟩ := in_nI h1 (by decide)
          have hk := bt_rg h2
          have b3 : (nI b).toNatClampNeg = b := nI_clamp (by omega)
          have w3 : (nI w).toNatClampNeg = w := nI_clamp (by omega)
          have w2 : am_in (nI w) 12 = true := nI_in' (by omega) (by omega)
          by_cases hs : V 1 b = 0
          · have hs2 : (V 1 b = 0) = True := eq_true hs
            refine ⟨-2, fun σ hV => ⟨σ, Cf_refl, fun Q => ?_⟩, fun σ hV => ⟨σ, Mf_refl, hV, fun Q => ?_⟩⟩
            · have r1 : σ.1 4 b = V 1 b := (rcb hV hb).2.1
              rw [n76]
              simp only [x76_0, x76_1, x76_2, x76_5, x76_8, x76_11, x76_14, x76_17, x76_18, x76_20, x76_23, x76_26, x76_27, x76_30, x76_33, x76_35, x76_36, x76_39, x76_42, x76_43, x76_44, x76_45, x76_48, x76_51, x76_54, x76_55, x76_56, x76_59, x76_61, x76_62, x76_63, x76_66, x76_67, x76_68, x76_69, x76_70, x76_73, x76_76, x76_77, x76_78, x76_81, x76_84, x76_87, x76_88, x76_89, x76_90, x76_93, x76_94, x76_97, x76_98, x76_99, x76_102, x76_105, x76_106, x76_107, x76_110, x76_113, x76_114, x76_117, x76_120, x76_121, x76_124, x76_127, x76_130, x76_132, x76_134, x76_137, x76_138, x76_141, x76_144, x76_147, x76_148, x76_151, x76_154, x76_156, x76_159, x76_160, x76_163, x76_165, x76_166, Option.toList_some, Option.toList_none, List.cons_append, List.nil_append, cat_i, cat_r, cat_n, cat_f, cs_n, cs_i, cs_r, cs_l, cs_f, Nat.reduceAdd, Nat.reduceLeDiff, Nat.zero_le, if_true, if_false, true_or, or_true, am_wr_at, Nat.reduceEqDiff, not_true_eq_false, not_false_eq_true, i_one, ite_not, bI_z, bI_nz, bI_t, bI_f, bI_or, Bool.false_eq_true, Bool.true_eq_false, reduceCtorEq, lt1, lt2, lt3, lt4, lt5, lt10, lt12, lt16, lt100, lt1000, bt1, bt2, bt3, bt4, bt5, bt10, bt12, bt16, bt100, bt1000, bt6, bt25, bt100000, st1, s97, s98, bt98, g8 σ hV, a3, h0, h1, h2, h3, lc4, b3, r1, hs2]
            · have r1 : σ.1 73 b = V 1 b := (rmb hV hb).2.1
              rw [n138]
              simp only [x138_0, x138_1, x138_2, x138_5, x138_8, x138_9, x138_12, x138_15, x138_16, x138_17, x138_18, x138_21, x138_24, x138_27, x138_29, x138_30, x138_31, x138_32, x138_35, x138_38, x138_39, x138_40, x138_41, x138_44, x138_45, x138_46, x138_49, x138_51, x138_52, x138_53, x138_54, x138_55, x138_56, x138_59, x138_60, x138_63, x138_65, x138_66, x138_69, x138_71, x138_73, x138_74, x138_75, x138_78, x138_80, x138_82, x138_83, x138_85, x138_87, x138_89, x138_91, x138_93, x138_96, x138_98, x138_101, x138_102, x138_105, x138_108, x138_109, x138_112, x138_114, x138_115, x138_116, Option.toList_some, Option.toList_none, List.cons_append, List.nil_append, cat_i, cat_r, cat_n, cat_f, cs_n, cs_i, cs_r, cs_l, cs_f, Nat.reduceAdd, Nat.reduceLeDiff, Nat.zero_le, if_true, if_false, true_or, or_true, am_wr_at, Nat.reduceEqDiff, not_true_eq_false, not_false_eq_true, i_one, ite_not, bI_z, bI_nz, bI_t, bI_f, bI_or, Bool.false_eq_true, Bool.true_eq_false, reduceCtorEq, lt1, lt2, lt3, lt4, lt5, lt10, lt12, lt16, lt100, lt1000, bt1, bt2, bt3, bt4, bt5, bt10, bt12, bt16, bt100, bt1000, bt6, bt25, bt100000, s104, s106, s108, g7 σ hV, a4, h0, h1, h2, h3, lc73, b3, r1, hs2]
          · have hs2 : (V 1 b = 0) = False := eq_false hs
            have hw' : w < (V 9 0).toNatClampNeg := by rw [cn]; exact hw
            obtain ⟨ab1, ab2, ab3⟩ := ab_le hok hb hw' hk
            have gp : 0 < Nat.gcd (blN V w b k) (abN V w b k) := Nat.gcd_pos_of_pos_left _ (by omega)
            have gl : Nat.gcd (blN V w b k) (abN V w b k) ≤ blN V w b k := Nat.gcd_le_left _ (by omega)
            have gc := gcd_ok 16 64 (abN V w b k) (blN V w b k) (by omega) (by omega) (by omega) (by omega)
            have d1 := oN_div (a := abN V w b k) (b := Nat.gcd (blN V w b k) (abN V w b k)) (by omega) (by omega)
            have d2 := oN_div (a := blN V w b k) (b := Nat.gcd (blN V w b k) (abN V w b k)) (by omega) (by omega)
            have e1 := oL_div (a := abN V w b k) (b := Nat.gcd (blN V w b k) (abN V w b k)) (by omega) (by omega)
            have e2 := oL_div (a := blN V w b k) (b := Nat.gcd (blN V w b k) (abN V w b k)) (by omega) (by omega)
            have z1 := nI_ne0 gp (by omega)
            have z2 := oL_ne0 gp (by omega)
            have z1' : (nI (Nat.gcd (blN V w b k) (abN V w b k)) = 0) = False := eq_false z1
            refine ⟨nI ((if p = 0 then abN V w b k else blN V w b k) / Nat.gcd (blN V w b k) (abN V w b k)), fun σ hV => ?_, fun σ hV => ?_⟩
            · obtain ⟨τ, R, f7, f8, c⟩ := c30 (sv := sv) st1 hV hok hb hw' hk
              refine ⟨τ, Cf_1 R, fun Q => ?_⟩
              have r1 : σ.1 4 b = V 1 b := (rcb hV hb).2.1
              have w7 : σ.1 10 w = V 7 w := (rcw hV hw').2.1
              have l2 : σ.1 20 2 = V 5 2 := rcl hV (by decide)
              have kf := fun Q => c16 (sv := sv) (Q := Q) st1 hV hb false
              have kt := fun Q => c16 (sv := sv) (Q := Q) st1 hV hb true
              simp only [bI_f, Nat.reduceAdd] at kf
              simp only [bI_t, Nat.reduceAdd] at kt
              rw [n76]
              by_cases q : V 7 w = 2
              · have q1 : decide (V 7 w = 2) = true := decide_eq_true q
                have q2 : (V 7 w = 2) = True := eq_true q
                simp only [q1] at c
                by_cases hp : p = 0
                · have hp2 : (p = 0) = True := eq_true hp
                  simp only [x76_0, x76_1, x76_2, x76_5, x76_8, x76_11, x76_14, x76_17, x76_18, x76_20, x76_23, x76_26, x76_27, x76_30, x76_33, x76_35, x76_36, x76_39, x76_42, x76_43, x76_44, x76_45, x76_48, x76_51, x76_54, x76_55, x76_56, x76_59, x76_61, x76_62, x76_63, x76_66, x76_67, x76_68, x76_69, x76_70, x76_73, x76_76, x76_77, x76_78, x76_81, x76_84, x76_87, x76_88, x76_89, x76_90, x76_93, x76_94, x76_97, x76_98, x76_99, x76_102, x76_105, x76_106, x76_107, x76_110, x76_113, x76_114, x76_117, x76_120, x76_121, x76_124, x76_127, x76_130, x76_132, x76_134, x76_137, x76_138, x76_141, x76_144, x76_147, x76_148, x76_151, x76_154, x76_156, x76_159, x76_160, x76_163, x76_165, x76_166, Option.toList_some, Option.toList_none, List.cons_append, List.nil_append, cat_i, cat_r, cat_n, cat_f, cs_n, cs_i, cs_r, cs_l, cs_f, Nat.reduceAdd, Nat.reduceLeDiff, Nat.zero_le, if_true, if_false, true_or, or_true, am_wr_at, Nat.reduceEqDiff, not_true_eq_false, not_false_eq_true, i_one, ite_not, bI_z, bI_nz, bI_t, bI_f, bI_or, Bool.false_eq_true, Bool.true_eq_false, reduceCtorEq, lt1, lt2, lt3, lt4, lt5, lt10, lt12, lt16, lt100, lt1000, bt1, bt2, bt3, bt4, bt5, bt10, bt12, bt16, bt100, bt1000, bt6, bt25, bt100000, st1, s97, s98, bt98, g8 σ hV, a3, h0, h1, h2, h3, lc4, lc10, lc20, b3, w3, w2, t25, n2c, r1, hs2, w7, l2, q2, kt, c, f7, f8, s102, gc, z1', d1, hp2]
                · have hp2 : (p = 0) = False := eq_false hp
                  simp only [x76_0, x76_1, x76_2, x76_5, x76_8, x76_11, x76_14, x76_17, x76_18, x76_20, x76_23, x76_26, x76_27, x76_30, x76_33, x76_35, x76_36, x76_39, x76_42, x76_43, x76_44, x76_45, x76_48, x76_51, x76_54, x76_55, x76_56, x76_59, x76_61, x76_62, x76_63, x76_66, x76_67, x76_68, x76_69, x76_70, x76_73, x76_76, x76_77, x76_78, x76_81, x76_84, x76_87, x76_88, x76_89, x76_90, x76_93, x76_94, x76_97, x76_98, x76_99, x76_102, x76_105, x76_106, x76_107, x76_110, x76_113, x76_114, x76_117, x76_120, x76_121, x76_124, x76_127, x76_130, x76_132, x76_134, x76_137, x76_138, x76_141, x76_144, x76_147, x76_148, x76_151, x76_154, x76_156, x76_159, x76_160, x76_163, x76_165, x76_166, Option.toList_some, Option.toList_none, List.cons_append, List.nil_append, cat_i, cat_r, cat_n, cat_f, cs_n, cs_i, cs_r, cs_l, cs_f, Nat.reduceAdd, Nat.reduceLeDiff, Nat.zero_le, if_true, if_false, true_or, or_true, am_wr_at, Nat.reduceEqDiff, not_true_eq_false, not_false_eq_true, i_one, ite_not, bI_z, bI_nz, bI_t, bI_f, bI_or, Bool.false_eq_true, Bool.true_eq_false, reduceCtorEq, lt1, lt2, lt3, lt4, lt5, lt10, lt12, lt16, lt100, lt1000, bt1, bt2, bt3, bt4, bt5, bt10, bt12, bt16, bt100, bt1000, bt6, bt25, bt100000, st1, s97, s98, bt98, g8 σ hV, a3, h0, h1, h2, h3, lc4, lc10, lc20, b3, w3, w2, t25, n2c, r1, hs2, w7, l2, q2, kt, c, f7, f8, s102, gc, z1', d2, hp2]
              · have q1 : decide (V 7 w = 2) = false := decide_eq_false q
                have q2 : (V 7 w = 2) = False := eq_false q
                simp only [q1] at c
                by_cases hp : p = 0
                · have hp2 : (p = 0) = True := eq_true hp
                  simp only [x76_0, x76_1, x76_2, x76_5, x76_8, x76_11, x76_14, x76_17, x76_18, x76_20, x76_23, x76_26, x76_27, x76_30, x76_33, x76_35, x76_36, x76_39, x76_42, x76_43, x76_44, x76_45, x76_48, x76_51, x76_54, x76_55, x76_56, x76_59, x76_61, x76_62, x76_63, x76_66, x76_67, x76_68, x76_69, x76_70, x76_73, x76_76, x76_77, x76_78, x76_81, x76_84, x76_87, x76_88, x76_89, x76_90, x76_93, x76_94, x76_97, x76_98, x76_99, x76_102, x76_105, x76_106, x76_107, x76_110, x76_113, x76_114, x76_117, x76_120, x76_121, x76_124, x76_127, x76_130, x76_132, x76_134, x76_137, x76_138, x76_141, x76_144, x76_147, x76_148, x76_151, x76_154, x76_156, x76_159, x76_160, x76_163, x76_165, x76_166, Option.toList_some, Option.toList_none, List.cons_append, List.nil_append, cat_i, cat_r, cat_n, cat_f, cs_n, cs_i, cs_r, cs_l, cs_f, Nat.reduceAdd, Nat.reduceLeDiff, Nat.zero_le, if_true, if_false, true_or, or_true, am_wr_at, Nat.reduceEqDiff, not_true_eq_false, not_false_eq_true, i_one, ite_not, bI_z, bI_nz, bI_t, bI_f, bI_or, Bool.false_eq_true, Bool.true_eq_false, reduceCtorEq, lt1, lt2, lt3, lt4, lt5, lt10, lt12, lt16, lt100, lt1000, bt1, bt2, bt3, bt4, bt5, bt10, bt12, bt16, bt100, bt1000, bt6, bt25, bt100000, st1, s97, s98, bt98, g8 σ hV, a3, h0, h1, h2, h3, lc4, lc10, lc20, b3, w3, w2, t25, n2c, r1, hs2, w7, l2, q2, kf, c, f7, f8, s102, gc, z1', d1, hp2]
                · have hp2 : (p = 0) = False := eq_false hp
                  simp only [x76_0, x76_1, x76_2, x76_5, x76_8, x76_11, x76_14, x76_17, x76_18, x76_20, x76_23, x76_26, x76_27, x76_30, x76_33, x76_35, x76_36, x76_39, x76_42, x76_43, x76_44, x76_45, x76_48, x76_51, x76_54, x76_55, x76_56, x76_59, x76_61, x76_62, x76_63, x76_66, x76_67, x76_68, x76_69, x76_70, x76_73, x76_76, x76_77, x76_78, x76_81, x76_84, x76_87, x76_88, x76_89, x76_90, x76_93, x76_94, x76_97, x76_98, x76_99, x76_102, x76_105, x76_106, x76_107, x76_110, x76_113, x76_114, x76_117, x76_120, x76_121, x76_124, x76_127, x76_130, x76_132, x76_134, x76_137, x76_138, x76_141, x76_144, x76_147, x76_148, x76_151, x76_154, x76_156, x76_159, x76_160, x76_163, x76_165, x76_166, Option.toList_some, Option.toList_none, List.cons_append, List.nil_append, cat_i, cat_r, cat_n, cat_f, cs_n, cs_i, cs_r, cs_l, cs_f, Nat.reduceAdd, Nat.reduceLeDiff, Nat.zero_le, if_true, if_false, true_or, or_true, am_wr_at, Nat.reduceEqDiff, not_true_eq_false, not_false_eq_true, i_one, ite_not, bI_z, bI_nz, bI_t, bI_f, bI_or, Bool.false_eq_true, Bool.true_eq_false, reduceCtorEq, lt1, lt2, lt3, lt4, lt5, lt10, lt12, lt16, lt100, lt1000, bt1, bt2, bt3, bt4, bt5, bt10, bt12, bt16, bt100, bt1000, bt6, bt25, bt100000, st1, s97, s98, bt98, g8 σ hV, a3, h0, h1, h2, h3, lc4, lc10, lc20, b3, w3, w2, t25, n2c, r1, hs2, w7, l2, q2, kf, c, f7, f8, s102, gc, z1', d2, hp2]
            · obtain ⟨τ, R, f14, f15, c⟩ := m137 (sv := sv) hV hok hb hw' hk
              refine ⟨τ, Mf_1 R, (mV_1 R).trans hV, fun Q => ?_⟩
              have r1 : σ.1 73 b = V 1 b := (rmb hV hb).2.1
              rw [n138]
              simp only [x138_0, x138_1, x138_2, x138_5, x138_8, x138_9, x138_12, x138_15, x138_16, x138_17, x138_18, x138_21, x138_24, x138_27, x138_29, x138_30, x138_31, x138_32, x138_35, x138_38, x138_39, x138_40, x138_41, x138_44, x138_45, x138_46, x138_49, x138_51, x138_52, x138_53, x138_54, x138_55, x138_56, x138_59, x138_60, x138_63, x138_65, x138_66, x138_69, Option.toList_some, Option.toList_none, List.cons_append, List.nil_append, cat_i, cat_r, cat_n, cat_f, cs_n, cs_i, cs_r, cs_l, cs_f, Nat.reduceAdd, Nat.reduceLeDiff, Nat.zero_le, if_true, if_false, true_or, or_true, am_wr_at, Nat.reduceEqDiff, not_true_eq_false, not_false_eq_true, i_one, ite_not, bI_z, bI_nz, bI_t, bI_f, bI_or, Bool.false_eq_true, Bool.true_eq_false, reduceCtorEq, lt1, lt2, lt3, lt4, lt5, lt10, lt12, lt16, lt100, lt1000, bt1, bt2, bt3, bt4, bt5, bt10, bt12, bt16, bt100, bt1000, bt6, bt25, bt100000, s104, s106, s108, g7 σ hV, a4, h0, h1, h2, h3, lc73, b3, r1, hs2, c, f14, f15]
              obtain ⟨v9, e⟩ := m138l (sv := sv) (Q := Q) (v0 := .ref 71) (v1 := .int (nI w)) (v2 := .int (nI b)) (v3 := .int k) (p := p) (h := am_toH τ) (blN V w b k) (abN V w b k) .null (by omega) (by omega)
              refine e.trans ?_
              by_cases hp : p = 0
              · have hp2 : (p = 0) = True := eq_true hp
                simp only [x138_96, x138_98, x138_101, x138_102, x138_105, x138_108, x138_109, x138_112, x138_114, x138_115, x138_116, Option.toList_some, Option.toList_none, List.cons_append, List.nil_append, cat_i, cat_r, cat_n, cat_f, cs_n, cs_i, cs_r, cs_l, cs_f, Nat.reduceAdd, Nat.reduceLeDiff, Nat.zero_le, if_true, if_false, true_or, or_true, am_wr_at, Nat.reduceEqDiff, not_true_eq_false, not_false_eq_true, i_one, ite_not, bI_z, bI_nz, bI_t, bI_f, bI_or, Bool.false_eq_true, Bool.true_eq_false, reduceCtorEq, hp2, f14, f15, e1, z2, lN_i]
              · have hp2 : (p = 0) = False := eq_false hp
                simp only [x138_96, x138_98, x138_101, x138_102, x138_105, x138_108, x138_109, x138_112, x138_114, x138_115, x138_116, Option.toList_some, Option.toList_none, List.cons_append, List.nil_append, cat_i, cat_r, cat_n, cat_f, cs_n, cs_i, cs_r, cs_l, cs_f, Nat.reduceAdd, Nat.reduceLeDiff, Nat.zero_le, if_true, if_false, true_or, or_true, am_wr_at, Nat.reduceEqDiff, not_true_eq_false, not_false_eq_true, i_one, ite_not, bI_z, bI_nz, bI_t, bI_f, bI_or, Bool.false_eq_true, Bool.true_eq_false, reduceCtorEq, hp2, f14, f15, e2, z2, lN_i]
        · have h3 : am_in p 2 = false := by simpa using h3
          exact ⟨-1, fun σ hV => ⟨σ, Cf_refl, fun Q => by rw [n76]; simp only [x76_0, x76_1, x76_2, x76_5, x76_8, x76_11, x76_14, x76_17, x76_18, x76_20, x76_23, x76_26, x76_27, x76_30, x76_33, x76_35, x76_36, x76_39, x76_42, x76_43, x76_44, x76_45, x76_48, x76_51, x76_54, x76_55, x76_56, x76_59, x76_61, x76_62, x76_63, x76_66, x76_67, x76_68, x76_69, x76_70, x76_73, x76_76, x76_77, x76_78, x76_81, x76_84, x76_87, x76_88, x76_89, x76_90, x76_93, x76_94, x76_97, x76_98, x76_99, x76_102, x76_105, x76_106, x76_107, x76_110, x76_113, x76_114, x76_117, x76_120, x76_121, x76_124, x76_127, x76_130, x76_132, x76_134, x76_137, x76_138, x76_141, x76_144, x76_147, x76_148, x76_151, x76_154, x76_156, x76_159, x76_160, x76_163, x76_165, x76_166, Option.toList_some, Option.toList_none, List.cons_append, List.nil_append, cat_i, cat_r, cat_n, cat_f, cs_n, cs_i, cs_r, cs_l, cs_f, Nat.reduceAdd, Nat.reduceLeDiff, Nat.zero_le, if_true, if_false, true_or, or_true, am_wr_at, Nat.reduceEqDiff, not_true_eq_false, not_false_eq_true, i_one, ite_not, bI_z, bI_nz, bI_t, bI_f, bI_or, Bool.false_eq_true, Bool.true_eq_false, reduceCtorEq, lt1, lt2, lt3, lt4, lt5, lt10, lt12, lt16, lt100, lt1000, bt1, bt2, bt3, bt4, bt5, bt10, bt12, bt16, bt100, bt1000, bt6, bt25, bt100000, st1, s97, s98, bt98, g8 σ hV, a3, h0, h1, h2, h3]⟩, fun σ hV => ⟨σ, Mf_refl, hV, fun Q => by rw [n138]; simp only [x138_0, x138_1, x138_2, x138_5, x138_8, x138_9, x138_12, x138_15, x138_16, x138_17, x138_18, x138_21, x138_24, x138_27, x138_29, x138_30, x138_31, x138_32, x138_35, x138_38, x138_39, x138_40, x138_41, x138_44, x138_45, x138_46, x138_49, x138_51, x138_52, x138_53, x138_54, x138_55, x138_56, x138_59, x138_60, x138_63, x138_65, x138_66, x138_69, x138_71, x138_73, x138_74, x138_75, x138_78, x138_80, x138_82, x138_83, x138_85, x138_87, x138_89, x138_91, x138_93, x138_96, x138_98, x138_101, x138_102, x138_105, x138_108, x138_109, x138_112, x138_114, x138_115, x138_116, Option.toList_some, Option.toList_none, List.cons_append, List.nil_append, cat_i, cat_r, cat_n, cat_f, cs_n, cs_i, cs_r, cs_l, cs_f, Nat.reduceAdd, Nat.reduceLeDiff, Nat.zero_le, if_true, if_false, true_or, or_true, am_wr_at, Nat.reduceEqDiff, not_true_eq_false, not_false_eq_true, i_one, ite_not, bI_z, bI_nz, bI_t, bI_f, bI_or, Bool.false_eq_true, Bool.true_eq_false, reduceCtorEq, lt1, lt2, lt3, lt4, lt5, lt10, lt12, lt16, lt100, lt1000, bt1, bt2, bt3, bt4, bt5, bt10, bt12, bt16, bt100, bt1000, bt6, bt25, bt100000, s104, s106, s108, g7 σ hV, a4, h0, h1, h2, h3]⟩⟩
      · have h2 : am_bt k.toInt64 1 9 = false := by simpa using h2
        exact ⟨-1, fun σ hV => ⟨σ, Cf_refl, fun Q => by rw [n76]; simp only [x76_0, x76_1, x76_2, x76_5, x76_8, x76_11, x76_14, x76_17, x76_18, x76_20, x76_23, x76_26, x76_27, x76_30, x76_33, x76_35, x76_36, x76_39, x76_42, x76_43, x76_44, x76_45, x76_48, x76_51, x76_54, x76_55, x76_56, x76_59, x76_61, x76_62, x76_63, x76_66, x76_67, x76_68, x76_69, x76_70, x76_73, x76_76, x76_77, x76_78, x76_81, x76_84, x76_87, x76_88, x76_89, x76_90, x76_93, x76_94, x76_97, x76_98, x76_99, x76_102, x76_105, x76_106, x76_107, x76_110, x76_113, x76_114, x76_117, x76_120, x76_121, x76_124, x76_127, x76_130, x76_132, x76_134, x76_137, x76_138, x76_141, x76_144, x76_147, x76_148, x76_151, x76_154, x76_156, x76_159, x76_160, x76_163, x76_165, x76_166, Option.toList_some, Option.toList_none, List.cons_append, List.nil_append, cat_i, cat_r, cat_n, cat_f, cs_n, cs_i, cs_r, cs_l, cs_f, Nat.reduceAdd, Nat.reduceLeDiff, Nat.zero_le, if_true, if_false, true_or, or_true, am_wr_at, Nat.reduceEqDiff, not_true_eq_false, not_false_eq_true, i_one, ite_not, bI_z, bI_nz, bI_t, bI_f, bI_or, Bool.false_eq_true, Bool.true_eq_false, reduceCtorEq, lt1, lt2, lt3, lt4, lt5, lt10, lt12, lt16, lt100, lt1000, bt1, bt2, bt3, bt4, bt5, bt10, bt12, bt16, bt100, bt1000, bt6, bt25, bt100000, st1, s97, s98, bt98, g8 σ hV, a3, h0, h1, h2]⟩, fun σ hV => ⟨σ, Mf_refl, hV, fun Q => by rw [n138]; simp only [x138_0, x138_1, x138_2, x138_5, x138_8, x138_9, x138_12, x138_15, x138_16, x138_17, x138_18, x138_21, x138_24, x138_27, x138_29, x138_30, x138_31, x138_32, x138_35, x138_38, x138_39, x138_40, x138_41, x138_44, x138_45, x138_46, x138_49, x138_51, x138_52, x138_53, x138_54, x138_55, x138_56, x138_59, x138_60, x138_63, x138_65, x138_66, x138_69, x138_71, x138_73, x138_74, x138_75, x138_78, x138_80, x138_82, x138_83, x138_85, x138_87, x138_89, x138_91, x138_93, x138_96, x138_98, x138_101, x138_102, x138_105, x138_108, x138_109, x138_112, x138_114, x138_115, x138_116, Option.toList_some, Option.toList_none, List.cons_append, List.nil_append, cat_i, cat_r, cat_n, cat_f, cs_n, cs_i, cs_r, cs_l, cs_f, Nat.reduceAdd, Nat.reduceLeDiff, Nat.zero_le, if_true, if_false, true_or, or_true, am_wr_at, Nat.reduceEqDiff, not_true_eq_false, not_false_eq_true, i_one, ite_not, bI_z, bI_nz, bI_t, bI_f, bI_or, Bool.false_eq_true, Bool.true_eq_false, reduceCtorEq, lt1, lt2, lt3, lt4, lt5, lt10, lt12, lt16, lt100, lt1000, bt1, bt2, bt3, bt4, bt5, bt10, bt12, bt16, bt100, bt1000, bt6, bt25, bt100000, s104, s106, s108, g7 σ hV, a4, h0, h1, h2]⟩⟩
    · have h1 : am_in b 16 = false := by simpa using h1
      exact ⟨-1, fun σ hV => ⟨σ, Cf_refl, fun Q => by rw [n76]; simp only [x76_0, x76_1, x76_2, x76_5, x76_8, x76_11, x76_14, x76_17, x76_18, x76_20, x76_23, x76_26, x76_27, x76_30, x76_33, x76_35, x76_36, x76_39, x76_42, x76_43, x76_44, x76_45, x76_48, x76_51, x76_54, x76_55, x76_56, x76_59, x76_61, x76_62, x76_63, x76_66, x76_67, x76_68, x76_69, x76_70, x76_73, x76_76, x76_77, x76_78, x76_81, x76_84, x76_87, x76_88, x76_89, x76_90, x76_93, x76_94, x76_97, x76_98, x76_99, x76_102, x76_105, x76_106, x76_107, x76_110, x76_113, x76_114, x76_117, x76_120, x76_121, x76_124, x76_127, x76_130, x76_132, x76_134, x76_137, x76_138, x76_141, x76_144, x76_147, x76_148, x76_151, x76_154, x76_156, x76_159, x76_160, x76_163, x76_165, x76_166, Option.toList_some, Option.toList_none, List.cons_append, List.nil_append, cat_i, cat_r, cat_n, cat_f, cs_n, cs_i, cs_r, cs_l, cs_f, Nat.reduceAdd, Nat.reduceLeDiff, Nat.zero_le, if_true, if_false, true_or, or_true, am_wr_at, Nat.reduceEqDiff, not_true_eq_false, not_false_eq_true, i_one, ite_not, bI_z, bI_nz, bI_t, bI_f, bI_or, Bool.false_eq_true, Bool.true_eq_false, reduceCtorEq, lt1, lt2, lt3, lt4, lt5, lt10, lt12, lt16, lt100, lt1000, bt1, bt2, bt3, bt4, bt5, bt10, bt12, bt16, bt100, bt1000, bt6, bt25, bt100000, st1, s97, s98, bt98, g8 σ hV, a3, h0, h1]⟩, fun σ hV => ⟨σ, Mf_refl, hV, fun Q => by rw [n138]; simp only [x138_0, x138_1, x138_2, x138_5, x138_8, x138_9, x138_12, x138_15, x138_16, x138_17, x138_18, x138_21, x138_24, x138_27, x138_29, x138_30, x138_31, x138_32, x138_35, x138_38, x138_39, x138_40, x138_41, x138_44, x138_45, x138_46, x138_49, x138_51, x138_52, x138_53, x138_54, x138_55, x138_56, x138_59, x138_60, x138_63, x138_65, x138_66, x138_69, x138_71, x138_73, x138_74, x138_75, x138_78, x138_80, x138_82, x138_83, x138_85, x138_87, x138_89, x138_91, x138_93, x138_96, x138_98, x138_101, x138_102, x138_105, x138_108, x138_109, x138_112, x138_114, x138_115, x138_116, Option.toList_some, Option.toList_none, List.cons_append, List.nil_append, cat_i, cat_r, cat_n, cat_f, cs_n, cs_i, cs_r, cs_l, cs_f, Nat.reduceAdd, Nat.reduceLeDiff, Nat.zero_le, if_true, if_false, true_or, or_true, am_wr_at, Nat.reduceEqDiff, not_true_eq_false, not_false_eq_true, i_one, ite_not, bI_z, bI_nz, bI_t, bI_f, bI_or, Bool.false_eq_true, Bool.true_eq_false, reduceCtorEq, lt1, lt2, lt3, lt4, lt5, lt10, lt12, lt16, lt100, lt1000, bt1, bt2, bt3, bt4, bt5, bt10, bt12, bt16, bt100, bt1000, bt6, bt25, bt100000, s104, s106, s108, g7 σ hV, a4, h0, h1]⟩⟩
  · have h0 : am_in w n = false := by simpa using h0
    exact ⟨-1, fun σ hV => ⟨σ, Cf_refl, fun Q => by rw [n76]; simp only [x76_0, x76_1, x76_2, x76_5, x76_8, x76_11, x76_14, x76_17, x76_18, x76_20, x76_23, x76_26, x76_27, x76_30, x76_33, x76_35, x76_36, x76_39, x76_42, x76_43, x76_44, x76_45, x76_48, x76_51, x76_54, x76_55, x76_56, x76_59, x76_61, x76_62, x76_63, x76_66, x76_67, x76_68, x76_69, x76_70, x76_73, x76_76, x76_77, x76_78, x76_81, x76_84, x76_87, x76_88, x76_89, x76_90, x76_93, x76_94, x76_97, x76_98, x76_99, x76_102, x76_105, x76_106, x76_107, x76_110, x76_113, x76_114, x76_117, x76_120, x76_121, x76_124, x76_127, x76_130, x76_132, x76_134, x76_137, x76_138, x76_141, x76_144, x76_147, x76_148, x76_151, x76_154, x76_156, x76_159, x76_160, x76_163, x76_165, x76_166, Option.toList_some, Option.toList_none, List.cons_append, List.nil_append, cat_i, cat_r, cat_n, cat_f, cs_n, cs_i, cs_r, cs_l, cs_f, Nat.reduceAdd, Nat.reduceLeDiff, Nat.zero_le, if_true, if_false, true_or, or_true, am_wr_at, Nat.reduceEqDiff, not_true_eq_false, not_false_eq_true, i_one, ite_not, bI_z, bI_nz, bI_t, bI_f, bI_or, Bool.false_eq_true, Bool.true_eq_false, reduceCtorEq, lt1, lt2, lt3, lt4, lt5, lt10, lt12, lt16, lt100, lt1000, bt1, bt2, bt3, bt4, bt5, bt10, bt12, bt16, bt100, bt1000, bt6, bt25, bt100000, st1, s97, s98, bt98, g8 σ hV, a3, h0]⟩, fun σ hV => ⟨σ, Mf_refl, hV, fun Q => by rw [n138]; simp only [x138_0, x138_1, x138_2, x138_5, x138_8, x138_9, x138_12, x138_15, x138_16, x138_17, x138_18, x138_21, x138_24, x138_27, x138_29, x138_30, x138_31, x138_32, x138_35, x138_38, x138_39, x138_40, x138_41, x138_44, x138_45, x138_46, x138_49, x138_51, x138_52, x138_53, x138_54, x138_55, x138_56, x138_59, x138_60, x138_63, x138_65, x138_66, x138_69, x138_71, x138_73, x138_74, x138_75, x138_78, x138_80, x138_82, x138_83, x138_85, x138_87, x138_89, x138_91, x138_93, x138_96, x138_98, x138_101, x138_102, x138_105, x138_108, x138_109, x138_112, x138_114, x138_115, x138_116, Option.toList_some, Option.toList_none, List.cons_append, List.nil_append, cat_i, cat_r, cat_n, cat_f, cs_n, cs_i, cs_r, cs_l, cs_f, Nat.reduceAdd, Nat.reduceLeDiff, Nat.zero_le, if_true, if_false, true_or, or_true, am_wr_at, Nat.reduceEqDiff, not_true_eq_false, not_false_eq_true, i_one, ite_not, bI_z, bI_nz, bI_t, bI_f, bI_or, Bool.false_eq_true, Bool.true_eq_false, reduceCtorEq, lt1, lt2, lt3, lt4, lt5, lt10, lt12, lt16, lt100, lt1000, bt1, bt2, bt3, bt4, bt5, bt10, bt12, bt16, bt100, bt1000, bt6, bt25, bt100000, s104, s106, s108, g7 σ hV, a4, h0]⟩⟩
/-- ahead of the first beat, or a beat -/
theorem fb_cases {x : Int32} (h : am_bt x.toInt64 (-1) 15 = true) : x = -1 ∨ ∃ b, b < 16 ∧ x = nI b := by
  have h3 := of_decide_eq_true h
  rw [Int32.toInt_toInt64, show (-1 : Int64).toInt = -1 by decide, show (15 : Int64).toInt = 15 by decide] at h3
  by_cases q : x.toInt = -1
  · exact Or.inl (Int32.toInt_inj.mp (by rw [q]; decide))
  · have : rg x 0 15 := ⟨by omega, by omega⟩
    obtain ⟨b, hb, e⟩ := rg_nI (n := 15) (by decide) this
    exact Or.inr ⟨b, by omega, e⟩
theorem fb_no {x : Int32} (h : am_bt x.toInt64 (-1) 15 = false) : x < -1 ∨ (¬ x < -1 ∧ 16 ≤ x) := by
  have h3 := of_decide_eq_false h
  rw [Int32.toInt_toInt64, show (-1 : Int64).toInt = -1 by decide, show (15 : Int64).toInt = 15 by decide] at h3
  by_cases q : x < -1
  · exact Or.inl q
  · refine Or.inr ⟨q, Int32.le_iff_toInt_le.mpr ?_⟩
    have := Int32.le_iff_toInt_le.mp (Int32.not_lt.mp q)
    rw [show (-1 : Int32).toInt = -1 by decide] at this
    rw [show (16 : Int32).toInt = 16 by decide]
    omega
theorem fb_b : ∀ b, b < 16 → ¬ nI b < -1 ∧ ¬ 16 ≤ nI b ∧ ¬ nI b = -1 ∧ 0 ≤ nI b ∧ am_bt (nI b).toInt64 (-1) 15 = true := by decide +kernel
theorem fb_m : ¬ (-1 : Int32) < -1 ∧ ¬ (16 : Int32) ≤ -1 ∧ ¬ (0 : Int32) ≤ -1 ∧ am_bt (-1 : Int32).toInt64 (-1) 15 = true := by decide +kernel
/-- sees -/
theorem sim16 : ∀ x0 x1 : Int32, SimOK sv Inv 77 141 [.int x0, .int x1] := by
  intro b k
  refine sim_q (fun V hok => ?_)
  by_cases h1 : am_bt b.toInt64 (-1) 15 = true
  · by_cases h2 : am_bt k.toInt64 1 9 = true
    · have hk := bt_rg h2
      rcases fb_cases h1 with rfl | ⟨b, hb, rfl⟩
      · obtain ⟨y1, y2, y3, y4⟩ := fb_m
        refine ⟨saF V k 16, fun σ hV => ?_, fun σ hV => ?_⟩
        · obtain ⟨τ, R, c⟩ := c32 (sv := sv) st1 hV hok hk
          refine ⟨τ, Cf_1 R, fun Q => ?_⟩
          rw [n77]
          simp only [x77_0, x77_1, x77_2, x77_5, x77_6, x77_8, x77_11, x77_12, x77_15, x77_18, x77_19, x77_20, x77_21, x77_22, x77_25, x77_26, x77_29, x77_30, x77_33, x77_34, x77_35, x77_38, x77_41, x77_44, x77_45, x77_46, x77_49, x77_51, x77_54, x77_55, x77_58, x77_59, x77_60, x77_63, Option.toList_some, Option.toList_none, List.cons_append, List.nil_append, cat_i, cat_r, cat_n, cat_f, cs_n, cs_i, cs_r, cs_l, cs_f, Nat.reduceAdd, Nat.reduceLeDiff, Nat.zero_le, if_true, if_false, true_or, or_true, am_wr_at, Nat.reduceEqDiff, not_true_eq_false, not_false_eq_true, i_one, ite_not, bI_z, bI_nz, bI_t, bI_f, bI_or, Bool.false_eq_true, Bool.true_eq_false, reduceCtorEq, lt1, lt2, lt3, lt4, lt5, lt10, lt12, lt16, lt100, lt1000, bt1, bt2, bt3, bt4, bt5, bt10, bt12, bt16, bt100, bt1000, bt6, bt25, bt100000, st1, s98, bt98, h2, y1, y2, c]
        · obtain ⟨τ, R, c⟩ := m140 (sv := sv) hV hok hk
          refine ⟨τ, Mf_1 R, (mV_1 R).trans hV, fun Q => ?_⟩
          rw [n141]
          simp only [x141_0, x141_1, x141_2, x141_5, x141_8, x141_11, x141_14, x141_15, x141_16, x141_17, x141_20, x141_23, x141_26, x141_27, x141_28, x141_29, x141_32, x141_33, x141_34, x141_37, x141_40, x141_41, x141_44, x141_45, x141_46, x141_49, x141_51, x141_54, x141_55, x141_56, x141_57, x141_60, Option.toList_some, Option.toList_none, List.cons_append, List.nil_append, cat_i, cat_r, cat_n, cat_f, cs_n, cs_i, cs_r, cs_l, cs_f, Nat.reduceAdd, Nat.reduceLeDiff, Nat.zero_le, if_true, if_false, true_or, or_true, am_wr_at, Nat.reduceEqDiff, not_true_eq_false, not_false_eq_true, i_one, ite_not, bI_z, bI_nz, bI_t, bI_f, bI_or, Bool.false_eq_true, Bool.true_eq_false, reduceCtorEq, lt1, lt2, lt3, lt4, lt5, lt10, lt12, lt16, lt100, lt1000, bt1, bt2, bt3, bt4, bt5, bt10, bt12, bt16, bt100, bt1000, bt6, bt25, bt100000, s104, h2, y3, y4, c]
      · obtain ⟨y1, y2, y3, y4, y5⟩ := fb_b b hb
        have y3' : (nI b = -1) = False := eq_false y3
        have b2 : am_in (nI b) 16 = true := nI_in' (by omega) (by omega)
        have b3 : (nI b).toNatClampNeg = b := nI_clamp (by omega)
        by_cases hs : V 1 b = 0
        · have hs2 : (V 1 b = 0) = True := eq_true hs
          refine ⟨-2, fun σ hV => ⟨σ, Cf_refl, fun Q => ?_⟩, fun σ hV => ⟨σ, Mf_refl, hV, fun Q => ?_⟩⟩
          · have r1 : σ.1 4 b = V 1 b := (rcb hV hb).2.1
            rw [n77]
            simp only [x77_0, x77_1, x77_2, x77_5, x77_6, x77_8, x77_11, x77_12, x77_15, x77_18, x77_19, x77_20, x77_21, x77_22, x77_25, x77_26, x77_29, x77_30, x77_33, x77_34, x77_35, x77_38, x77_41, x77_44, x77_45, x77_46, x77_49, x77_51, x77_54, x77_55, x77_58, x77_59, x77_60, x77_63, Option.toList_some, Option.toList_none, List.cons_append, List.nil_append, cat_i, cat_r, cat_n, cat_f, cs_n, cs_i, cs_r, cs_l, cs_f, Nat.reduceAdd, Nat.reduceLeDiff, Nat.zero_le, if_true, if_false, true_or, or_true, am_wr_at, Nat.reduceEqDiff, not_true_eq_false, not_false_eq_true, i_one, ite_not, bI_z, bI_nz, bI_t, bI_f, bI_or, Bool.false_eq_true, Bool.true_eq_false, reduceCtorEq, lt1, lt2, lt3, lt4, lt5, lt10, lt12, lt16, lt100, lt1000, bt1, bt2, bt3, bt4, bt5, bt10, bt12, bt16, bt100, bt1000, bt6, bt25, bt100000, st1, s98, bt98, h2, y1, y2, y3', lc4, b2, b3, r1, hs2]
          · have r1 : σ.1 73 b = V 1 b := (rmb hV hb).2.1
            rw [n141]
            simp only [x141_0, x141_1, x141_2, x141_5, x141_8, x141_11, x141_14, x141_15, x141_16, x141_17, x141_20, x141_23, x141_26, x141_27, x141_28, x141_29, x141_32, x141_33, x141_34, x141_37, x141_40, x141_41, x141_44, x141_45, x141_46, x141_49, x141_51, x141_54, x141_55, x141_56, x141_57, x141_60, Option.toList_some, Option.toList_none, List.cons_append, List.nil_append, cat_i, cat_r, cat_n, cat_f, cs_n, cs_i, cs_r, cs_l, cs_f, Nat.reduceAdd, Nat.reduceLeDiff, Nat.zero_le, if_true, if_false, true_or, or_true, am_wr_at, Nat.reduceEqDiff, not_true_eq_false, not_false_eq_true, i_one, ite_not, bI_z, bI_nz, bI_t, bI_f, bI_or, Bool.false_eq_true, Bool.true_eq_false, reduceCtorEq, lt1, lt2, lt3, lt4, lt5, lt10, lt12, lt16, lt100, lt1000, bt1, bt2, bt3, bt4, bt5, bt10, bt12, bt16, bt100, bt1000, bt6, bt25, bt100000, s104, h2, y4, y5, lc73, b2, b3, r1, hs2]
        · have hs2 : (V 1 b = 0) = False := eq_false hs
          refine ⟨sbF V b k, fun σ hV => ?_, fun σ hV => ?_⟩
          · have r1 : σ.1 4 b = V 1 b := (rcb hV hb).2.1
            obtain ⟨τ, R, c⟩ := c31 (sv := sv) st1 hV hok hb hk
            refine ⟨τ, Cf_1 R, fun Q => ?_⟩
            rw [n77]
            simp only [x77_0, x77_1, x77_2, x77_5, x77_6, x77_8, x77_11, x77_12, x77_15, x77_18, x77_19, x77_20, x77_21, x77_22, x77_25, x77_26, x77_29, x77_30, x77_33, x77_34, x77_35, x77_38, x77_41, x77_44, x77_45, x77_46, x77_49, x77_51, x77_54, x77_55, x77_58, x77_59, x77_60, x77_63, Option.toList_some, Option.toList_none, List.cons_append, List.nil_append, cat_i, cat_r, cat_n, cat_f, cs_n, cs_i, cs_r, cs_l, cs_f, Nat.reduceAdd, Nat.reduceLeDiff, Nat.zero_le, if_true, if_false, true_or, or_true, am_wr_at, Nat.reduceEqDiff, not_true_eq_false, not_false_eq_true, i_one, ite_not, bI_z, bI_nz, bI_t, bI_f, bI_or, Bool.false_eq_true, Bool.true_eq_false, reduceCtorEq, lt1, lt2, lt3, lt4, lt5, lt10, lt12, lt16, lt100, lt1000, bt1, bt2, bt3, bt4, bt5, bt10, bt12, bt16, bt100, bt1000, bt6, bt25, bt100000, st1, s98, bt98, h2, y1, y2, y3', lc4, b2, b3, r1, hs2, c]
          · have r1 : σ.1 73 b = V 1 b := (rmb hV hb).2.1
            obtain ⟨τ, R, c⟩ := m139 (sv := sv) hV hok hb hk
            refine ⟨τ, Mf_1 R, (mV_1 R).trans hV, fun Q => ?_⟩
            simp only [hs2, if_false] at c
            rw [n141]
            simp only [x141_0, x141_1, x141_2, x141_5, x141_8, x141_11, x141_14, x141_15, x141_16, x141_17, x141_20, x141_23, x141_26, x141_27, x141_28, x141_29, x141_32, x141_33, x141_34, x141_37, x141_40, x141_41, x141_44, x141_45, x141_46, x141_49, x141_51, x141_54, x141_55, x141_56, x141_57, x141_60, Option.toList_some, Option.toList_none, List.cons_append, List.nil_append, cat_i, cat_r, cat_n, cat_f, cs_n, cs_i, cs_r, cs_l, cs_f, Nat.reduceAdd, Nat.reduceLeDiff, Nat.zero_le, if_true, if_false, true_or, or_true, am_wr_at, Nat.reduceEqDiff, not_true_eq_false, not_false_eq_true, i_one, ite_not, bI_z, bI_nz, bI_t, bI_f, bI_or, Bool.false_eq_true, Bool.true_eq_false, reduceCtorEq, lt1, lt2, lt3, lt4, lt5, lt10, lt12, lt16, lt100, lt1000, bt1, bt2, bt3, bt4, bt5, bt10, bt12, bt16, bt100, bt1000, bt6, bt25, bt100000, s104, h2, y4, y5, lc73, b2, b3, r1, hs2, c]
    · have h2 : am_bt k.toInt64 1 9 = false := by simpa using h2
      refine ⟨-1, fun σ hV => ⟨σ, Cf_refl, fun Q => ?_⟩, fun σ hV => ⟨σ, Mf_refl, hV, fun Q => by rw [n141]; simp only [x141_0, x141_1, x141_2, x141_5, x141_8, x141_11, x141_14, x141_15, x141_16, x141_17, x141_20, x141_23, x141_26, x141_27, x141_28, x141_29, x141_32, x141_33, x141_34, x141_37, x141_40, x141_41, x141_44, x141_45, x141_46, x141_49, x141_51, x141_54, x141_55, x141_56, x141_57, x141_60, Option.toList_some, Option.toList_none, List.cons_append, List.nil_append, cat_i, cat_r, cat_n, cat_f, cs_n, cs_i, cs_r, cs_l, cs_f, Nat.reduceAdd, Nat.reduceLeDiff, Nat.zero_le, if_true, if_false, true_or, or_true, am_wr_at, Nat.reduceEqDiff, not_true_eq_false, not_false_eq_true, i_one, ite_not, bI_z, bI_nz, bI_t, bI_f, bI_or, Bool.false_eq_true, Bool.true_eq_false, reduceCtorEq, lt1, lt2, lt3, lt4, lt5, lt10, lt12, lt16, lt100, lt1000, bt1, bt2, bt3, bt4, bt5, bt10, bt12, bt16, bt100, bt1000, bt6, bt25, bt100000, s104, h1, h2]⟩⟩
      rw [n77]
      rcases fb_cases h1 with rfl | ⟨b, hb, rfl⟩
      · obtain ⟨y1, y2, y3, y4⟩ := fb_m
        simp only [x77_0, x77_1, x77_2, x77_5, x77_6, x77_8, x77_11, x77_12, x77_15, x77_18, x77_19, x77_20, x77_21, x77_22, x77_25, x77_26, x77_29, x77_30, x77_33, x77_34, x77_35, x77_38, x77_41, x77_44, x77_45, x77_46, x77_49, x77_51, x77_54, x77_55, x77_58, x77_59, x77_60, x77_63, Option.toList_some, Option.toList_none, List.cons_append, List.nil_append, cat_i, cat_r, cat_n, cat_f, cs_n, cs_i, cs_r, cs_l, cs_f, Nat.reduceAdd, Nat.reduceLeDiff, Nat.zero_le, if_true, if_false, true_or, or_true, am_wr_at, Nat.reduceEqDiff, not_true_eq_false, not_false_eq_true, i_one, ite_not, bI_z, bI_nz, bI_t, bI_f, bI_or, Bool.false_eq_true, Bool.true_eq_false, reduceCtorEq, lt1, lt2, lt3, lt4, lt5, lt10, lt12, lt16, lt100, lt1000, bt1, bt2, bt3, bt4, bt5, bt10, bt12, bt16, bt100, bt1000, bt6, bt25, bt100000, st1, s98, bt98, h2, y1, y2]
      · obtain ⟨y1, y2, y3, y4, y5⟩ := fb_b b hb
        simp only [x77_0, x77_1, x77_2, x77_5, x77_6, x77_8, x77_11, x77_12, x77_15, x77_18, x77_19, x77_20, x77_21, x77_22, x77_25, x77_26, x77_29, x77_30, x77_33, x77_34, x77_35, x77_38, x77_41, x77_44, x77_45, x77_46, x77_49, x77_51, x77_54, x77_55, x77_58, x77_59, x77_60, x77_63, Option.toList_some, Option.toList_none, List.cons_append, List.nil_append, cat_i, cat_r, cat_n, cat_f, cs_n, cs_i, cs_r, cs_l, cs_f, Nat.reduceAdd, Nat.reduceLeDiff, Nat.zero_le, if_true, if_false, true_or, or_true, am_wr_at, Nat.reduceEqDiff, not_true_eq_false, not_false_eq_true, i_one, ite_not, bI_z, bI_nz, bI_t, bI_f, bI_or, Bool.false_eq_true, Bool.true_eq_false, reduceCtorEq, lt1, lt2, lt3, lt4, lt5, lt10, lt12, lt16, lt100, lt1000, bt1, bt2, bt3, bt4, bt5, bt10, bt12, bt16, bt100, bt1000, bt6, bt25, bt100000, st1, s98, bt98, h2, y1, y2]
  · have h1 : am_bt b.toInt64 (-1) 15 = false := by simpa using h1
    refine ⟨-1, fun σ hV => ⟨σ, Cf_refl, fun Q => ?_⟩, fun σ hV => ⟨σ, Mf_refl, hV, fun Q => by rw [n141]; simp only [x141_0, x141_1, x141_2, x141_5, x141_8, x141_11, x141_14, x141_15, x141_16, x141_17, x141_20, x141_23, x141_26, x141_27, x141_28, x141_29, x141_32, x141_33, x141_34, x141_37, x141_40, x141_41, x141_44, x141_45, x141_46, x141_49, x141_51, x141_54, x141_55, x141_56, x141_57, x141_60, Option.toList_some, Option.toList_none, List.cons_append, List.nil_append, cat_i, cat_r, cat_n, cat_f, cs_n, cs_i, cs_r, cs_l, cs_f, Nat.reduceAdd, Nat.reduceLeDiff, Nat.zero_le, if_true, if_false, true_or, or_true, am_wr_at, Nat.reduceEqDiff, not_true_eq_false, not_false_eq_true, i_one, ite_not, bI_z, bI_nz, bI_t, bI_f, bI_or, Bool.false_eq_true, Bool.true_eq_false, reduceCtorEq, lt1, lt2, lt3, lt4, lt5, lt10, lt12, lt16, lt100, lt1000, bt1, bt2, bt3, bt4, bt5, bt10, bt12, bt16, bt100, bt1000, bt6, bt25, bt100000, s104, h1]⟩⟩
    rw [n77]
    rcases fb_no h1 with q | ⟨q, q2⟩
    · simp only [x77_0, x77_1, x77_2, x77_5, x77_6, x77_8, x77_11, x77_12, x77_15, x77_18, x77_19, x77_20, x77_21, x77_22, x77_25, x77_26, x77_29, x77_30, x77_33, x77_34, x77_35, x77_38, x77_41, x77_44, x77_45, x77_46, x77_49, x77_51, x77_54, x77_55, x77_58, x77_59, x77_60, x77_63, Option.toList_some, Option.toList_none, List.cons_append, List.nil_append, cat_i, cat_r, cat_n, cat_f, cs_n, cs_i, cs_r, cs_l, cs_f, Nat.reduceAdd, Nat.reduceLeDiff, Nat.zero_le, if_true, if_false, true_or, or_true, am_wr_at, Nat.reduceEqDiff, not_true_eq_false, not_false_eq_true, i_one, ite_not, bI_z, bI_nz, bI_t, bI_f, bI_or, Bool.false_eq_true, Bool.true_eq_false, reduceCtorEq, q]
    · simp only [x77_0, x77_1, x77_2, x77_5, x77_6, x77_8, x77_11, x77_12, x77_15, x77_18, x77_19, x77_20, x77_21, x77_22, x77_25, x77_26, x77_29, x77_30, x77_33, x77_34, x77_35, x77_38, x77_41, x77_44, x77_45, x77_46, x77_49, x77_51, x77_54, x77_55, x77_58, x77_59, x77_60, x77_63, Option.toList_some, Option.toList_none, List.cons_append, List.nil_append, cat_i, cat_r, cat_n, cat_f, cs_n, cs_i, cs_r, cs_l, cs_f, Nat.reduceAdd, Nat.reduceLeDiff, Nat.zero_le, if_true, if_false, true_or, or_true, am_wr_at, Nat.reduceEqDiff, not_true_eq_false, not_false_eq_true, i_one, ite_not, bI_z, bI_nz, bI_t, bI_f, bI_or, Bool.false_eq_true, Bool.true_eq_false, reduceCtorEq, q, q2]
end I63
