/-! OFTEN, SHOWN -/
def ofN (V : Nat → Nat → Int32) (most : Int32) : Nat → Nat
  | 0 => 0
  | k + 1 => if most < saF V (nI (k + 1)) 16 then ofN V most k else k + 1
theorem nI_m1 {j : Nat} : nI (j + 1) + -1 = nI j := by
  have := nI_pred j
  rwa [Int32.sub_eq_add_neg] at this
theorem rg_nk {j : Nat} (h : j < 9) : rg (nI (j + 1)) 1 9 := by
  unfold rg
  rw [nI_toInt (by omega)]
  omega
def vvF (f : Nat → Int32) : Nat → Value
  | 0 => .null
  | i + 1 => .int (f i)
def yF (V : Nat → Nat → Int32) (t b : Nat) : Int32 := 10 - V 5 4 * (nI t - nI b)
def shF (V : Nat → Nat → Int32) (t : Nat) : Nat → Int32
  | 0 => 0
  | b + 1 => if V 1 b = 0 then shF V t b else if yF V t b ≤ 0 then shF V t b else shF V t b + sbF V b 1 * yF V t b / 10
def slF (V : Nat → Nat → Int32) (t : Nat) : Int32 := shF V t t
def lsF (V : Nat → Nat → Int32) : Nat → Option Nat
  | 0 => none
  | b + 1 => if V 1 b = 0 then lsF V b else some b
def lsI (d : Int32) : Option Nat → Int32
  | none => d
  | some b => nI b
def bsF (V : Nat → Nat → Int32) (l : Nat) : Nat → Int32 × Int32
  | 0 => (nI (l + 1), slF V (l + 1))
  | i + 1 => if (bsF V l i).2 ≤ slF V (l + 2 + i) then bsF V l i else (nI (l + 2 + i), slF V (l + 2 + i))
def bshF (V : Nat → Nat → Int32) : Int32 := match lsF V 16 with
  | none => -4
  | some l => if l = 15 then -4 else (bsF V l (14 - l)).1
theorem bsh_n {V : Nat → Nat → Int32} (h : lsF V 16 = none) : bshF V = -4 := by unfold bshF; rw [h]
theorem bsh_s {V : Nat → Nat → Int32} {l : Nat} (h : lsF V 16 = some l) : bshF V = if l = 15 then -4 else (bsF V l (14 - l)).1 := by unfold bshF; rw [h]
def isF (V : Nat → Nat → Int32) (l : Nat) : Nat → Int32
  | 0 => 1
  | i + 1 => if (bsF V l i).2 ≤ slF V (l + 2 + i) then 0 else 1
theorem bs_pos {V : Nat → Nat → Int32} {l : Nat} (hl : l < 16) : ∀ i, i < 16 → ¬ (bsF V l i).1 < 0 := by
  intro i
  induction i with
  | zero => intro _; exact nI_pos (by omega)
  | succ i ih =>
    intro hi
    simp only [bsF]
    split
    · exact ih (by omega)
    · exact nI_pos (by omega)
theorem ls_lt {V : Nat → Nat → Int32} {l : Nat} : ∀ n, lsF V n = some l → l < n := by
  intro n
  induction n with
  | zero => intro h; cases h
  | succ n ih =>
    intro h
    simp only [lsF] at h
    split at h
    · have := ih h; omega
    · cases h; omega
theorem rg11 : rg 1 1 9 := ⟨by decide, by decide⟩
theorem t45 : am_in 4 5 = true := by decide
theorem n4c : (4 : Int32).toNatClampNeg = 4 := by decide
section I64
variable {sv : am_V} {σ τ ρ : am_S} {Q : Option Value → am_H → Prop} {k hd : Int32} {a b w : Nat} {V : Nat → Nat → Int32}
theorem c83 {most : Int32} (hok : okV V) : ∀ j, j ≤ 9 → ∀ σ, cV σ 1 = V → ∃ τ, Cx 1 σ τ ∧ ∀ Q, AW sv 83 15 [.ref 0, .int most, .int (nI j)] [] (am_toH σ) 0 0 Q = Q (some (.int (nI (ofN V most j)))) (am_toH τ) := by
  intro j
  induction j with
  | zero =>
    intro _ σ hV
    have y : (0 : Int32) < 1 := by decide
    refine ⟨σ, Cx_refl, fun Q => ?_⟩
    rw [x83_15]
    simp only [x83_16, x83_17, x83_40, x83_41, Option.toList_some, Option.toList_none, List.cons_append, List.nil_append, cat_i, cat_r, cat_n, cat_f, cs_n, cs_i, cs_r, cs_l, cs_f, Nat.reduceAdd, Nat.reduceLeDiff, Nat.zero_le, if_true, if_false, true_or, or_true, am_wr_at, Nat.reduceEqDiff, not_true_eq_false, not_false_eq_true, i_one, ite_not, bI_z, bI_nz, bI_t, bI_f, bI_or, Bool.false_eq_true, Bool.true_eq_false, reduceCtorEq, y, ofN, nI_0]
  | succ j ih =>
    intro hj σ hV
    have y : ¬ nI (j + 1) < 1 := nI_nlt (b := 1) (by omega) (by omega)
    obtain ⟨τ, R, c⟩ := c32 (sv := sv) st1 hV hok (rg_nk (by omega : j < 9))
    by_cases q : most < saF V (nI (j + 1)) 16
    · obtain ⟨ρ, R2, e⟩ := ih (by omega) τ ((Cx_cV R).trans hV)
      refine ⟨ρ, Cx_trans R R2, fun Q => ?_⟩
      have q' : (most < saF V (nI (j + 1)) 16) = True := eq_true q
      simp only [ofN, q', if_true]
      rw [← e Q, x83_15]
      simp only [x83_16, x83_17, x83_20, x83_21, x83_24, x83_25, x83_28, x83_29, x83_32, x83_33, x83_34, x83_37, Option.toList_some, Option.toList_none, List.cons_append, List.nil_append, cat_i, cat_r, cat_n, cat_f, cs_n, cs_i, cs_r, cs_l, cs_f, Nat.reduceAdd, Nat.reduceLeDiff, Nat.zero_le, if_true, if_false, true_or, or_true, am_wr_at, Nat.reduceEqDiff, not_true_eq_false, not_false_eq_true, i_one, ite_not, bI_z, bI_nz, bI_t, bI_f, bI_or, Bool.false_eq_true, Bool.true_eq_false, reduceCtorEq, st1, y, c, q', nI_m1]
    · refine ⟨τ, R, fun Q => ?_⟩
      have q' : (most < saF V (nI (j + 1)) 16) = False := eq_false q
      simp only [ofN, q', if_false]
      rw [x83_15]
      simp only [x83_16, x83_17, x83_20, x83_21, x83_24, x83_25, x83_28, x83_29, x83_32, x83_33, Option.toList_some, Option.toList_none, List.cons_append, List.nil_append, cat_i, cat_r, cat_n, cat_f, cs_n, cs_i, cs_r, cs_l, cs_f, Nat.reduceAdd, Nat.reduceLeDiff, Nat.zero_le, if_true, if_false, true_or, or_true, am_wr_at, Nat.reduceEqDiff, not_true_eq_false, not_false_eq_true, i_one, ite_not, bI_z, bI_nz, bI_t, bI_f, bI_or, Bool.false_eq_true, Bool.true_eq_false, reduceCtorEq, st1, y, c, q']
theorem m148 {most : Int32} (hok : okV V) : ∀ j, j ≤ 9 → ∀ σ, mV σ = V → ∃ τ : am_S, τ.1 = σ.1 ∧ ∀ Q, AW sv 148 17 [.ref 71, .int most, .int (nI j)] [] (am_toH σ) 0 0 Q = Q (some (.int (nI (ofN V most j)))) (am_toH τ) := by
  intro j
  induction j with
  | zero =>
    intro _ σ hV
    have y : nI 0 ≤ 0 := by decide
    refine ⟨σ, rfl, fun Q => ?_⟩
    rw [x148_17]
    simp only [x148_18, x148_36, x148_37, Option.toList_some, Option.toList_none, List.cons_append, List.nil_append, cat_i, cat_r, cat_n, cat_f, cs_n, cs_i, cs_r, cs_l, cs_f, Nat.reduceAdd, Nat.reduceLeDiff, Nat.zero_le, if_true, if_false, true_or, or_true, am_wr_at, Nat.reduceEqDiff, not_true_eq_false, not_false_eq_true, i_one, ite_not, bI_z, bI_nz, bI_t, bI_f, bI_or, Bool.false_eq_true, Bool.true_eq_false, reduceCtorEq, y, ofN]
  | succ j ih =>
    intro hj σ hV
    have y : ¬ nI (j + 1) ≤ 0 := nI_nle (by omega) (by omega)
    obtain ⟨τ, R, c⟩ := m140 (sv := sv) hV hok (rg_nk (by omega : j < 9))
    by_cases q : most < saF V (nI (j + 1)) 16
    · obtain ⟨ρ, R2, e⟩ := ih (by omega) τ ((mV_1 R).trans hV)
      refine ⟨ρ, R2.trans R, fun Q => ?_⟩
      have q' : (most < saF V (nI (j + 1)) 16) = True := eq_true q
      have q2 : (saF V (nI (j + 1)) 16 ≤ most) = False := eq_false (Int32.not_le.mpr q)
      simp only [ofN, q', if_true]
      rw [← e Q, x148_17]
      simp only [x148_18, x148_21, x148_22, x148_23, x148_26, x148_27, x148_30, x148_33, Option.toList_some, Option.toList_none, List.cons_append, List.nil_append, cat_i, cat_r, cat_n, cat_f, cs_n, cs_i, cs_r, cs_l, cs_f, Nat.reduceAdd, Nat.reduceLeDiff, Nat.zero_le, if_true, if_false, true_or, or_true, am_wr_at, Nat.reduceEqDiff, not_true_eq_false, not_false_eq_true, i_one, ite_not, bI_z, bI_nz, bI_t, bI_f, bI_or, Bool.false_eq_true, Bool.true_eq_false, reduceCtorEq, y, c, q2, nI_m1]
    · refine ⟨τ, R, fun Q => ?_⟩
      have q' : (most < saF V (nI (j + 1)) 16) = False := eq_false q
      have q2 : (saF V (nI (j + 1)) 16 ≤ most) = True := eq_true (Int32.not_lt.mp q)
      simp only [ofN, q', if_false]
      rw [x148_17]
      simp only [x148_18, x148_21, x148_22, x148_23, x148_26, x148_27, x148_30, x148_33, x148_36, x148_37, Option.toList_some, Option.toList_none, List.cons_append, List.nil_append, cat_i, cat_r, cat_n, cat_f, cs_n, cs_i, cs_r, cs_l, cs_f, Nat.reduceAdd, Nat.reduceLeDiff, Nat.zero_le, if_true, if_false, true_or, or_true, am_wr_at, Nat.reduceEqDiff, not_true_eq_false, not_false_eq_true, i_one, ite_not, bI_z, bI_nz, bI_t, bI_f, bI_or, Bool.false_eq_true, Bool.true_eq_false, reduceCtorEq, y, c, q2]
theorem mo_no {x : Int32} (h : am_in x 100000 = false) : x < 0 ∨ (¬ x < 0 ∧ ¬ x ≤ 99999) := by
  have h3 := of_decide_eq_false h
  by_cases q : x < 0
  · exact Or.inl q
  · refine Or.inr ⟨q, fun c => h3 ?_⟩
    have g1 := Int32.le_iff_toInt_le.mp (Int32.not_lt.mp q)
    have g2 := Int32.le_iff_toInt_le.mp c
    rw [show (0 : Int32).toInt = 0 by decide] at g1
    rw [show (99999 : Int32).toInt = 99999 by decide] at g2
    omega
/-- often -/
theorem sim22 : ∀ x0 : Int32, SimOK sv Inv 83 148 [.int x0] := by
  intro most
  refine sim_q (fun V hok => ?_)
  by_cases h1 : am_in most 100000 = true
  · obtain ⟨m, hm, e⟩ := in_nI h1 (by decide)
    have y1 : ¬ most < 0 := by rw [e]; exact nI_pos (by omega)
    have y2 : most ≤ 99999 := by rw [e]; exact nI_le (b := 99999) (by omega) (by decide)
    refine ⟨nI (ofN V most 9), fun σ hV => ?_, fun σ hV => ?_⟩
    · obtain ⟨τ, R, c⟩ := c83 (sv := sv) (most := most) hok 9 (Nat.le_refl _) σ hV
      refine ⟨τ, Cf_1 R, fun Q => ?_⟩
      rw [← c Q, n83]
      simp only [x83_0, x83_1, x83_4, x83_5, x83_7, x83_10, x83_11, x83_12, x83_14, Option.toList_some, Option.toList_none, List.cons_append, List.nil_append, cat_i, cat_r, cat_n, cat_f, cs_n, cs_i, cs_r, cs_l, cs_f, Nat.reduceAdd, Nat.reduceLeDiff, Nat.zero_le, if_true, if_false, true_or, or_true, am_wr_at, Nat.reduceEqDiff, not_true_eq_false, not_false_eq_true, i_one, ite_not, bI_z, bI_nz, bI_t, bI_f, bI_or, Bool.false_eq_true, Bool.true_eq_false, reduceCtorEq, y1, y2]
      rfl
    · obtain ⟨τ, R, c⟩ := m148 (sv := sv) (most := most) hok 9 (Nat.le_refl _) σ hV
      refine ⟨τ, Mf_1 R, (mV_1 R).trans hV, fun Q => ?_⟩
      rw [← c Q, n148]
      simp only [x148_0, x148_1, x148_2, x148_3, x148_6, x148_9, x148_12, x148_13, x148_14, x148_16, Option.toList_some, Option.toList_none, List.cons_append, List.nil_append, cat_i, cat_r, cat_n, cat_f, cs_n, cs_i, cs_r, cs_l, cs_f, Nat.reduceAdd, Nat.reduceLeDiff, Nat.zero_le, if_true, if_false, true_or, or_true, am_wr_at, Nat.reduceEqDiff, not_true_eq_false, not_false_eq_true, i_one, ite_not, bI_z, bI_nz, bI_t, bI_f, bI_or, Bool.false_eq_true, Bool.true_eq_false, reduceCtorEq, lt1, lt2, lt3, lt4, lt5, lt10, lt12, lt16, lt100, lt1000, bt1, bt2, bt3, bt4, bt5, bt10, bt12, bt16, bt100, bt1000, bt6, bt25, bt100000, s104, h1]
      rfl
  · have h1 : am_in most 100000 = false := by simpa using h1
    refine ⟨-1, fun σ hV => ⟨σ, Cf_refl, fun Q => ?_⟩, fun σ hV => ⟨σ, Mf_refl, hV, fun Q => by rw [n148]; simp only [x148_0, x148_1, x148_2, x148_3, x148_6, x148_9, x148_12, x148_13, x148_14, x148_16, x148_17, x148_18, x148_21, x148_22, x148_23, x148_26, x148_27, x148_30, x148_33, x148_36, x148_37, Option.toList_some, Option.toList_none, List.cons_append, List.nil_append, cat_i, cat_r, cat_n, cat_f, cs_n, cs_i, cs_r, cs_l, cs_f, Nat.reduceAdd, Nat.reduceLeDiff, Nat.zero_le, if_true, if_false, true_or, or_true, am_wr_at, Nat.reduceEqDiff, not_true_eq_false, not_false_eq_true, i_one, ite_not, bI_z, bI_nz, bI_t, bI_f, bI_or, Bool.false_eq_true, Bool.true_eq_false, reduceCtorEq, lt1, lt2, lt3, lt4, lt5, lt10, lt12, lt16, lt100, lt1000, bt1, bt2, bt3, bt4, bt5, bt10, bt12, bt16, bt100, bt1000, bt6, bt25, bt100000, s104, h1]⟩⟩
    rw [n83]
    rcases mo_no h1 with q | ⟨q, q2⟩
    · simp only [x83_0, x83_1, x83_4, x83_5, x83_7, x83_10, x83_11, x83_12, x83_14, x83_15, x83_16, x83_17, x83_20, x83_21, x83_24, x83_25, x83_28, x83_29, x83_32, x83_33, x83_34, x83_37, x83_40, x83_41, Option.toList_some, Option.toList_none, List.cons_append, List.nil_append, cat_i, cat_r, cat_n, cat_f, cs_n, cs_i, cs_r, cs_l, cs_f, Nat.reduceAdd, Nat.reduceLeDiff, Nat.zero_le, if_true, if_false, true_or, or_true, am_wr_at, Nat.reduceEqDiff, not_true_eq_false, not_false_eq_true, i_one, ite_not, bI_z, bI_nz, bI_t, bI_f, bI_or, Bool.false_eq_true, Bool.true_eq_false, reduceCtorEq, q]
    · simp only [x83_0, x83_1, x83_4, x83_5, x83_7, x83_10, x83_11, x83_12, x83_14, x83_15, x83_16, x83_17, x83_20, x83_21, x83_24, x83_25, x83_28, x83_29, x83_32, x83_33, x83_34, x83_37, x83_40, x83_41, Option.toList_some, Option.toList_none, List.cons_append, List.nil_append, cat_i, cat_r, cat_n, cat_f, cs_n, cs_i, cs_r, cs_l, cs_f, Nat.reduceAdd, Nat.reduceLeDiff, Nat.zero_le, if_true, if_false, true_or, or_true, am_wr_at, Nat.reduceEqDiff, not_true_eq_false, not_false_eq_true, i_one, ite_not, bI_z, bI_nz, bI_t, bI_f, bI_or, Bool.false_eq_true, Bool.true_eq_false, reduceCtorEq, q, q2]
/-! shown -/
theorem c34 (ha : am_St a) (hV : cV σ a = V) (hok : okV V) {t : Nat} (ht : t < 16) : ∃ τ, Cx a σ τ ∧ ∀ Q, AM sv 34 [.ref a, .int (nI t)] (am_toH σ) Q = Q (some (.int (slF V t))) (am_toH τ) := by
  obtain ⟨τ, R, e⟩ := am_upE (N := t) (σ := σ) (R := fun _ τ => Cx a σ τ) (F := fun i τ Q => AW sv 34 4 [.ref a, .int (nI t), .int (shF V t i), .int (nI i), vvF (fun i => if 0 < yF V t i then yF V t i else 0) i] [] (am_toH τ) 0 0 Q) Cx_refl (by
    intro i τ hi R
    have hVτ : cV τ a = V := (Cx_cV R).trans hV
    obtain ⟨τ', R', c⟩ := c31 (sv := sv) (b := i) ha hVτ hok (by omega) rg11
    obtain ⟨r0, r1, r2, r3, r4⟩ := rcb (b := i) hVτ (by omega)
    have l4 : τ.1 (a + 19) 4 = V 5 4 := rcl hVτ (by decide)
    have e0 : ¬ nI t ≤ nI i := nI_ge (by omega) (by omega)
    have e1 : ¬ 16 ≤ nI i := by
      show ¬ nI 16 ≤ nI i
      exact nI_ge (by omega) (by decide)
    have e2 : am_in (nI i) 16 = true := nI_in' (by omega) (by omega)
    have e3 : (nI i).toNatClampNeg = i := nI_clamp (by omega)
    have ey : 10 - V 5 4 * (nI t - nI i) = yF V t i := rfl
    simp only [shF, vvF]
    generalize vvF (fun i => if 0 < yF V t i then yF V t i else 0) i = vv
    by_cases q : V 1 i = 0
    · have q' : (V 1 i = 0) = True := eq_true q
      refine ⟨τ, R, fun Q => ?_⟩
      rw [x34_4]
      simp only [x34_5, x34_6, x34_9, x34_10, x34_12, x34_15, x34_16, x34_18, x34_19, x34_22, x34_23, x34_24, x34_25, x34_26, x34_27, x34_28, x34_29, x34_32, x34_34, x34_35, x34_38, x34_41, x34_42, x34_43, x34_46, x34_48, x34_51, x34_52, x34_53, x34_54, x34_55, x34_58, x34_60, x34_61, x34_63, x34_64, x34_65, x34_66, x34_69, Option.toList_some, Option.toList_none, List.cons_append, List.nil_append, cat_i, cat_r, cat_n, cat_f, cs_n, cs_i, cs_r, cs_l, cs_f, Nat.reduceAdd, Nat.reduceLeDiff, Nat.zero_le, if_true, if_false, true_or, or_true, am_wr_at, Nat.reduceEqDiff, not_true_eq_false, not_false_eq_true, i_one, ite_not, bI_z, bI_nz, bI_t, bI_f, bI_or, Bool.false_eq_true, Bool.true_eq_false, reduceCtorEq, ha, ln3, ln19, t45, n4c, l4, ey, e0, e1, e2, e3, r1, q', nI_1]
    · have q' : (V 1 i = 0) = False := eq_false q
      by_cases q2 : yF V t i ≤ 0
      · have q3 : (0 < yF V t i) = False := eq_false (Int32.not_lt.mpr q2)
        have q4 : (yF V t i ≤ 0) = True := eq_true q2
        refine ⟨τ, R, fun Q => ?_⟩
        rw [x34_4]
        simp only [x34_5, x34_6, x34_9, x34_10, x34_12, x34_15, x34_16, x34_18, x34_19, x34_22, x34_23, x34_24, x34_25, x34_26, x34_27, x34_28, x34_29, x34_32, x34_34, x34_35, x34_38, x34_41, x34_42, x34_43, x34_46, x34_48, x34_51, x34_52, x34_53, x34_54, x34_55, x34_58, x34_60, x34_61, x34_63, x34_64, x34_65, x34_66, x34_69, Option.toList_some, Option.toList_none, List.cons_append, List.nil_append, cat_i, cat_r, cat_n, cat_f, cs_n, cs_i, cs_r, cs_l, cs_f, Nat.reduceAdd, Nat.reduceLeDiff, Nat.zero_le, if_true, if_false, true_or, or_true, am_wr_at, Nat.reduceEqDiff, not_true_eq_false, not_false_eq_true, i_one, ite_not, bI_z, bI_nz, bI_t, bI_f, bI_or, Bool.false_eq_true, Bool.true_eq_false, reduceCtorEq, ha, ln3, ln19, t45, n4c, l4, ey, e0, e1, e2, e3, r1, q', q3, q4, nI_1]
      · have q3 : (0 < yF V t i) = True := eq_true (Int32.not_le.mp q2)
        have q4 : (yF V t i ≤ 0) = False := eq_false q2
        have q5 : (yF V t i = 0) = False := eq_false (fun c => q2 (by rw [c]; decide))
        refine ⟨τ', Cx_trans R R', fun Q => ?_⟩
        rw [x34_4]
        simp only [x34_5, x34_6, x34_9, x34_10, x34_12, x34_15, x34_16, x34_18, x34_19, x34_22, x34_23, x34_24, x34_25, x34_26, x34_27, x34_28, x34_29, x34_32, x34_34, x34_35, x34_38, x34_41, x34_42, x34_43, x34_46, x34_48, x34_51, x34_52, x34_53, x34_54, x34_55, x34_58, x34_60, x34_61, x34_63, x34_64, x34_65, x34_66, x34_69, Option.toList_some, Option.toList_none, List.cons_append, List.nil_append, cat_i, cat_r, cat_n, cat_f, cs_n, cs_i, cs_r, cs_l, cs_f, Nat.reduceAdd, Nat.reduceLeDiff, Nat.zero_le, if_true, if_false, true_or, or_true, am_wr_at, Nat.reduceEqDiff, not_true_eq_false, not_false_eq_true, i_one, ite_not, bI_z, bI_nz, bI_t, bI_f, bI_or, Bool.false_eq_true, Bool.true_eq_false, reduceCtorEq, ha, ln3, ln19, t45, n4c, l4, ey, e0, e1, e2, e3, r1, q', q3, q4, q5, c, ten_ne0, nI_1])
  refine ⟨τ, R, fun Q => ?_⟩
  have e1 : nI t ≤ nI t := nI_le (by omega) (by omega)
  rw [n34]
  simp only [x34_0, x34_1, x34_2, x34_3, Option.toList_some, Option.toList_none, List.cons_append, List.nil_append, cat_i, cat_r, cat_n, cat_f, cs_n, cs_i, cs_r, cs_l, cs_f, Nat.reduceAdd, Nat.reduceLeDiff, Nat.zero_le, if_true, if_false, true_or, or_true, am_wr_at, Nat.reduceEqDiff, not_true_eq_false, not_false_eq_true, i_one, ite_not, bI_z, bI_nz, bI_t, bI_f, bI_or, Bool.false_eq_true, Bool.true_eq_false, reduceCtorEq]
  refine (e Q).trans ?_
  unfold slF
  generalize vvF (fun i => if 0 < yF V t i then yF V t i else 0) t = vv
  show AW sv 34 4 [.ref a, .int (nI t), .int (shF V t t), .int (nI t), vv] [] (am_toH τ) 0 0 Q = _
  rw [x34_4]
  simp only [x34_5, x34_6, x34_72, x34_73, Option.toList_some, Option.toList_none, List.cons_append, List.nil_append, cat_i, cat_r, cat_n, cat_f, cs_n, cs_i, cs_r, cs_l, cs_f, Nat.reduceAdd, Nat.reduceLeDiff, Nat.zero_le, if_true, if_false, true_or, or_true, am_wr_at, Nat.reduceEqDiff, not_true_eq_false, not_false_eq_true, i_one, ite_not, bI_z, bI_nz, bI_t, bI_f, bI_or, Bool.false_eq_true, Bool.true_eq_false, reduceCtorEq, e1]
theorem z10 : (0 : Int32) / 10 = 0 := by decide
theorem m150 (hV : mV σ = V) (hok : okV V) {t : Nat} (ht : t < 16) : ∃ τ : am_S, τ.1 = σ.1 ∧ ∀ Q, AM sv 150 [.ref 71, .int (nI t)] (am_toH σ) Q = Q (some (.int (slF V t))) (am_toH τ) := by
  obtain ⟨τ, R, e⟩ := am_upE (N := t) (σ := σ) (R := fun _ τ => τ.1 = σ.1) (F := fun i τ Q => AW sv 150 4 [.ref 71, .int (nI t), .int (shF V t i), .int (nI i), vvF (fun i => yF V t i) i] [] (am_toH τ) 0 0 Q) rfl (by
    intro i τ hi R
    have hVτ : mV τ = V := (mV_1 R).trans hV
    obtain ⟨τ', R', c⟩ := m139 (sv := sv) (b := i) hVτ hok (by omega) rg11
    have l4 : τ.1 77 4 = V 5 4 := rml hVτ (by decide)
    have e0 : ¬ nI t ≤ nI i := nI_ge (by omega) (by omega)
    have ey : 10 - V 5 4 * (nI t - nI i) = yF V t i := rfl
    simp only [shF, vvF]
    generalize vvF (fun i => yF V t i) i = vv
    by_cases q2 : yF V t i ≤ 0
    · have q4 : (yF V t i ≤ 0) = True := eq_true q2
      refine ⟨τ, R, fun Q => ?_⟩
      rw [x150_4]
      simp only [x150_5, x150_6, x150_9, x150_11, x150_12, x150_15, x150_16, x150_17, x150_18, x150_19, x150_20, x150_21, x150_22, x150_24, x150_25, x150_27, x150_30, x150_31, x150_32, x150_33, x150_36, x150_38, x150_39, x150_41, x150_42, x150_45, x150_46, x150_47, x150_48, x150_51, Option.toList_some, Option.toList_none, List.cons_append, List.nil_append, cat_i, cat_r, cat_n, cat_f, cs_n, cs_i, cs_r, cs_l, cs_f, Nat.reduceAdd, Nat.reduceLeDiff, Nat.zero_le, if_true, if_false, true_or, or_true, am_wr_at, Nat.reduceEqDiff, not_true_eq_false, not_false_eq_true, i_one, ite_not, bI_z, bI_nz, bI_t, bI_f, bI_or, Bool.false_eq_true, Bool.true_eq_false, reduceCtorEq, lc77, t45, n4c, l4, ey, e0, q4, Int32.add_zero, ite_self, nI_1]
    · have q4 : (yF V t i ≤ 0) = False := eq_false q2
      refine ⟨τ', R'.trans R, fun Q => ?_⟩
      rw [x150_4]
      by_cases q : V 1 i = 0
      · have q' : (V 1 i = 0) = True := eq_true q
        simp only [x150_5, x150_6, x150_9, x150_11, x150_12, x150_15, x150_16, x150_17, x150_18, x150_19, x150_20, x150_21, x150_22, x150_24, x150_25, x150_27, x150_30, x150_31, x150_32, x150_33, x150_36, x150_38, x150_39, x150_41, x150_42, x150_45, x150_46, x150_47, x150_48, x150_51, Option.toList_some, Option.toList_none, List.cons_append, List.nil_append, cat_i, cat_r, cat_n, cat_f, cs_n, cs_i, cs_r, cs_l, cs_f, Nat.reduceAdd, Nat.reduceLeDiff, Nat.zero_le, if_true, if_false, true_or, or_true, am_wr_at, Nat.reduceEqDiff, not_true_eq_false, not_false_eq_true, i_one, ite_not, bI_z, bI_nz, bI_t, bI_f, bI_or, Bool.false_eq_true, Bool.true_eq_false, reduceCtorEq, lc77, t45, n4c, l4, ey, e0, q4, c, q', Int32.zero_mul, z10, Int32.add_zero, ten_ne0, nI_1]
      · have q' : (V 1 i = 0) = False := eq_false q
        simp only [x150_5, x150_6, x150_9, x150_11, x150_12, x150_15, x150_16, x150_17, x150_18, x150_19, x150_20, x150_21, x150_22, x150_24, x150_25, x150_27, x150_30, x150_31, x150_32, x150_33, x150_36, x150_38, x150_39, x150_41, x150_42, x150_45, x150_46, x150_47, x150_48, x150_51, Option.toList_some, Option.toList_none, List.cons_append, List.nil_append, cat_i, cat_r, cat_n, cat_f, cs_n, cs_i, cs_r, cs_l, cs_f, Nat.reduceAdd, Nat.reduceLeDiff, Nat.zero_le, if_true, if_false, true_or, or_true, am_wr_at, Nat.reduceEqDiff, not_true_eq_false, not_false_eq_true, i_one, ite_not, bI_z, bI_nz, bI_t, bI_f, bI_or, Bool.false_eq_true, Bool.true_eq_false, reduceCtorEq, lc77, t45, n4c, l4, ey, e0, q4, c, q', ten_ne0, nI_1])
  refine ⟨τ, R, fun Q => ?_⟩
  have e1 : nI t ≤ nI t := nI_le (by omega) (by omega)
  rw [n150]
  simp only [x150_0, x150_1, x150_2, x150_3, Option.toList_some, Option.toList_none, List.cons_append, List.nil_append, cat_i, cat_r, cat_n, cat_f, cs_n, cs_i, cs_r, cs_l, cs_f, Nat.reduceAdd, Nat.reduceLeDiff, Nat.zero_le, if_true, if_false, true_or, or_true, am_wr_at, Nat.reduceEqDiff, not_true_eq_false, not_false_eq_true, i_one, ite_not, bI_z, bI_nz, bI_t, bI_f, bI_or, Bool.false_eq_true, Bool.true_eq_false, reduceCtorEq]
  refine (e Q).trans ?_
  unfold slF
  generalize vvF (fun i => yF V t i) t = vv
  show AW sv 150 4 [.ref 71, .int (nI t), .int (shF V t t), .int (nI t), vv] [] (am_toH τ) 0 0 Q = _
  rw [x150_4]
  simp only [x150_5, x150_6, x150_54, x150_55, Option.toList_some, Option.toList_none, List.cons_append, List.nil_append, cat_i, cat_r, cat_n, cat_f, cs_n, cs_i, cs_r, cs_l, cs_f, Nat.reduceAdd, Nat.reduceLeDiff, Nat.zero_le, if_true, if_false, true_or, or_true, am_wr_at, Nat.reduceEqDiff, not_true_eq_false, not_false_eq_true, i_one, ite_not, bI_z, bI_nz, bI_t, bI_f, bI_or, Bool.false_eq_true, Bool.true_eq_false, reduceCtorEq, e1]
theorem c17 (ha : am_St a) (hV : cV σ a = V) : ∀ j, j ≤ 16 → AW sv 17 3 [.ref (a + 1), .int (nI j - 1)] [] (am_toH σ) 0 0 Q = Q (some (.int (lsI (-1) (lsF V j)))) (am_toH σ) := by
  intro j
  induction j with
  | zero =>
    intro _
    have y : nI 0 - 1 < 0 := by decide
    rw [x17_3]
    simp only [x17_4, x17_24, x17_25, Option.toList_some, Option.toList_none, List.cons_append, List.nil_append, cat_i, cat_r, cat_n, cat_f, cs_n, cs_i, cs_r, cs_l, cs_f, Nat.reduceAdd, Nat.reduceLeDiff, Nat.zero_le, if_true, if_false, true_or, or_true, am_wr_at, Nat.reduceEqDiff, not_true_eq_false, not_false_eq_true, i_one, ite_not, bI_z, bI_nz, bI_t, bI_f, bI_or, Bool.false_eq_true, Bool.true_eq_false, reduceCtorEq, y, lsF, lsI]
  | succ j ih =>
    intro hj
    obtain ⟨r0, r1, r2, r3, r4⟩ := rcb (b := j) hV (by omega)
    have y : ¬ nI j < 0 := nI_pos (by omega)
    have e2 : am_in (nI j) 16 = true := nI_in' (by omega) (by omega)
    have e3 : (nI j).toNatClampNeg = j := nI_clamp (by omega)
    have e4 : nI j + -1 = nI j - 1 := by rw [Int32.sub_eq_add_neg]
    rw [nI_pred, x17_3]
    by_cases q : V 1 j = 0
    · have q' : (V 1 j = 0) = True := eq_true q
      simp only [x17_4, x17_7, x17_8, x17_11, x17_12, x17_13, x17_16, x17_17, x17_18, x17_21, Option.toList_some, Option.toList_none, List.cons_append, List.nil_append, cat_i, cat_r, cat_n, cat_f, cs_n, cs_i, cs_r, cs_l, cs_f, Nat.reduceAdd, Nat.reduceLeDiff, Nat.zero_le, if_true, if_false, true_or, or_true, am_wr_at, Nat.reduceEqDiff, not_true_eq_false, not_false_eq_true, i_one, ite_not, bI_z, bI_nz, bI_t, bI_f, bI_or, Bool.false_eq_true, Bool.true_eq_false, reduceCtorEq, ha, ln3, y, e2, e3, r1, q', lsF, e4]
      exact ih (by omega)
    · have q' : (V 1 j = 0) = False := eq_false q
      simp only [x17_4, x17_7, x17_8, x17_11, x17_12, x17_13, x17_16, x17_17, x17_18, x17_21, Option.toList_some, Option.toList_none, List.cons_append, List.nil_append, cat_i, cat_r, cat_n, cat_f, cs_n, cs_i, cs_r, cs_l, cs_f, Nat.reduceAdd, Nat.reduceLeDiff, Nat.zero_le, if_true, if_false, true_or, or_true, am_wr_at, Nat.reduceEqDiff, not_true_eq_false, not_false_eq_true, i_one, ite_not, bI_z, bI_nz, bI_t, bI_f, bI_or, Bool.false_eq_true, Bool.true_eq_false, reduceCtorEq, ha, ln3, y, e2, e3, r1, q', lsF, lsI]
theorem c35 (ha : am_St a) (hV : cV σ a = V) (hok : okV V) : ∃ τ, Cx a σ τ ∧ ∀ Q, AM sv 35 [.ref a] (am_toH σ) Q = Q (some (.int (bshF V))) (am_toH τ) := by
  have c17' : ∀ Q, AM sv 17 [.ref (a + 1)] (am_toH σ) Q = Q (some (.int (lsI (-1) (lsF V 16)))) (am_toH σ) := by
    intro Q
    rw [n17, ← c17 (sv := sv) (Q := Q) ha hV 16 (Nat.le_refl _), show nI 16 - 1 = 15 by decide]
    simp only [x17_0, x17_2, Option.toList_some, Option.toList_none, List.cons_append, List.nil_append, cat_i, cat_r, cat_n, cat_f, cs_n, cs_i, cs_r, cs_l, cs_f, Nat.reduceAdd, Nat.reduceLeDiff, Nat.zero_le, if_true, if_false, true_or, or_true, am_wr_at, Nat.reduceEqDiff, not_true_eq_false, not_false_eq_true, i_one, ite_not, bI_z, bI_nz, bI_t, bI_f, bI_or, Bool.false_eq_true, Bool.true_eq_false, reduceCtorEq]
  cases hl : lsF V 16 with
  | none =>
    refine ⟨σ, Cx_refl, fun Q => ?_⟩
    rw [n35, bsh_n hl]
    simp only [x35_0, x35_1, x35_4, x35_7, x35_8, x35_9, x35_10, x35_13, x35_14, x35_16, x35_19, x35_21, x35_22, x35_23, x35_24, x35_25, x35_26, x35_27, x35_28, x35_31, x35_32, x35_33, x35_34, x35_35, x35_37, x35_39, x35_41, x35_44, x35_45, x35_47, x35_50, x35_52, x35_54, x35_55, x35_58, x35_60, x35_61, x35_63, x35_64, x35_67, x35_70, x35_71, Option.toList_some, Option.toList_none, List.cons_append, List.nil_append, cat_i, cat_r, cat_n, cat_f, cs_n, cs_i, cs_r, cs_l, cs_f, Nat.reduceAdd, Nat.reduceLeDiff, Nat.zero_le, if_true, if_false, true_or, or_true, am_wr_at, Nat.reduceEqDiff, not_true_eq_false, not_false_eq_true, i_one, ite_not, bI_z, bI_nz, bI_t, bI_f, bI_or, Bool.false_eq_true, Bool.true_eq_false, reduceCtorEq, ha, c17', hl, lsI]
  | some l =>
    have hl16 : l < 16 := ls_lt 16 hl
    have y1 : (nI l = -1) = False := eq_false (fb_b l hl16).2.2.1
    by_cases q15 : l = 15
    · subst q15
      have y2 : (nI 15 = 15) = True := eq_true rfl
      have y3 : ((15 : Int32) = -1) = False := eq_false (by decide)
      refine ⟨σ, Cx_refl, fun Q => ?_⟩
      rw [n35, bsh_s hl]
      simp only [x35_0, x35_1, x35_4, x35_7, x35_8, x35_9, x35_10, x35_13, x35_14, x35_16, x35_19, x35_21, x35_22, x35_23, x35_24, x35_25, x35_26, x35_27, x35_28, x35_31, x35_32, x35_33, x35_34, x35_35, x35_37, x35_39, x35_41, x35_44, x35_45, x35_47, x35_50, x35_52, x35_54, x35_55, x35_58, x35_60, x35_61, x35_63, x35_64, x35_67, x35_70, x35_71, Option.toList_some, Option.toList_none, List.cons_append, List.nil_append, cat_i, cat_r, cat_n, cat_f, cs_n, cs_i, cs_r, cs_l, cs_f, Nat.reduceAdd, Nat.reduceLeDiff, Nat.zero_le, if_true, if_false, true_or, or_true, am_wr_at, Nat.reduceEqDiff, not_true_eq_false, not_false_eq_true, i_one, ite_not, bI_z, bI_nz, bI_t, bI_f, bI_or, Bool.false_eq_true, Bool.true_eq_false, reduceCtorEq, ha, c17', hl, lsI, nI15, y3]
    · have y2 : (nI l = 15) = False := eq_false (fun c => q15 (by
        have c : nI l = nI 15 := c
        rwa [nI_eq (by omega) (by omega)] at c))
      have q15' : (l = 15) = False := eq_false q15
      obtain ⟨σ1, R1, c1⟩ := c34 (sv := sv) ha hV hok (show l + 1 < 16 by omega)
      have hV1 : cV σ1 a = V := (Cx_cV R1).trans hV
      obtain ⟨τ, R, e⟩ := am_upE (N := 14 - l) (σ := σ1) (R := fun _ τ => Cx a σ1 τ) (F := fun i τ Q => AW sv 35 37 [.ref a, .int (nI l), .int (bsF V l i).1, .int (bsF V l i).2, .int (nI (l + 2 + i)), vvF (fun i => slF V (l + 2 + i)) i] [] (am_toH τ) 0 0 Q) Cx_refl (by
        intro i τ hi R
        have hVτ : cV τ a = V := (Cx_cV R).trans hV1
        obtain ⟨τ', R', c⟩ := c34 (sv := sv) ha hVτ hok (show l + 2 + i < 16 by omega)
        have e1 : ¬ 16 ≤ nI (l + 2 + i) := by
          show ¬ nI 16 ≤ nI (l + 2 + i)
          exact nI_ge (by omega) (by decide)
        refine ⟨τ', Cx_trans R R', fun Q => ?_⟩
        simp only [bsF, vvF, ← Nat.add_assoc]
        generalize vvF (fun i => slF V (l + 2 + i)) i = vv
        rw [x35_37]
        by_cases q : (bsF V l i).2 ≤ slF V (l + 2 + i)
        · have q' : ((bsF V l i).2 ≤ slF V (l + 2 + i)) = True := eq_true q
          simp only [x35_39, x35_41, x35_44, x35_45, x35_47, x35_50, x35_52, x35_54, x35_55, x35_58, x35_60, x35_61, x35_63, x35_64, x35_67, Option.toList_some, Option.toList_none, List.cons_append, List.nil_append, cat_i, cat_r, cat_n, cat_f, cs_n, cs_i, cs_r, cs_l, cs_f, Nat.reduceAdd, Nat.reduceLeDiff, Nat.zero_le, if_true, if_false, true_or, or_true, am_wr_at, Nat.reduceEqDiff, not_true_eq_false, not_false_eq_true, i_one, ite_not, bI_z, bI_nz, bI_t, bI_f, bI_or, Bool.false_eq_true, Bool.true_eq_false, reduceCtorEq, ha, e1, c, q', nI_1]
        · have q' : ((bsF V l i).2 ≤ slF V (l + 2 + i)) = False := eq_false q
          simp only [x35_39, x35_41, x35_44, x35_45, x35_47, x35_50, x35_52, x35_54, x35_55, x35_58, x35_60, x35_61, x35_63, x35_64, x35_67, Option.toList_some, Option.toList_none, List.cons_append, List.nil_append, cat_i, cat_r, cat_n, cat_f, cs_n, cs_i, cs_r, cs_l, cs_f, Nat.reduceAdd, Nat.reduceLeDiff, Nat.zero_le, if_true, if_false, true_or, or_true, am_wr_at, Nat.reduceEqDiff, not_true_eq_false, not_false_eq_true, i_one, ite_not, bI_z, bI_nz, bI_t, bI_f, bI_or, Bool.false_eq_true, Bool.true_eq_false, reduceCtorEq, ha, e1, c, q', nI_1])
      refine ⟨τ, Cx_trans R1 R, fun Q => ?_⟩
      have e1 : (16 : Int32) ≤ nI (l + 2 + (14 - l)) := by
        rw [show l + 2 + (14 - l) = 16 by omega]
        decide
      rw [n35, bsh_s hl]
      simp only [x35_0, x35_1, x35_4, x35_7, x35_8, x35_9, x35_10, x35_13, x35_14, x35_16, x35_19, x35_21, x35_22, x35_23, x35_24, x35_25, x35_26, x35_27, x35_28, x35_31, x35_32, x35_33, x35_34, x35_35, Option.toList_some, Option.toList_none, List.cons_append, List.nil_append, cat_i, cat_r, cat_n, cat_f, cs_n, cs_i, cs_r, cs_l, cs_f, Nat.reduceAdd, Nat.reduceLeDiff, Nat.zero_le, if_true, if_false, true_or, or_true, am_wr_at, Nat.reduceEqDiff, not_true_eq_false, not_false_eq_true, i_one, ite_not, bI_z, bI_nz, bI_t, bI_f, bI_or, Bool.false_eq_true, Bool.true_eq_false, reduceCtorEq, ha, c17', hl, lsI, y1, y2, nI_1, c1, nI_p2, q15']
      refine (e Q).trans ?_
      generalize vvF (fun i => slF V (l + 2 + i)) (14 - l) = vv
      show AW sv 35 37 [.ref a, .int (nI l), .int (bsF V l (14 - l)).1, .int (bsF V l (14 - l)).2, .int (nI (l + 2 + (14 - l))), vv] [] (am_toH τ) 0 0 Q = _
      rw [x35_37]
      simp only [x35_39, x35_41, x35_70, x35_71, Option.toList_some, Option.toList_none, List.cons_append, List.nil_append, cat_i, cat_r, cat_n, cat_f, cs_n, cs_i, cs_r, cs_l, cs_f, Nat.reduceAdd, Nat.reduceLeDiff, Nat.zero_le, if_true, if_false, true_or, or_true, am_wr_at, Nat.reduceEqDiff, not_true_eq_false, not_false_eq_true, i_one, ite_not, bI_z, bI_nz, bI_t, bI_f, bI_or, Bool.false_eq_true, Bool.true_eq_false, reduceCtorEq, e1]
theorem m151 (hV : mV σ = V) (hok : okV V) : ∃ τ : am_S, τ.1 = σ.1 ∧ ∀ Q, AW sv 151 26 [.ref 71, .int (-1), .null, .null, .null, .null, .null, .null] [] (am_toH σ) 0 0 Q = Q (some (.int (bshF V))) (am_toH τ) := by
  have key := fun Q => am_up (N := 16) (f := fun i => AW sv 151 31 [.ref 71, .int (-1), .int (lsI (-4) (lsF V i)), .int (nI i), .null, .null, .null, .null] [] (am_toH σ) 0 0 Q) (by
    intro i hi
    obtain ⟨r0, r1, r2, r3, r4⟩ := rmb (b := i) hV hi
    have o2 := dd_le (hok.1 i hi).2.1
    have e1 : ¬ 16 ≤ nI i := by
      show ¬ nI 16 ≤ nI i
      exact nI_ge (by omega) (by decide)
    have e2 : am_in (nI i) 16 = true := nI_in' (by omega) (by omega)
    have e3 : (nI i).toNatClampNeg = i := nI_clamp (by omega)
    rw [x151_31]
    by_cases q : V 1 i = 0
    · have q' : (V 1 i = 0) = True := eq_true q
      simp only [x151_32, x151_34, x151_37, x151_38, x151_41, x151_42, x151_43, x151_46, x151_47, x151_50, x151_51, x151_52, x151_55, Option.toList_some, Option.toList_none, List.cons_append, List.nil_append, cat_i, cat_r, cat_n, cat_f, cs_n, cs_i, cs_r, cs_l, cs_f, Nat.reduceAdd, Nat.reduceLeDiff, Nat.zero_le, if_true, if_false, true_or, or_true, am_wr_at, Nat.reduceEqDiff, not_true_eq_false, not_false_eq_true, i_one, ite_not, bI_z, bI_nz, bI_t, bI_f, bI_or, Bool.false_eq_true, Bool.true_eq_false, reduceCtorEq, lc73, e1, e2, e3, r1, o2, q', lsF, nI_1]
    · have q' : (V 1 i = 0) = False := eq_false q
      simp only [x151_32, x151_34, x151_37, x151_38, x151_41, x151_42, x151_43, x151_46, x151_47, x151_50, x151_51, x151_52, x151_55, Option.toList_some, Option.toList_none, List.cons_append, List.nil_append, cat_i, cat_r, cat_n, cat_f, cs_n, cs_i, cs_r, cs_l, cs_f, Nat.reduceAdd, Nat.reduceLeDiff, Nat.zero_le, if_true, if_false, true_or, or_true, am_wr_at, Nat.reduceEqDiff, not_true_eq_false, not_false_eq_true, i_one, ite_not, bI_z, bI_nz, bI_t, bI_f, bI_or, Bool.false_eq_true, Bool.true_eq_false, reduceCtorEq, lc73, e1, e2, e3, r1, o2, q', lsF, lsI, nI_1]) 16 (Nat.le_refl _)
  have e16 : (16 : Int32) ≤ nI 16 := by decide
  have fst : ∀ Q, AW sv 151 26 [.ref 71, .int (-1), .null, .null, .null, .null, .null, .null] [] (am_toH σ) 0 0 Q = AW sv 151 69 [.ref 71, .int (-1), .int (lsI (-4) (lsF V 16)), .int (-4), .int 0, .int (lsI (-4) (lsF V 16) + 1), .null, .null] [] (am_toH σ) 0 0 Q := by
    intro Q
    simp only [x151_26, x151_28, x151_29, x151_30, Option.toList_some, Option.toList_none, List.cons_append, List.nil_append, cat_i, cat_r, cat_n, cat_f, cs_n, cs_i, cs_r, cs_l, cs_f, Nat.reduceAdd, Nat.reduceLeDiff, Nat.zero_le, if_true, if_false, true_or, or_true, am_wr_at, Nat.reduceEqDiff, not_true_eq_false, not_false_eq_true, i_one, ite_not, bI_z, bI_nz, bI_t, bI_f, bI_or, Bool.false_eq_true, Bool.true_eq_false, reduceCtorEq]
    refine (key Q).trans ?_
    show AW sv 151 31 [.ref 71, .int (-1), .int (lsI (-4) (lsF V 16)), .int (nI 16), .null, .null, .null, .null] [] (am_toH σ) 0 0 Q = _
    generalize lsI (-4) (lsF V 16) = z
    rw [x151_31]
    simp only [x151_32, x151_34, x151_58, x151_60, x151_61, x151_62, x151_64, x151_65, x151_66, x151_67, Option.toList_some, Option.toList_none, List.cons_append, List.nil_append, cat_i, cat_r, cat_n, cat_f, cs_n, cs_i, cs_r, cs_l, cs_f, Nat.reduceAdd, Nat.reduceLeDiff, Nat.zero_le, if_true, if_false, true_or, or_true, am_wr_at, Nat.reduceEqDiff, not_true_eq_false, not_false_eq_true, i_one, ite_not, bI_z, bI_nz, bI_t, bI_f, bI_or, Bool.false_eq_true, Bool.true_eq_false, reduceCtorEq, e16]
  cases hl : lsF V 16 with
  | none =>
    refine ⟨σ, rfl, fun Q => ?_⟩
    have y1 : ¬ (16 : Int32) ≤ -4 + 1 := by decide
    have y2 : (-4 : Int32) < 0 := by decide
    rw [fst Q, bsh_n hl]
    simp only [x151_69, x151_71, x151_73, x151_76, x151_77, x151_138, x151_139, Option.toList_some, Option.toList_none, List.cons_append, List.nil_append, cat_i, cat_r, cat_n, cat_f, cs_n, cs_i, cs_r, cs_l, cs_f, Nat.reduceAdd, Nat.reduceLeDiff, Nat.zero_le, if_true, if_false, true_or, or_true, am_wr_at, Nat.reduceEqDiff, not_true_eq_false, not_false_eq_true, i_one, ite_not, bI_z, bI_nz, bI_t, bI_f, bI_or, Bool.false_eq_true, Bool.true_eq_false, reduceCtorEq, hl, lsI, y1, y2]
  | some l =>
    have hl16 : l < 16 := ls_lt 16 hl
    have y0 : ¬ nI l < 0 := nI_pos (by omega)
    by_cases q15 : l = 15
    · subst q15
      have y2 : (16 : Int32) ≤ nI (15 + 1) := by decide
      refine ⟨σ, rfl, fun Q => ?_⟩
      rw [fst Q, bsh_s hl]
      simp only [x151_69, x151_71, x151_73, x151_76, x151_77, x151_138, x151_139, Option.toList_some, Option.toList_none, List.cons_append, List.nil_append, cat_i, cat_r, cat_n, cat_f, cs_n, cs_i, cs_r, cs_l, cs_f, Nat.reduceAdd, Nat.reduceLeDiff, Nat.zero_le, if_true, if_false, true_or, or_true, am_wr_at, Nat.reduceEqDiff, not_true_eq_false, not_false_eq_true, i_one, ite_not, bI_z, bI_nz, bI_t, bI_f, bI_or, Bool.false_eq_true, Bool.true_eq_false, reduceCtorEq, hl, lsI, nI_1, y2]
    · have q15' : (l = 15) = False := eq_false q15
      obtain ⟨σ1, R1, c1⟩ := m150 (sv := sv) hV hok (show l + 1 < 16 by omega)
      have hV1 : mV σ1 = V := (mV_1 R1).trans hV
      obtain ⟨τ, R, e⟩ := am_upE (N := 14 - l) (σ := σ1) (R := fun _ τ => τ.1 = σ1.1) (F := fun i τ Q => AW sv 151 69 [.ref 71, .int (-1), .int (nI l), .int (bsF V l i).1, .int (bsF V l i).2, .int (nI (l + 2 + i)), .int (slF V (l + 1 + i)), .int (isF V l i)] [] (am_toH τ) 0 0 Q) rfl (by
        intro i τ hi R
        have hVτ : mV τ = V := (mV_1 R).trans hV1
        obtain ⟨τ', R', c⟩ := m150 (sv := sv) hVτ hok (show l + 2 + i < 16 by omega)
        have e1 : ¬ 16 ≤ nI (l + 2 + i) := by
          show ¬ nI 16 ≤ nI (l + 2 + i)
          exact nI_ge (by omega) (by decide)
        have e2 := bs_pos (V := V) hl16 i (by omega)
        have e5 : l + 1 + (i + 1) = l + 2 + i := by omega
        refine ⟨τ', R'.trans R, fun Q => ?_⟩
        simp only [bsF, isF, e5]
        rw [show l + 2 + (i + 1) = l + 2 + i + 1 by omega, x151_69]
        by_cases q : (bsF V l i).2 ≤ slF V (l + 2 + i)
        · have q' : ((bsF V l i).2 ≤ slF V (l + 2 + i)) = True := eq_true q
          simp only [x151_71, x151_73, x151_76, x151_77, x151_80, x151_81, x151_83, x151_86, x151_88, x151_89, x151_92, x151_94, x151_96, x151_99, x151_100, x151_103, x151_104, x151_106, x151_108, x151_111, x151_113, x151_116, x151_117, x151_118, x151_120, x151_123, x151_125, x151_128, x151_130, x151_132, x151_135, Option.toList_some, Option.toList_none, List.cons_append, List.nil_append, cat_i, cat_r, cat_n, cat_f, cs_n, cs_i, cs_r, cs_l, cs_f, Nat.reduceAdd, Nat.reduceLeDiff, Nat.zero_le, if_true, if_false, true_or, or_true, am_wr_at, Nat.reduceEqDiff, not_true_eq_false, not_false_eq_true, i_one, ite_not, bI_z, bI_nz, bI_t, bI_f, bI_or, Bool.false_eq_true, Bool.true_eq_false, reduceCtorEq, e1, y0, e2, c, q', nI_1]
        · have q' : ((bsF V l i).2 ≤ slF V (l + 2 + i)) = False := eq_false q
          simp only [x151_71, x151_73, x151_76, x151_77, x151_80, x151_81, x151_83, x151_86, x151_88, x151_89, x151_92, x151_94, x151_96, x151_99, x151_100, x151_103, x151_104, x151_106, x151_108, x151_111, x151_113, x151_116, x151_117, x151_118, x151_120, x151_123, x151_125, x151_128, x151_130, x151_132, x151_135, Option.toList_some, Option.toList_none, List.cons_append, List.nil_append, cat_i, cat_r, cat_n, cat_f, cs_n, cs_i, cs_r, cs_l, cs_f, Nat.reduceAdd, Nat.reduceLeDiff, Nat.zero_le, if_true, if_false, true_or, or_true, am_wr_at, Nat.reduceEqDiff, not_true_eq_false, not_false_eq_true, i_one, ite_not, bI_z, bI_nz, bI_t, bI_f, bI_or, Bool.false_eq_true, Bool.true_eq_false, reduceCtorEq, e1, y0, e2, c, q', nI_1])
      refine ⟨τ, R.trans R1, fun Q => ?_⟩
      have e1 : (16 : Int32) ≤ nI (l + 2 + (14 - l)) := by
        rw [show l + 2 + (14 - l) = 16 by omega]
        decide
      have e2 : ¬ 16 ≤ nI (l + 1) := by
        show ¬ nI 16 ≤ nI (l + 1)
        exact nI_ge (by omega) (by decide)
      have y4 : (-4 : Int32) < 0 := by decide
      have st : AW sv 151 69 [.ref 71, .int (-1), .int (nI l), .int (-4), .int 0, .int (nI (l + 1)), .null, .null] [] (am_toH σ) 0 0 Q = AW sv 151 69 [.ref 71, .int (-1), .int (nI l), .int (nI (l + 1)), .int (slF V (l + 1)), .int (nI (l + 2)), .int (slF V (l + 1)), .int 1] [] (am_toH σ1) 0 0 Q := by
        rw [x151_69]
        simp only [x151_71, x151_73, x151_76, x151_77, x151_80, x151_81, x151_83, x151_86, x151_88, x151_89, x151_92, x151_94, x151_96, x151_99, x151_100, x151_103, x151_104, x151_106, x151_108, x151_111, x151_113, x151_116, x151_117, x151_118, x151_120, x151_123, x151_125, x151_128, x151_130, x151_132, x151_135, Option.toList_some, Option.toList_none, List.cons_append, List.nil_append, cat_i, cat_r, cat_n, cat_f, cs_n, cs_i, cs_r, cs_l, cs_f, Nat.reduceAdd, Nat.reduceLeDiff, Nat.zero_le, if_true, if_false, true_or, or_true, am_wr_at, Nat.reduceEqDiff, not_true_eq_false, not_false_eq_true, i_one, ite_not, bI_z, bI_nz, bI_t, bI_f, bI_or, Bool.false_eq_true, Bool.true_eq_false, reduceCtorEq, e2, y0, y4, c1, nI_1]
      rw [fst Q, bsh_s hl]
      simp only [hl, lsI, nI_1, q15', if_false]
      rw [st]
      refine (e Q).trans ?_
      show AW sv 151 69 [.ref 71, .int (-1), .int (nI l), .int (bsF V l (14 - l)).1, .int (bsF V l (14 - l)).2, .int (nI (l + 2 + (14 - l))), .int (slF V (l + 1 + (14 - l))), .int (isF V l (14 - l))] [] (am_toH τ) 0 0 Q = _
      rw [x151_69]
      simp only [x151_71, x151_73, x151_138, x151_139, Option.toList_some, Option.toList_none, List.cons_append, List.nil_append, cat_i, cat_r, cat_n, cat_f, cs_n, cs_i, cs_r, cs_l, cs_f, Nat.reduceAdd, Nat.reduceLeDiff, Nat.zero_le, if_true, if_false, true_or, or_true, am_wr_at, Nat.reduceEqDiff, not_true_eq_false, not_false_eq_true, i_one, ite_not, bI_z, bI_nz, bI_t, bI_f, bI_or, Bool.false_eq_true, Bool.true_eq_false, reduceCtorEq, e1]
/-- shown -/
theorem sim24 : ∀ x0 : Int32, SimOK sv Inv 85 151 [.int x0] := by
  intro b
  refine sim_q (fun V hok => ?_)
  by_cases h1 : am_bt b.toInt64 (-1) 15 = true
  · rcases fb_cases h1 with rfl | ⟨b, hb, rfl⟩
    · obtain ⟨y1, y2, y3, y4⟩ := fb_m
      have y5 : (-1 : Int32) < 16 := by decide
      have y6 : (-1 : Int32) < 0 := by decide
      refine ⟨bshF V, fun σ hV => ?_, fun σ hV => ?_⟩
      · obtain ⟨τ, R, c⟩ := c35 (sv := sv) st1 hV hok
        refine ⟨τ, Cf_1 R, fun Q => ?_⟩
        rw [n85]
        simp only [x85_0, x85_1, x85_2, x85_5, x85_6, x85_8, x85_11, x85_12, x85_13, x85_14, x85_15, x85_18, x85_19, x85_22, x85_25, x85_28, x85_29, x85_32, x85_33, x85_36, Option.toList_some, Option.toList_none, List.cons_append, List.nil_append, cat_i, cat_r, cat_n, cat_f, cs_n, cs_i, cs_r, cs_l, cs_f, Nat.reduceAdd, Nat.reduceLeDiff, Nat.zero_le, if_true, if_false, true_or, or_true, am_wr_at, Nat.reduceEqDiff, not_true_eq_false, not_false_eq_true, i_one, ite_not, bI_z, bI_nz, bI_t, bI_f, bI_or, Bool.false_eq_true, Bool.true_eq_false, reduceCtorEq, st1, y1, y5, c]
      · obtain ⟨τ, R, c⟩ := m151 (sv := sv) hV hok
        refine ⟨τ, Mf_1 R, (mV_1 R).trans hV, fun Q => ?_⟩
        rw [← c Q, n151]
        simp only [x151_0, x151_1, x151_2, x151_5, x151_8, x151_11, x151_14, x151_15, x151_16, x151_17, Option.toList_some, Option.toList_none, List.cons_append, List.nil_append, cat_i, cat_r, cat_n, cat_f, cs_n, cs_i, cs_r, cs_l, cs_f, Nat.reduceAdd, Nat.reduceLeDiff, Nat.zero_le, if_true, if_false, true_or, or_true, am_wr_at, Nat.reduceEqDiff, not_true_eq_false, not_false_eq_true, i_one, ite_not, bI_z, bI_nz, bI_t, bI_f, bI_or, Bool.false_eq_true, Bool.true_eq_false, reduceCtorEq, s104, y4, y6]
    · obtain ⟨y1, y2, y3, y4, y5⟩ := fb_b b hb
      have y3' : (nI b = -1) = False := eq_false y3
      have y6 : nI b < 16 := Int32.not_le.mp y2
      have y7 : ¬ nI b < 0 := nI_pos (by omega)
      refine ⟨slF V b, fun σ hV => ?_, fun σ hV => ?_⟩
      · obtain ⟨τ, R, c⟩ := c34 (sv := sv) st1 hV hok hb
        refine ⟨τ, Cf_1 R, fun Q => ?_⟩
        rw [n85]
        simp only [x85_0, x85_1, x85_2, x85_5, x85_6, x85_8, x85_11, x85_12, x85_13, x85_14, x85_15, x85_18, x85_19, x85_22, x85_25, x85_28, x85_29, x85_32, x85_33, x85_36, Option.toList_some, Option.toList_none, List.cons_append, List.nil_append, cat_i, cat_r, cat_n, cat_f, cs_n, cs_i, cs_r, cs_l, cs_f, Nat.reduceAdd, Nat.reduceLeDiff, Nat.zero_le, if_true, if_false, true_or, or_true, am_wr_at, Nat.reduceEqDiff, not_true_eq_false, not_false_eq_true, i_one, ite_not, bI_z, bI_nz, bI_t, bI_f, bI_or, Bool.false_eq_true, Bool.true_eq_false, reduceCtorEq, st1, y1, y6, y3', c]
      · obtain ⟨τ, R, c⟩ := m150 (sv := sv) hV hok hb
        refine ⟨τ, Mf_1 R, (mV_1 R).trans hV, fun Q => ?_⟩
        rw [n151]
        simp only [x151_0, x151_1, x151_2, x151_5, x151_8, x151_11, x151_14, x151_15, x151_16, x151_17, x151_20, x151_21, x151_22, x151_25, x151_26, x151_28, x151_29, x151_30, x151_31, x151_32, x151_34, x151_37, x151_38, x151_41, x151_42, x151_43, x151_46, x151_47, x151_50, x151_51, x151_52, x151_55, x151_58, x151_60, x151_61, x151_62, x151_64, x151_65, x151_66, x151_67, x151_69, x151_71, x151_73, x151_76, x151_77, x151_80, x151_81, x151_83, x151_86, x151_88, x151_89, x151_92, x151_94, x151_96, x151_99, x151_100, x151_103, x151_104, x151_106, x151_108, x151_111, x151_113, x151_116, x151_117, x151_118, x151_120, x151_123, x151_125, x151_128, x151_130, x151_132, x151_135, x151_138, x151_139, Option.toList_some, Option.toList_none, List.cons_append, List.nil_append, cat_i, cat_r, cat_n, cat_f, cs_n, cs_i, cs_r, cs_l, cs_f, Nat.reduceAdd, Nat.reduceLeDiff, Nat.zero_le, if_true, if_false, true_or, or_true, am_wr_at, Nat.reduceEqDiff, not_true_eq_false, not_false_eq_true, i_one, ite_not, bI_z, bI_nz, bI_t, bI_f, bI_or, Bool.false_eq_true, Bool.true_eq_false, reduceCtorEq, s104, y5, y7, c]
  · have h1 : am_bt b.toInt64 (-1) 15 = false := by simpa using h1
    refine ⟨-1, fun σ hV => ⟨σ, Cf_refl, fun Q => ?_⟩, fun σ hV => ⟨σ, Mf_refl, hV, fun Q => by rw [n151]; simp only [x151_0, x151_1, x151_2, x151_5, x151_8, x151_11, x151_14, x151_15, x151_16, x151_17, x151_20, x151_21, x151_22, x151_25, x151_26, x151_28, x151_29, x151_30, x151_31, x151_32, x151_34, x151_37, x151_38, x151_41, x151_42, x151_43, x151_46, x151_47, x151_50, x151_51, x151_52, x151_55, x151_58, x151_60, x151_61, x151_62, x151_64, x151_65, x151_66, x151_67, x151_69, x151_71, x151_73, x151_76, x151_77, x151_80, x151_81, x151_83, x151_86, x151_88, x151_89, x151_92, x151_94, x151_96, x151_99, x151_100, x151_103, x151_104, x151_106, x151_108, x151_111, x151_113, x151_116, x151_117, x151_118, x151_120, x151_123, x151_125, x151_128, x151_130, x151_132, x151_135, x151_138, x151_139, Option.toList_some, Option.toList_none, List.cons_append, List.nil_append, cat_i, cat_r, cat_n, cat_f, cs_n, cs_i, cs_r, cs_l, cs_f, Nat.reduceAdd, Nat.reduceLeDiff, Nat.zero_le, if_true, if_false, true_or, or_true, am_wr_at, Nat.reduceEqDiff, not_true_eq_false, not_false_eq_true, i_one, ite_not, bI_z, bI_nz, bI_t, bI_f, bI_or, Bool.false_eq_true, Bool.true_eq_false, reduceCtorEq, lt1, lt2, lt3, lt4, lt5, lt10, lt12, lt16, lt100, lt1000, bt1, bt2, bt3, bt4, bt5, bt10, bt12, bt16, bt100, bt1000, bt6, bt25, bt100000, s104, h1]⟩⟩
    rw [n85]
    rcases fb_no h1 with q | ⟨q, q2⟩
    · simp only [x85_0, x85_1, x85_2, x85_5, x85_6, x85_8, x85_11, x85_12, x85_13, x85_14, x85_15, x85_18, x85_19, x85_22, x85_25, x85_28, x85_29, x85_32, x85_33, x85_36, Option.toList_some, Option.toList_none, List.cons_append, List.nil_append, cat_i, cat_r, cat_n, cat_f, cs_n, cs_i, cs_r, cs_l, cs_f, Nat.reduceAdd, Nat.reduceLeDiff, Nat.zero_le, if_true, if_false, true_or, or_true, am_wr_at, Nat.reduceEqDiff, not_true_eq_false, not_false_eq_true, i_one, ite_not, bI_z, bI_nz, bI_t, bI_f, bI_or, Bool.false_eq_true, Bool.true_eq_false, reduceCtorEq, q]
    · have q3 : ¬ b < 16 := Int32.not_lt.mpr q2
      simp only [x85_0, x85_1, x85_2, x85_5, x85_6, x85_8, x85_11, x85_12, x85_13, x85_14, x85_15, x85_18, x85_19, x85_22, x85_25, x85_28, x85_29, x85_32, x85_33, x85_36, Option.toList_some, Option.toList_none, List.cons_append, List.nil_append, cat_i, cat_r, cat_n, cat_f, cs_n, cs_i, cs_r, cs_l, cs_f, Nat.reduceAdd, Nat.reduceLeDiff, Nat.zero_le, if_true, if_false, true_or, or_true, am_wr_at, Nat.reduceEqDiff, not_true_eq_false, not_false_eq_true, i_one, ite_not, bI_z, bI_nz, bI_t, bI_f, bI_or, Bool.false_eq_true, Bool.true_eq_false, reduceCtorEq, q, q3]
end I64
