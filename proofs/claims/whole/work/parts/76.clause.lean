/-! THE READER: a clause of a routine -/
def apC (V : Nat → Nat → Int32) (c : Nat → Int32) : Nat → Nat → Int32 := vset (vset (vset (vset (vset V 0 (c 0).toNatClampNeg (c 1)) 2 (c 0).toNatClampNeg (c 2)) 3 (c 0).toNatClampNeg (c 3)) 4 (c 0).toNatClampNeg (c 4)) 1 (c 0).toNatClampNeg (c 5)
def okC (c : Nat → Int32) : Prop := (∃ b, b < 16 ∧ c 0 = nI b) ∧ deed (c 1) ∧ rg (c 2) 0 4 ∧ rg (c 3) 0 4 ∧ rg (c 4) 0 1 ∧ deed (c 5)
section I76
variable {sv : am_V} {h : am_H} {σ τ ρ : am_S} {Q : Option Value → am_H → Prop} {a b k : Nat} {st st' : Bool} {g : Nat → Nat} {L : Nat} {x y : Int32}
theorem TC_wr {k : Nat} {f : Nat → Int32} (h1 : k ≠ 65) (h2 : k ≠ 66) (h : TC g L σ) : TC g L (am_wr σ k f) := by
  unfold TC
  rw [am_wr_ne (Ne.symm h1), am_wr_ne (Ne.symm h2)]
  exact h
theorem TM_wr {k : Nat} {f : Nat → Int32} (h1 : k ≠ 71) (h2 : k ≠ 79) (h : TM g L σ) : TM g L (am_wr σ k f) := by
  unfold TM
  rw [am_wr_ne (Ne.symm h1), am_wr_ne (Ne.symm h2)]
  exact h
theorem f46 : ((46 : Nat) = 65) = False := eq_false (by decide)
theorem f47 : ((47 : Nat) = 65) = False := eq_false (by decide)
theorem f48 : ((48 : Nat) = 65) = False := eq_false (by decide)
theorem f49 : ((49 : Nat) = 65) = False := eq_false (by decide)
theorem f50 : ((50 : Nat) = 65) = False := eq_false (by decide)
theorem f80 : ((80 : Nat) = 71) = False := eq_false (by decide)
theorem cT_46 : (cT σ a st).1 46 = σ.1 46 := cT_k (by decide)
theorem cT_47 : (cT σ a st).1 47 = σ.1 47 := cT_k (by decide)
theorem cT_48 : (cT σ a st).1 48 = σ.1 48 := cT_k (by decide)
theorem cT_49 : (cT σ a st).1 49 = σ.1 49 := cT_k (by decide)
theorem cT_50 : (cT σ a st).1 50 = σ.1 50 := cT_k (by decide)
theorem jSm (hG : okG g L) (hb : b < 16) (hk : k + 6 ≤ 48) (ha : a ≤ L) (st : Bool) : ∃ (v : Int32) (a' : Nat) (st' : Bool), a' ≤ L ∧ (st = true → st' = true) ∧ (st' = false → deed v) ∧ (∀ σ f Q, TC g L σ → σ.1 46 = f → AW sv 45 22 [.ref 65, .ref 45, .int (nI b)] [] (am_toH (cT σ a st)) 0 0 Q = AW sv 45 45 [.ref 65, .ref 45, .int (nI b)] [] (am_toH (cT (am_wr σ 46 (upd f b v)) a' st')) 0 0 Q) ∧ (∀ σ f Q, TM g L σ → σ.1 80 = f → AW sv 125 30 [.ref 71, .int (nI k)] [] (am_toH (mT σ a st)) 0 0 Q = AW sv 125 55 [.ref 71, .int (nI k)] [] (am_toH (mT (am_wr σ 80 (upd f (k + 1) v)) a' st')) 0 0 Q) := by
  have b2 : am_in (nI b) 16 = true := nI_in' (by omega) (by omega)
  have b3 : (nI b).toNatClampNeg = b := nI_clamp (by omega)
  have k2 : am_in (nI (k + 1)) 48 = true := nI_in' (by omega) (by omega)
  have k3 : (nI (k + 1)).toNatClampNeg = k + 1 := nI_clamp (by omega)
  obtain ⟨r, a1, l1, r1, c1, m1⟩ := jH (sv := sv) (c := 109) hG 109 rfl (by decide) (by decide) ha st
  cases r with
  | false =>
    refine ⟨0, a1, st, l1, fun q => q, fun _ => Or.inl rfl, fun σ f Q hT hf => ?_, fun σ f Q hT hf => ?_⟩
    · have d1 := fun Q => c1 σ Q hT
      subst hf
      simp only [x45_22, x45_23, x45_26, x45_27, x45_28, x45_30, x45_33, x45_36, x45_37, x45_40, x45_43, x45_44, Option.toList_some, Option.toList_none, List.cons_append, List.nil_append, cat_i, cat_r, cat_n, cat_f, cs_n, cs_i, cs_r, cs_l, cs_f, Nat.reduceAdd, Nat.reduceLeDiff, Nat.zero_le, if_true, if_false, true_or, or_true, am_wr_at, Nat.reduceEqDiff, not_true_eq_false, not_false_eq_true, i_one, ite_not, bI_z, bI_nz, bI_t, bI_f, bI_or, Bool.false_eq_true, Bool.true_eq_false, reduceCtorEq, st44, lc46, b2, b3, d1, cT_wr f46, cT_46]
    · have d1 := fun Q => m1 σ Q hT
      subst hf
      simp only [x125_30, x125_31, x125_34, x125_35, x125_36, x125_37, x125_38, x125_40, x125_43, x125_46, x125_47, x125_50, x125_53, x125_54, Option.toList_some, Option.toList_none, List.cons_append, List.nil_append, cat_i, cat_r, cat_n, cat_f, cs_n, cs_i, cs_r, cs_l, cs_f, Nat.reduceAdd, Nat.reduceLeDiff, Nat.zero_le, if_true, if_false, true_or, or_true, am_wr_at, Nat.reduceEqDiff, not_true_eq_false, not_false_eq_true, i_one, ite_not, bI_z, bI_nz, bI_t, bI_f, bI_or, Bool.false_eq_true, Bool.true_eq_false, reduceCtorEq, lc80, nI_1, k2, k3, d1, mT_wr f80, mT_80]
  | true =>
    have e := r1 rfl
    subst e
    obtain ⟨v, a2, s2, l2, q1, c2, m2⟩ := jB (sv := sv) hG l1
    refine ⟨nI v, a2, s2, l2, fun q => (by cases q), q1, fun σ f Q hT hf => ?_, fun σ f Q hT hf => ?_⟩
    · have d1 := fun Q => c1 σ Q hT
      have d2 := fun Q => c2 σ Q hT
      subst hf
      simp only [x45_22, x45_23, x45_26, x45_27, x45_28, x45_30, x45_33, x45_36, x45_37, x45_40, x45_43, x45_44, Option.toList_some, Option.toList_none, List.cons_append, List.nil_append, cat_i, cat_r, cat_n, cat_f, cs_n, cs_i, cs_r, cs_l, cs_f, Nat.reduceAdd, Nat.reduceLeDiff, Nat.zero_le, if_true, if_false, true_or, or_true, am_wr_at, Nat.reduceEqDiff, not_true_eq_false, not_false_eq_true, i_one, ite_not, bI_z, bI_nz, bI_t, bI_f, bI_or, Bool.false_eq_true, Bool.true_eq_false, reduceCtorEq, st44, lc46, b2, b3, d1, d2, cT_wr f46, cT_46]
    · have d1 := fun Q => m1 σ Q hT
      have d2 := fun Q => m2 σ Q hT
      subst hf
      simp only [x125_30, x125_31, x125_34, x125_35, x125_36, x125_37, x125_38, x125_40, x125_43, x125_46, x125_47, x125_50, x125_53, x125_54, Option.toList_some, Option.toList_none, List.cons_append, List.nil_append, cat_i, cat_r, cat_n, cat_f, cs_n, cs_i, cs_r, cs_l, cs_f, Nat.reduceAdd, Nat.reduceLeDiff, Nat.zero_le, if_true, if_false, true_or, or_true, am_wr_at, Nat.reduceEqDiff, not_true_eq_false, not_false_eq_true, i_one, ite_not, bI_z, bI_nz, bI_t, bI_f, bI_or, Bool.false_eq_true, Bool.true_eq_false, reduceCtorEq, lc80, nI_1, k2, k3, d1, d2, mT_wr f80, mT_80]
theorem jSl (hG : okG g L) (hb : b < 16) (hk : k + 6 ≤ 48) (ha : a ≤ L) (st : Bool) : ∃ (v : Nat) (a' : Nat) (st' : Bool), a' ≤ L ∧ (st = true → st' = true) ∧ v ≤ 4 ∧ (∀ σ f Q, TC g L σ → σ.1 48 = f → AW sv 45 45 [.ref 65, .ref 45, .int (nI b)] [] (am_toH (cT σ a st)) 0 0 Q = AW sv 45 72 [.ref 65, .ref 45, .int (nI b)] [] (am_toH (cT (am_wr σ 48 (upd f b (nI v))) a' st')) 0 0 Q) ∧ (∀ σ f Q, TM g L σ → σ.1 80 = f → AW sv 125 55 [.ref 71, .int (nI k)] [] (am_toH (mT σ a st)) 0 0 Q = AW sv 125 82 [.ref 71, .int (nI k)] [] (am_toH (mT (am_wr σ 80 (upd f (k + 2) (nI v - 1))) a' st')) 0 0 Q) := by
  have b2 : am_in (nI b) 16 = true := nI_in' (by omega) (by omega)
  have b3 : (nI b).toNatClampNeg = b := nI_clamp (by omega)
  have k2 : am_in (nI (k + 2)) 48 = true := nI_in' (by omega) (by omega)
  have k3 : (nI (k + 2)).toNatClampNeg = k + 2 := nI_clamp (by omega)
  obtain ⟨r, a1, l1, r1, c1, m1⟩ := jH (sv := sv) (c := 108) hG 108 rfl (by decide) (by decide) ha st
  cases r with
  | false =>
    have e0 : nI 0 - 1 = -1 := by decide
    refine ⟨0, a1, st, l1, fun q => q, by decide, fun σ f Q hT hf => ?_, fun σ f Q hT hf => ?_⟩
    · have d1 := fun Q => c1 σ Q hT
      subst hf
      simp only [x45_45, x45_46, x45_49, x45_50, x45_51, x45_53, x45_56, x45_59, x45_60, x45_61, x45_62, x45_63, x45_66, x45_67, x45_70, x45_71, Option.toList_some, Option.toList_none, List.cons_append, List.nil_append, cat_i, cat_r, cat_n, cat_f, cs_n, cs_i, cs_r, cs_l, cs_f, Nat.reduceAdd, Nat.reduceLeDiff, Nat.zero_le, if_true, if_false, true_or, or_true, am_wr_at, Nat.reduceEqDiff, not_true_eq_false, not_false_eq_true, i_one, ite_not, bI_z, bI_nz, bI_t, bI_f, bI_or, Bool.false_eq_true, Bool.true_eq_false, reduceCtorEq, st44, lc48, b2, b3, d1, cT_wr f48, cT_48, nI_0]
    · have d1 := fun Q => m1 σ Q hT
      subst hf
      rw [e0]
      simp only [x125_55, x125_56, x125_59, x125_60, x125_61, x125_62, x125_63, x125_65, x125_68, x125_71, x125_72, x125_73, x125_74, x125_77, x125_80, x125_81, Option.toList_some, Option.toList_none, List.cons_append, List.nil_append, cat_i, cat_r, cat_n, cat_f, cs_n, cs_i, cs_r, cs_l, cs_f, Nat.reduceAdd, Nat.reduceLeDiff, Nat.zero_le, if_true, if_false, true_or, or_true, am_wr_at, Nat.reduceEqDiff, not_true_eq_false, not_false_eq_true, i_one, ite_not, bI_z, bI_nz, bI_t, bI_f, bI_or, Bool.false_eq_true, Bool.true_eq_false, reduceCtorEq, lc80, nI_p2, k2, k3, d1, mT_wr f80, mT_80]
  | true =>
    have e := r1 rfl
    subst e
    obtain ⟨v, a2, s2, l2, q1, q2, c2, m2⟩ := jD (sv := sv) (xl := 0) (xm := 4) (xh := 3) hG 0 3 (by decide) (by decide) rfl rfl rfl l1
    have hv : v + 1 ≤ 4 := by
      cases s2 with
      | false => have := q1 rfl; omega
      | true => have := q2 rfl; omega
    have e1 : 1 + nI v = nI (v + 1) := by rw [Nat.add_comm v 1]; exact nI_add 1 v
    refine ⟨v + 1, a2, s2, l2, fun q => (by cases q), hv, fun σ f Q hT hf => ?_, fun σ f Q hT hf => ?_⟩
    · have d1 := fun Q => c1 σ Q hT
      have d2 := fun Q => c2 σ Q hT
      subst hf
      simp only [x45_45, x45_46, x45_49, x45_50, x45_51, x45_53, x45_56, x45_59, x45_60, x45_61, x45_62, x45_63, x45_66, x45_67, x45_70, x45_71, Option.toList_some, Option.toList_none, List.cons_append, List.nil_append, cat_i, cat_r, cat_n, cat_f, cs_n, cs_i, cs_r, cs_l, cs_f, Nat.reduceAdd, Nat.reduceLeDiff, Nat.zero_le, if_true, if_false, true_or, or_true, am_wr_at, Nat.reduceEqDiff, not_true_eq_false, not_false_eq_true, i_one, ite_not, bI_z, bI_nz, bI_t, bI_f, bI_or, Bool.false_eq_true, Bool.true_eq_false, reduceCtorEq, st44, lc48, b2, b3, d1, d2, e1, cT_wr f48, cT_48]
    · have d1 := fun Q => m1 σ Q hT
      have d2 := fun Q => m2 σ Q hT
      subst hf
      rw [nI_pred]
      simp only [x125_55, x125_56, x125_59, x125_60, x125_61, x125_62, x125_63, x125_65, x125_68, x125_71, x125_72, x125_73, x125_74, x125_77, x125_80, x125_81, Option.toList_some, Option.toList_none, List.cons_append, List.nil_append, cat_i, cat_r, cat_n, cat_f, cs_n, cs_i, cs_r, cs_l, cs_f, Nat.reduceAdd, Nat.reduceLeDiff, Nat.zero_le, if_true, if_false, true_or, or_true, am_wr_at, Nat.reduceEqDiff, not_true_eq_false, not_false_eq_true, i_one, ite_not, bI_z, bI_nz, bI_t, bI_f, bI_or, Bool.false_eq_true, Bool.true_eq_false, reduceCtorEq, lc80, nI_p2, k2, k3, d1, d2, mT_wr f80, mT_80]
theorem jSn (hG : okG g L) (hb : b < 16) (hk : k + 6 ≤ 48) (ha : a ≤ L) (st : Bool) : ∃ (v : Nat) (a' : Nat) (st' : Bool), a' ≤ L ∧ (st = true → st' = true) ∧ v ≤ 4 ∧ (∀ σ f Q, TC g L σ → σ.1 49 = f → AW sv 45 72 [.ref 65, .ref 45, .int (nI b)] [] (am_toH (cT σ a st)) 0 0 Q = AW sv 45 99 [.ref 65, .ref 45, .int (nI b)] [] (am_toH (cT (am_wr σ 49 (upd f b (nI v))) a' st')) 0 0 Q) ∧ (∀ σ f Q, TM g L σ → σ.1 80 = f → AW sv 125 82 [.ref 71, .int (nI k)] [] (am_toH (mT σ a st)) 0 0 Q = AW sv 125 109 [.ref 71, .int (nI k)] [] (am_toH (mT (am_wr σ 80 (upd f (k + 3) (nI v - 1))) a' st')) 0 0 Q) := by
  have b2 : am_in (nI b) 16 = true := nI_in' (by omega) (by omega)
  have b3 : (nI b).toNatClampNeg = b := nI_clamp (by omega)
  have k2 : am_in (nI (k + 3)) 48 = true := nI_in' (by omega) (by omega)
  have k3 : (nI (k + 3)).toNatClampNeg = k + 3 := nI_clamp (by omega)
  obtain ⟨r, a1, l1, r1, c1, m1⟩ := jH (sv := sv) (c := 110) hG 110 rfl (by decide) (by decide) ha st
  cases r with
  | false =>
    have e0 : nI 0 - 1 = -1 := by decide
    refine ⟨0, a1, st, l1, fun q => q, by decide, fun σ f Q hT hf => ?_, fun σ f Q hT hf => ?_⟩
    · have d1 := fun Q => c1 σ Q hT
      subst hf
      simp only [x45_72, x45_73, x45_76, x45_77, x45_78, x45_80, x45_83, x45_86, x45_87, x45_88, x45_89, x45_90, x45_93, x45_94, x45_97, x45_98, Option.toList_some, Option.toList_none, List.cons_append, List.nil_append, cat_i, cat_r, cat_n, cat_f, cs_n, cs_i, cs_r, cs_l, cs_f, Nat.reduceAdd, Nat.reduceLeDiff, Nat.zero_le, if_true, if_false, true_or, or_true, am_wr_at, Nat.reduceEqDiff, not_true_eq_false, not_false_eq_true, i_one, ite_not, bI_z, bI_nz, bI_t, bI_f, bI_or, Bool.false_eq_true, Bool.true_eq_false, reduceCtorEq, st44, lc49, b2, b3, d1, cT_wr f49, cT_49, nI_0]
    · have d1 := fun Q => m1 σ Q hT
      subst hf
      rw [e0]
      simp only [x125_82, x125_83, x125_86, x125_87, x125_88, x125_89, x125_90, x125_92, x125_95, x125_98, x125_99, x125_100, x125_101, x125_104, x125_107, x125_108, Option.toList_some, Option.toList_none, List.cons_append, List.nil_append, cat_i, cat_r, cat_n, cat_f, cs_n, cs_i, cs_r, cs_l, cs_f, Nat.reduceAdd, Nat.reduceLeDiff, Nat.zero_le, if_true, if_false, true_or, or_true, am_wr_at, Nat.reduceEqDiff, not_true_eq_false, not_false_eq_true, i_one, ite_not, bI_z, bI_nz, bI_t, bI_f, bI_or, Bool.false_eq_true, Bool.true_eq_false, reduceCtorEq, lc80, nI_p3, k2, k3, d1, mT_wr f80, mT_80]
  | true =>
    have e := r1 rfl
    subst e
    obtain ⟨v, a2, s2, l2, q1, q2, c2, m2⟩ := jD (sv := sv) (xl := 0) (xm := 4) (xh := 3) hG 0 3 (by decide) (by decide) rfl rfl rfl l1
    have hv : v + 1 ≤ 4 := by
      cases s2 with
      | false => have := q1 rfl; omega
      | true => have := q2 rfl; omega
    have e1 : 1 + nI v = nI (v + 1) := by rw [Nat.add_comm v 1]; exact nI_add 1 v
    refine ⟨v + 1, a2, s2, l2, fun q => (by cases q), hv, fun σ f Q hT hf => ?_, fun σ f Q hT hf => ?_⟩
    · have d1 := fun Q => c1 σ Q hT
      have d2 := fun Q => c2 σ Q hT
      subst hf
      simp only [x45_72, x45_73, x45_76, x45_77, x45_78, x45_80, x45_83, x45_86, x45_87, x45_88, x45_89, x45_90, x45_93, x45_94, x45_97, x45_98, Option.toList_some, Option.toList_none, List.cons_append, List.nil_append, cat_i, cat_r, cat_n, cat_f, cs_n, cs_i, cs_r, cs_l, cs_f, Nat.reduceAdd, Nat.reduceLeDiff, Nat.zero_le, if_true, if_false, true_or, or_true, am_wr_at, Nat.reduceEqDiff, not_true_eq_false, not_false_eq_true, i_one, ite_not, bI_z, bI_nz, bI_t, bI_f, bI_or, Bool.false_eq_true, Bool.true_eq_false, reduceCtorEq, st44, lc49, b2, b3, d1, d2, e1, cT_wr f49, cT_49]
    · have d1 := fun Q => m1 σ Q hT
      have d2 := fun Q => m2 σ Q hT
      subst hf
      rw [nI_pred]
      simp only [x125_82, x125_83, x125_86, x125_87, x125_88, x125_89, x125_90, x125_92, x125_95, x125_98, x125_99, x125_100, x125_101, x125_104, x125_107, x125_108, Option.toList_some, Option.toList_none, List.cons_append, List.nil_append, cat_i, cat_r, cat_n, cat_f, cs_n, cs_i, cs_r, cs_l, cs_f, Nat.reduceAdd, Nat.reduceLeDiff, Nat.zero_le, if_true, if_false, true_or, or_true, am_wr_at, Nat.reduceEqDiff, not_true_eq_false, not_false_eq_true, i_one, ite_not, bI_z, bI_nz, bI_t, bI_f, bI_or, Bool.false_eq_true, Bool.true_eq_false, reduceCtorEq, lc80, nI_p3, k2, k3, d1, d2, mT_wr f80, mT_80]
theorem jSj (hG : okG g L) (hb : b < 16) (hk : k + 6 ≤ 48) (ha : a ≤ L) (st : Bool) : ∃ (v : Bool) (a' : Nat) (st' : Bool), a' ≤ L ∧ (st = true → st' = true) ∧ True ∧ (∀ σ f Q, TC g L σ → σ.1 50 = f → AW sv 45 99 [.ref 65, .ref 45, .int (nI b)] [] (am_toH (cT σ a st)) 0 0 Q = AW sv 45 119 [.ref 65, .ref 45, .int (nI b)] [] (am_toH (cT (am_wr σ 50 (upd f b (bI v))) a' st')) 0 0 Q) ∧ (∀ σ f Q, TM g L σ → σ.1 80 = f → AW sv 125 109 [.ref 71, .int (nI k)] [] (am_toH (mT σ a st)) 0 0 Q = AW sv 125 131 [.ref 71, .int (nI k)] [] (am_toH (mT (am_wr σ 80 (upd f (k + 4) (bI v))) a' st')) 0 0 Q) := by
  have b2 : am_in (nI b) 16 = true := nI_in' (by omega) (by omega)
  have b3 : (nI b).toNatClampNeg = b := nI_clamp (by omega)
  have k2 : am_in (nI (k + 4)) 48 = true := nI_in' (by omega) (by omega)
  have k3 : (nI (k + 4)).toNatClampNeg = k + 4 := nI_clamp (by omega)
  obtain ⟨r, a1, l1, r1, c1, m1⟩ := jH (sv := sv) (c := 106) hG 106 rfl (by decide) (by decide) ha st
  refine ⟨r, a1, st, l1, fun q => q, trivial, fun σ f Q hT hf => ?_, fun σ f Q hT hf => ?_⟩
  · have d1 := fun Q => c1 σ Q hT
    subst hf
    cases r with
    | false => simp only [x45_99, x45_100, x45_103, x45_104, x45_105, x45_107, x45_110, x45_113, x45_114, x45_117, x45_118, Option.toList_some, Option.toList_none, List.cons_append, List.nil_append, cat_i, cat_r, cat_n, cat_f, cs_n, cs_i, cs_r, cs_l, cs_f, Nat.reduceAdd, Nat.reduceLeDiff, Nat.zero_le, if_true, if_false, true_or, or_true, am_wr_at, Nat.reduceEqDiff, not_true_eq_false, not_false_eq_true, i_one, ite_not, bI_z, bI_nz, bI_t, bI_f, bI_or, Bool.false_eq_true, Bool.true_eq_false, reduceCtorEq, st44, lc50, b2, b3, d1, cT_wr f50, cT_50]
    | true => simp only [x45_99, x45_100, x45_103, x45_104, x45_105, x45_107, x45_110, x45_113, x45_114, x45_117, x45_118, Option.toList_some, Option.toList_none, List.cons_append, List.nil_append, cat_i, cat_r, cat_n, cat_f, cs_n, cs_i, cs_r, cs_l, cs_f, Nat.reduceAdd, Nat.reduceLeDiff, Nat.zero_le, if_true, if_false, true_or, or_true, am_wr_at, Nat.reduceEqDiff, not_true_eq_false, not_false_eq_true, i_one, ite_not, bI_z, bI_nz, bI_t, bI_f, bI_or, Bool.false_eq_true, Bool.true_eq_false, reduceCtorEq, st44, lc50, b2, b3, d1, cT_wr f50, cT_50]
  · have d1 := fun Q => m1 σ Q hT
    subst hf
    cases r with
    | false => simp only [x125_109, x125_110, x125_113, x125_114, x125_115, x125_116, x125_117, x125_119, x125_122, x125_125, x125_126, x125_129, x125_130, Option.toList_some, Option.toList_none, List.cons_append, List.nil_append, cat_i, cat_r, cat_n, cat_f, cs_n, cs_i, cs_r, cs_l, cs_f, Nat.reduceAdd, Nat.reduceLeDiff, Nat.zero_le, if_true, if_false, true_or, or_true, am_wr_at, Nat.reduceEqDiff, not_true_eq_false, not_false_eq_true, i_one, ite_not, bI_z, bI_nz, bI_t, bI_f, bI_or, Bool.false_eq_true, Bool.true_eq_false, reduceCtorEq, lc80, nI_p4, k2, k3, d1, mT_wr f80, mT_80]
    | true => simp only [x125_109, x125_110, x125_113, x125_114, x125_115, x125_116, x125_117, x125_119, x125_122, x125_125, x125_126, x125_129, x125_130, Option.toList_some, Option.toList_none, List.cons_append, List.nil_append, cat_i, cat_r, cat_n, cat_f, cs_n, cs_i, cs_r, cs_l, cs_f, Nat.reduceAdd, Nat.reduceLeDiff, Nat.zero_le, if_true, if_false, true_or, or_true, am_wr_at, Nat.reduceEqDiff, not_true_eq_false, not_false_eq_true, i_one, ite_not, bI_z, bI_nz, bI_t, bI_f, bI_or, Bool.false_eq_true, Bool.true_eq_false, reduceCtorEq, lc80, nI_p4, k2, k3, d1, mT_wr f80, mT_80]
theorem jSx (hG : okG g L) (hb : b < 16) (hk : k + 6 ≤ 48) (ha : a ≤ L) (st : Bool) : ∃ (v : Int32) (a' : Nat) (st' : Bool), a' ≤ L ∧ (st = true → st' = true) ∧ (st' = false → deed v) ∧ (∀ σ f Q, TC g L σ → σ.1 47 = f → AW sv 45 119 [.ref 65, .ref 45, .int (nI b)] [] (am_toH (cT σ a st)) 0 0 Q = AW sv 45 142 [.ref 65, .ref 45, .int (nI b)] [] (am_toH (cT (am_wr σ 47 (upd f b v)) a' st')) 0 0 Q) ∧ (∀ σ f Q, TM g L σ → σ.1 80 = f → AW sv 125 131 [.ref 71, .int (nI k)] [] (am_toH (mT σ a st)) 0 0 Q = AW sv 125 156 [.ref 71, .int (nI k)] [] (am_toH (mT (am_wr σ 80 (upd f (k + 5) v)) a' st')) 0 0 Q) := by
  have b2 : am_in (nI b) 16 = true := nI_in' (by omega) (by omega)
  have b3 : (nI b).toNatClampNeg = b := nI_clamp (by omega)
  have k2 : am_in (nI (k + 5)) 48 = true := nI_in' (by omega) (by omega)
  have k3 : (nI (k + 5)).toNatClampNeg = k + 5 := nI_clamp (by omega)
  obtain ⟨r, a1, l1, r1, c1, m1⟩ := jH (sv := sv) (c := 120) hG 120 rfl (by decide) (by decide) ha st
  cases r with
  | false =>
    refine ⟨0, a1, st, l1, fun q => q, fun _ => Or.inl rfl, fun σ f Q hT hf => ?_, fun σ f Q hT hf => ?_⟩
    · have d1 := fun Q => c1 σ Q hT
      subst hf
      simp only [x45_119, x45_120, x45_123, x45_124, x45_125, x45_127, x45_130, x45_133, x45_134, x45_137, x45_140, x45_141, Option.toList_some, Option.toList_none, List.cons_append, List.nil_append, cat_i, cat_r, cat_n, cat_f, cs_n, cs_i, cs_r, cs_l, cs_f, Nat.reduceAdd, Nat.reduceLeDiff, Nat.zero_le, if_true, if_false, true_or, or_true, am_wr_at, Nat.reduceEqDiff, not_true_eq_false, not_false_eq_true, i_one, ite_not, bI_z, bI_nz, bI_t, bI_f, bI_or, Bool.false_eq_true, Bool.true_eq_false, reduceCtorEq, st44, lc47, b2, b3, d1, cT_wr f47, cT_47]
    · have d1 := fun Q => m1 σ Q hT
      subst hf
      simp only [x125_131, x125_132, x125_135, x125_136, x125_137, x125_138, x125_139, x125_141, x125_144, x125_147, x125_148, x125_151, x125_154, x125_155, Option.toList_some, Option.toList_none, List.cons_append, List.nil_append, cat_i, cat_r, cat_n, cat_f, cs_n, cs_i, cs_r, cs_l, cs_f, Nat.reduceAdd, Nat.reduceLeDiff, Nat.zero_le, if_true, if_false, true_or, or_true, am_wr_at, Nat.reduceEqDiff, not_true_eq_false, not_false_eq_true, i_one, ite_not, bI_z, bI_nz, bI_t, bI_f, bI_or, Bool.false_eq_true, Bool.true_eq_false, reduceCtorEq, lc80, nI_p5, k2, k3, d1, mT_wr f80, mT_80]
  | true =>
    have e := r1 rfl
    subst e
    obtain ⟨v, a2, s2, l2, q1, c2, m2⟩ := jB (sv := sv) hG l1
    refine ⟨nI v, a2, s2, l2, fun q => (by cases q), q1, fun σ f Q hT hf => ?_, fun σ f Q hT hf => ?_⟩
    · have d1 := fun Q => c1 σ Q hT
      have d2 := fun Q => c2 σ Q hT
      subst hf
      simp only [x45_119, x45_120, x45_123, x45_124, x45_125, x45_127, x45_130, x45_133, x45_134, x45_137, x45_140, x45_141, Option.toList_some, Option.toList_none, List.cons_append, List.nil_append, cat_i, cat_r, cat_n, cat_f, cs_n, cs_i, cs_r, cs_l, cs_f, Nat.reduceAdd, Nat.reduceLeDiff, Nat.zero_le, if_true, if_false, true_or, or_true, am_wr_at, Nat.reduceEqDiff, not_true_eq_false, not_false_eq_true, i_one, ite_not, bI_z, bI_nz, bI_t, bI_f, bI_or, Bool.false_eq_true, Bool.true_eq_false, reduceCtorEq, st44, lc47, b2, b3, d1, d2, cT_wr f47, cT_47]
    · have d1 := fun Q => m1 σ Q hT
      have d2 := fun Q => m2 σ Q hT
      subst hf
      simp only [x125_131, x125_132, x125_135, x125_136, x125_137, x125_138, x125_139, x125_141, x125_144, x125_147, x125_148, x125_151, x125_154, x125_155, Option.toList_some, Option.toList_none, List.cons_append, List.nil_append, cat_i, cat_r, cat_n, cat_f, cs_n, cs_i, cs_r, cs_l, cs_f, Nat.reduceAdd, Nat.reduceLeDiff, Nat.zero_le, if_true, if_false, true_or, or_true, am_wr_at, Nat.reduceEqDiff, not_true_eq_false, not_false_eq_true, i_one, ite_not, bI_z, bI_nz, bI_t, bI_f, bI_or, Bool.false_eq_true, Bool.true_eq_false, reduceCtorEq, lc80, nI_p5, k2, k3, d1, d2, mT_wr f80, mT_80]
/-- a clause -/
theorem jC (hG : okG g L) (hk : k + 6 ≤ 48) (ha : a ≤ L) : ∃ (c : Nat → Int32) (a' : Nat) (st' : Bool), a' ≤ L ∧ (st' = false → okC c) ∧ (∀ σ, TC g L σ → ∃ σ' : am_S, σ'.2 = σ.2 ∧ (∀ k, k < 46 ∨ 50 < k → σ'.1 k = σ.1 k) ∧ (st' = false → cV σ' 44 = apC (cV σ 44) c) ∧ ∀ Q, AM sv 45 [.ref 65, .ref 45] (am_toH (cT σ a false)) Q = Q none (am_toH (cT σ' a' st'))) ∧ (∀ σ, TM g L σ → ∃ σ' : am_S, (∀ k, k ≠ 80 → σ'.1 k = σ.1 k) ∧ (∀ j, j < k ∨ k + 6 ≤ j → σ'.1 80 j = σ.1 80 j) ∧ (st' = false → σ'.1 80 k = c 0 ∧ σ'.1 80 (k + 1) = c 1 ∧ σ'.1 80 (k + 2) = c 2 - 1 ∧ σ'.1 80 (k + 3) = c 3 - 1 ∧ σ'.1 80 (k + 4) = c 4 ∧ σ'.1 80 (k + 5) = c 5) ∧ ∀ Q, AM sv 125 [.ref 71, .int (nI k)] (am_toH (mT σ a false)) Q = Q none (am_toH (mT σ' a' st'))) := by
  obtain ⟨b, b', a1, s1, l1, h1, c1, m1⟩ := jN (sv := sv) (lim := 16) hG (by decide) (by decide) ha
  obtain ⟨r, a2, l2, r2, c2, m2⟩ := jH (sv := sv) (c := 58) hG 58 rfl (by decide) (by decide) l1 s1
  have k2 : am_in (nI k) 48 = true := nI_in' (by omega) (by omega)
  have k3 : (nI k).toNatClampNeg = k := nI_clamp (by omega)
  have n16 : nI 16 = 16 := rfl
  have n15 : nI (16 - 1) = 15 := rfl
  rw [n16] at c1
  rw [n15] at m1
  cases r with
  | false =>
    refine ⟨fun _ => 0, a2, true, l2, fun q => (by cases q), fun σ hT => ⟨σ, rfl, fun _ _ => rfl, fun q => (by cases q), fun Q => ?_⟩, fun σ hT => ?_⟩
    · have d1 := fun Q => c1 σ Q hT
      have d2 := fun Q => c2 σ Q hT
      rw [n45]
      simp only [x45_0, x45_1, x45_3, x45_6, x45_7, x45_8, x45_10, x45_13, x45_16, x45_17, x45_18, x45_21, Option.toList_some, Option.toList_none, List.cons_append, List.nil_append, cat_i, cat_r, cat_n, cat_f, cs_n, cs_i, cs_r, cs_l, cs_f, Nat.reduceAdd, Nat.reduceLeDiff, Nat.zero_le, if_true, if_false, true_or, or_true, am_wr_at, Nat.reduceEqDiff, not_true_eq_false, not_false_eq_true, i_one, ite_not, bI_z, bI_nz, bI_t, bI_f, bI_or, Bool.false_eq_true, Bool.true_eq_false, reduceCtorEq, d1, d2, cT_w31, am_one_t]
    · have d1 := fun Q => m1 σ Q hT
      have d2 := fun Q => m2 (am_wr σ 80 (upd (σ.1 80) k (nI b'))) Q (TM_wr (by decide) (by decide) hT)
      have hs := fun c σ Q => (hs_st (sv := sv) (a := a2) (c := c)).2 σ Q
      have e1 : am_in (nI (k + 1)) 48 = true := nI_in' (by omega) (by omega)
      have e2 : am_in (nI (k + 2)) 48 = true := nI_in' (by omega) (by omega)
      have e3 : am_in (nI (k + 3)) 48 = true := nI_in' (by omega) (by omega)
      have e4 : am_in (nI (k + 4)) 48 = true := nI_in' (by omega) (by omega)
      have e5 : am_in (nI (k + 5)) 48 = true := nI_in' (by omega) (by omega)
      have g1 : (nI (k + 1)).toNatClampNeg = k + 1 := nI_clamp (by omega)
      have g2 : (nI (k + 2)).toNatClampNeg = k + 2 := nI_clamp (by omega)
      have g3 : (nI (k + 3)).toNatClampNeg = k + 3 := nI_clamp (by omega)
      have g4 : (nI (k + 4)).toNatClampNeg = k + 4 := nI_clamp (by omega)
      have g5 : (nI (k + 5)).toNatClampNeg = k + 5 := nI_clamp (by omega)
      refine ⟨am_wr σ 80 (upd (upd (upd (upd (upd (upd (σ.1 80) k (nI b')) (k + 1) 0) (k + 2) (-1)) (k + 3) (-1)) (k + 4) 0) (k + 5) 0), fun k q => am_wr_ne q, fun j q => ?_, fun q => (by cases q), fun Q => ?_⟩
      · rw [am_wr_eq, upd_at, if_neg (by omega), upd_at, if_neg (by omega), upd_at, if_neg (by omega), upd_at, if_neg (by omega), upd_at, if_neg (by omega), upd_at, if_neg (by omega)]
      · rw [n125]
        simp only [x125_0, x125_1, x125_4, x125_5, x125_6, x125_8, x125_11, x125_12, x125_13, x125_14, x125_16, x125_19, x125_22, x125_23, x125_26, x125_27, x125_30, x125_31, x125_34, x125_35, x125_36, x125_37, x125_38, x125_40, x125_43, x125_46, x125_47, x125_50, x125_53, x125_54, x125_55, x125_56, x125_59, x125_60, x125_61, x125_62, x125_63, x125_65, x125_68, x125_71, x125_72, x125_73, x125_74, x125_77, x125_80, x125_81, x125_82, x125_83, x125_86, x125_87, x125_88, x125_89, x125_90, x125_92, x125_95, x125_98, x125_99, x125_100, x125_101, x125_104, x125_107, x125_108, x125_109, x125_110, x125_113, x125_114, x125_115, x125_116, x125_117, x125_119, x125_122, x125_125, x125_126, x125_129, x125_130, x125_131, x125_132, x125_135, x125_136, x125_137, x125_138, x125_139, x125_141, x125_144, x125_147, x125_148, x125_151, x125_154, x125_155, x125_156, Option.toList_some, Option.toList_none, List.cons_append, List.nil_append, cat_i, cat_r, cat_n, cat_f, cs_n, cs_i, cs_r, cs_l, cs_f, Nat.reduceAdd, Nat.reduceLeDiff, Nat.zero_le, if_true, if_false, true_or, or_true, am_wr_at, Nat.reduceEqDiff, not_true_eq_false, not_false_eq_true, i_one, ite_not, bI_z, bI_nz, bI_t, bI_f, bI_or, Bool.false_eq_true, Bool.true_eq_false, reduceCtorEq, lc80, k2, k3, d1, d2, mT_w121, hs, mT_wr f80, mT_80, am_wr_wr, am_one_t, nI_1, nI_p2, nI_p3, nI_p4, nI_p5, e1, e2, e3, e4, e5, g1, g2, g3, g4, g5]
  | true =>
    have es := r2 rfl
    subst es
    obtain ⟨hbb, hb⟩ := h1 rfl
    subst hbb
    obtain ⟨vm, a3, s3, l3, t3, o3, c3, m3⟩ := jSm (sv := sv) (b := b) (k := k) hG hb hk l2 false
    obtain ⟨vl, a4, s4, l4, t4, o4, c4, m4⟩ := jSl (sv := sv) (b := b) (k := k) hG hb hk l3 s3
    obtain ⟨vn, a5, s5, l5, t5, o5, c5, m5⟩ := jSn (sv := sv) (b := b) (k := k) hG hb hk l4 s4
    obtain ⟨vj, a6, s6, l6, t6, -, c6, m6⟩ := jSj (sv := sv) (b := b) (k := k) hG hb hk l5 s5
    obtain ⟨vx, a7, s7, l7, t7, o7, c7, m7⟩ := jSx (sv := sv) (b := b) (k := k) hG hb hk l6 s6
    have s6f : s7 = false → s3 = false := by
      intro q
      cases s3 with
      | false => rfl
      | true => rw [t7 (t6 (t5 (t4 rfl)))] at q; cases q
    have b3 : (nI b).toNatClampNeg = b := nI_clamp (by omega)
    refine ⟨fun i => if i = 0 then nI b else if i = 1 then vm else if i = 2 then nI vl else if i = 3 then nI vn else if i = 4 then bI vj else vx, a7, s7, l7, fun q => ⟨⟨b, hb, rfl⟩, o3 (s6f q), ?_, ?_, ?_, o7 q⟩, fun σ hT => ?_, fun σ hT => ?_⟩
    · show rg (nI vl) 0 4
      rw [rg, nI_toInt (by omega)]; omega
    · show rg (nI vn) 0 4
      rw [rg, nI_toInt (by omega)]; omega
    · show rg (bI vj) 0 1
      cases vj
      · exact ⟨by decide, by decide⟩
      · exact ⟨by decide, by decide⟩
    · have T1 := TC_wr (k := 46) (f := upd (σ.1 46) b vm) (by decide) (by decide) hT
      have T2 := TC_wr (k := 48) (f := upd (σ.1 48) b (nI vl)) (by decide) (by decide) T1
      have T3 := TC_wr (k := 49) (f := upd (σ.1 49) b (nI vn)) (by decide) (by decide) T2
      have T4 := TC_wr (k := 50) (f := upd (σ.1 50) b (bI vj)) (by decide) (by decide) T3
      refine ⟨am_wr (am_wr (am_wr (am_wr (am_wr σ 46 (upd (σ.1 46) b vm)) 48 (upd (σ.1 48) b (nI vl))) 49 (upd (σ.1 49) b (nI vn))) 50 (upd (σ.1 50) b (bI vj))) 47 (upd (σ.1 47) b vx), rfl, fun k q => ?_, fun _ => ?_, fun Q => ?_⟩
      · rw [am_wr_ne (by omega), am_wr_ne (by omega), am_wr_ne (by omega), am_wr_ne (by omega), am_wr_ne (by omega)]
      · have g0 := cV_r0 (σ := σ) (a := 44) (j := b) (x := vm) hb
        have g2 := cV_r2 (σ := am_wr σ 46 (upd (σ.1 46) b vm)) (a := 44) (j := b) (x := nI vl) hb
        have g3 := cV_r3 (σ := am_wr (am_wr σ 46 (upd (σ.1 46) b vm)) 48 (upd (σ.1 48) b (nI vl))) (a := 44) (j := b) (x := nI vn) hb
        have g4 := cV_r4 (σ := am_wr (am_wr (am_wr σ 46 (upd (σ.1 46) b vm)) 48 (upd (σ.1 48) b (nI vl))) 49 (upd (σ.1 49) b (nI vn))) (a := 44) (j := b) (x := bI vj) hb
        have g1 := cV_r1 (σ := am_wr (am_wr (am_wr (am_wr σ 46 (upd (σ.1 46) b vm)) 48 (upd (σ.1 48) b (nI vl))) 49 (upd (σ.1 49) b (nI vn))) 50 (upd (σ.1 50) b (bI vj))) (a := 44) (j := b) (x := vx) hb
        simp only [Option.toList_some, Option.toList_none, List.cons_append, List.nil_append, cat_i, cat_r, cat_n, cat_f, cs_n, cs_i, cs_r, cs_l, cs_f, Nat.reduceAdd, Nat.reduceLeDiff, Nat.zero_le, if_true, if_false, true_or, or_true, am_wr_at, Nat.reduceEqDiff, not_true_eq_false, not_false_eq_true, i_one, ite_not, bI_z, bI_nz, bI_t, bI_f, bI_or, Bool.false_eq_true, Bool.true_eq_false, reduceCtorEq] at g0 g1 g2 g3 g4
        rw [g1, g4, g3, g2, g0]
        simp only [apC, Option.toList_some, Option.toList_none, List.cons_append, List.nil_append, cat_i, cat_r, cat_n, cat_f, cs_n, cs_i, cs_r, cs_l, cs_f, Nat.reduceAdd, Nat.reduceLeDiff, Nat.zero_le, if_true, if_false, true_or, or_true, am_wr_at, Nat.reduceEqDiff, not_true_eq_false, not_false_eq_true, i_one, ite_not, bI_z, bI_nz, bI_t, bI_f, bI_or, Bool.false_eq_true, Bool.true_eq_false, reduceCtorEq, b3]
      · have st : AM sv 45 [.ref 65, .ref 45] (am_toH (cT σ a false)) Q = AW sv 45 22 [.ref 65, .ref 45, .int (nI b)] [] (am_toH (cT σ a2 false)) 0 0 Q := by
          have d1 := fun Q => c1 σ Q hT
          have d2 := fun Q => c2 σ Q hT
          rw [n45]
          simp only [x45_0, x45_1, x45_3, x45_6, x45_7, x45_8, x45_10, x45_13, Option.toList_some, Option.toList_none, List.cons_append, List.nil_append, cat_i, cat_r, cat_n, cat_f, cs_n, cs_i, cs_r, cs_l, cs_f, Nat.reduceAdd, Nat.reduceLeDiff, Nat.zero_le, if_true, if_false, true_or, or_true, am_wr_at, Nat.reduceEqDiff, not_true_eq_false, not_false_eq_true, i_one, ite_not, bI_z, bI_nz, bI_t, bI_f, bI_or, Bool.false_eq_true, Bool.true_eq_false, reduceCtorEq, d1, d2]
        rw [st, c3 σ _ Q hT rfl, c4 _ _ Q T1 (by rw [am_wr_ne (by decide)]), c5 _ _ Q T2 (by rw [am_wr_ne (by decide), am_wr_ne (by decide)]), c6 _ _ Q T3 (by rw [am_wr_ne (by decide), am_wr_ne (by decide), am_wr_ne (by decide)]), c7 _ _ Q T4 (by rw [am_wr_ne (by decide), am_wr_ne (by decide), am_wr_ne (by decide), am_wr_ne (by decide)]), x45_142]
    · have T0 := TM_wr (k := 80) (f := upd (σ.1 80) k (nI b)) (by decide) (by decide) hT
      have T1 := TM_wr (k := 80) (f := upd (upd (σ.1 80) k (nI b)) (k + 1) vm) (by decide) (by decide) hT
      have T2 := TM_wr (k := 80) (f := upd (upd (upd (σ.1 80) k (nI b)) (k + 1) vm) (k + 2) (nI vl - 1)) (by decide) (by decide) hT
      have T3 := TM_wr (k := 80) (f := upd (upd (upd (upd (σ.1 80) k (nI b)) (k + 1) vm) (k + 2) (nI vl - 1)) (k + 3) (nI vn - 1)) (by decide) (by decide) hT
      have T4 := TM_wr (k := 80) (f := upd (upd (upd (upd (upd (σ.1 80) k (nI b)) (k + 1) vm) (k + 2) (nI vl - 1)) (k + 3) (nI vn - 1)) (k + 4) (bI vj)) (by decide) (by decide) hT
      refine ⟨am_wr σ 80 (upd (upd (upd (upd (upd (upd (σ.1 80) k (nI b)) (k + 1) vm) (k + 2) (nI vl - 1)) (k + 3) (nI vn - 1)) (k + 4) (bI vj)) (k + 5) vx), fun k q => am_wr_ne q, fun j q => ?_, fun q => ?_, fun Q => ?_⟩
      · rw [am_wr_eq, upd_at, if_neg (by omega), upd_at, if_neg (by omega), upd_at, if_neg (by omega), upd_at, if_neg (by omega), upd_at, if_neg (by omega), upd_at, if_neg (by omega)]
      · rw [am_wr_eq]
        simp (disch := omega) only [upd_at, if_neg, if_true]
        refine ⟨?_, ?_, ?_, ?_, ?_, ?_⟩ <;> first | trivial | rfl
      · have st : AM sv 125 [.ref 71, .int (nI k)] (am_toH (mT σ a false)) Q = AW sv 125 30 [.ref 71, .int (nI k)] [] (am_toH (mT (am_wr σ 80 (upd (σ.1 80) k (nI b))) a2 false)) 0 0 Q := by
          have d1 := fun Q => m1 σ Q hT
          have d2 := fun Q => m2 (am_wr σ 80 (upd (σ.1 80) k (nI b))) Q T0
          rw [n125]
          simp only [x125_0, x125_1, x125_4, x125_5, x125_6, x125_8, x125_11, x125_12, x125_13, x125_14, x125_16, x125_19, x125_22, x125_23, x125_26, x125_27, Option.toList_some, Option.toList_none, List.cons_append, List.nil_append, cat_i, cat_r, cat_n, cat_f, cs_n, cs_i, cs_r, cs_l, cs_f, Nat.reduceAdd, Nat.reduceLeDiff, Nat.zero_le, if_true, if_false, true_or, or_true, am_wr_at, Nat.reduceEqDiff, not_true_eq_false, not_false_eq_true, i_one, ite_not, bI_z, bI_nz, bI_t, bI_f, bI_or, Bool.false_eq_true, Bool.true_eq_false, reduceCtorEq, lc80, k2, k3, d1, d2, mT_w120, mT_wr f80, mT_80, am_zero_t]
        rw [st, m3 _ _ Q T0 am_wr_eq, am_wr_wr, m4 _ _ Q T1 am_wr_eq, am_wr_wr, m5 _ _ Q T2 am_wr_eq, am_wr_wr, m6 _ _ Q T3 am_wr_eq, am_wr_wr, m7 _ _ Q T4 am_wr_eq, am_wr_wr, x125_156]
end I76
