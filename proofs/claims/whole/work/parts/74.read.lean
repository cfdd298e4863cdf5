/-! THE READER: both readers step by step -/
def cT (σ : am_S) (a : Nat) (st : Bool) : am_S := am_wr σ 65 (upd (upd (σ.1 65) 2 (nI a)) 3 (bI st))
def mT (σ : am_S) (a : Nat) (st : Bool) : am_S := am_wr σ 71 (upd (upd (σ.1 71) 11 (nI a)) 12 (bI st))
def TC (g : Nat → Nat) (L : Nat) (σ : am_S) : Prop := σ.1 65 1 = nI L ∧ ∀ j, j < L → σ.1 66 j = nI (g j)
def TM (g : Nat → Nat) (L : Nat) (σ : am_S) : Prop := σ.1 71 10 = nI L ∧ ∀ j, j < L → σ.1 79 j = nI (g j)
theorem am_wr_comm {σ : am_S} {a b : Nat} {f g : Nat → Int32} (h : a ≠ b) : am_wr (am_wr σ a f) b g = am_wr (am_wr σ b g) a f := by
  unfold am_wr
  simp only [Prod.mk.injEq, and_true]
  funext k
  by_cases q : k = a
  · subst q
    simp [h]
  · by_cases q2 : k = b
    · subst q2
      simp [q]
    · simp [q, q2]
theorem fb_b'' {c : Nat} (h : c ≤ 1000) : ¬ nI c = -1 := by
  intro q
  have := congrArg Int32.toInt q
  rw [nI_toInt (by omega), show (-1 : Int32).toInt = -1 by decide] at this
  omega
section I74
variable {sv : am_V} {h : am_H} {σ τ ρ : am_S} {Q : Option Value → am_H → Prop} {a b : Nat} {st st' : Bool} {g : Nat → Nat} {L : Nat} {x y : Int32}
theorem cT_2 : (cT σ a st).1 65 2 = nI a := by simp [cT, am_wr_at, upd_at]
theorem cT_3 : (cT σ a st).1 65 3 = bI st := by simp [cT, am_wr_at, upd_at]
theorem cT_1 : (cT σ a st).1 65 1 = σ.1 65 1 := by simp [cT, am_wr_at, upd_at]
theorem cT_k {k : Nat} (h : k ≠ 65) : (cT σ a st).1 k = σ.1 k := am_wr_ne h
theorem cT_66 : (cT σ a st).1 66 = σ.1 66 := cT_k (by decide)
theorem cT_w2 : am_wr (cT σ a st) 65 (upd ((cT σ a st).1 65) 2 (nI b)) = cT σ b st := by
  unfold cT
  rw [am_wr_eq, am_wr_wr]
  congr 1
  funext j
  simp only [upd_at]
  by_cases q : j = 2
  · subst q; simp
  · simp [q]
theorem cT_w3 : am_wr (cT σ a st) 65 (upd ((cT σ a st).1 65) 3 (bI st')) = cT σ a st' := by
  unfold cT
  rw [am_wr_eq, am_wr_wr]
  congr 1
  funext j
  simp only [upd_at]
  by_cases q : j = 3
  · subst q; simp
  · simp [q]
theorem cT_w31 : am_wr (cT σ a st) 65 (upd ((cT σ a st).1 65) 3 1) = cT σ a true := cT_w3 (st' := true)
theorem cT_w30 : am_wr (cT σ a st) 65 (upd ((cT σ a st).1 65) 3 0) = cT σ a false := cT_w3 (st' := false)
theorem cT_wr {k : Nat} {f : Nat → Int32} (hk : (k = 65) = False) : am_wr (cT σ a st) k f = cT (am_wr σ k f) a st := by
  have hk : k ≠ 65 := of_eq_false hk
  unfold cT
  rw [am_wr_comm (Ne.symm hk), am_wr_ne (Ne.symm hk)]
theorem cT_cT : cT (cT σ a st) b st' = cT σ b st' := by
  rw [cT, ← cT_w3 (σ := σ) (a := b) (st := st), ← cT_w2 (σ := σ) (a := a) (b := b)]
  unfold cT
  simp only [am_wr_wr, am_wr_eq]
theorem mT_11 : (mT σ a st).1 71 11 = nI a := by simp [mT, am_wr_at, upd_at]
theorem mT_12 : (mT σ a st).1 71 12 = bI st := by simp [mT, am_wr_at, upd_at]
theorem mT_10 : (mT σ a st).1 71 10 = σ.1 71 10 := by simp [mT, am_wr_at, upd_at]
theorem mT_7 : (mT σ a st).1 71 7 = σ.1 71 7 := by simp [mT, am_wr_at, upd_at]
theorem mT_k {k : Nat} (h : k ≠ 71) : (mT σ a st).1 k = σ.1 k := am_wr_ne h
theorem mT_79 : (mT σ a st).1 79 = σ.1 79 := mT_k (by decide)
theorem mT_80 : (mT σ a st).1 80 = σ.1 80 := mT_k (by decide)
theorem mT_78 : (mT σ a st).1 78 = σ.1 78 := mT_k (by decide)
theorem mT_w11 : am_wr (mT σ a st) 71 (upd ((mT σ a st).1 71) 11 (nI b)) = mT σ b st := by
  unfold mT
  rw [am_wr_eq, am_wr_wr]
  congr 1
  funext j
  simp only [upd_at]
  by_cases q : j = 11
  · subst q; simp
  · simp [q]
theorem mT_w12 : am_wr (mT σ a st) 71 (upd ((mT σ a st).1 71) 12 (bI st')) = mT σ a st' := by
  unfold mT
  rw [am_wr_eq, am_wr_wr]
  congr 1
  funext j
  simp only [upd_at]
  by_cases q : j = 12
  · subst q; simp
  · simp [q]
theorem mT_w121 : am_wr (mT σ a st) 71 (upd ((mT σ a st).1 71) 12 1) = mT σ a true := mT_w12 (st' := true)
theorem mT_w120 : am_wr (mT σ a st) 71 (upd ((mT σ a st).1 71) 12 0) = mT σ a false := mT_w12 (st' := false)
theorem mT_wr {k : Nat} {f : Nat → Int32} (hk : (k = 71) = False) : am_wr (mT σ a st) k f = mT (am_wr σ k f) a st := by
  have hk : k ≠ 71 := of_eq_false hk
  unfold mT
  rw [am_wr_comm (Ne.symm hk), am_wr_ne (Ne.symm hk)]
/-- from a, behind blanks, is a' -/
def NX (sv : am_V) (g : Nat → Nat) (L a a' : Nat) : Prop := a ≤ a' ∧ a' ≤ L ∧ (a' = L ∨ ¬ g a' = 32) ∧ (∀ σ st Q, TC g L σ → AM sv 48 [.ref 65] (am_toH (cT σ a st)) Q = Q (some (.int (if a' < L then nI (g a') else -1))) (am_toH (cT σ a' st))) ∧ (∀ σ st Q, TM g L σ → AM sv 120 [.ref 71] (am_toH (mT σ a st)) Q = Q (some (.int (if a' < L then nI (g a') else 0))) (am_toH (mT σ a' st)))
def okG (g : Nat → Nat) (L : Nat) : Prop := L ≤ 100 ∧ ∀ j, j < L → 32 ≤ g j ∧ g j ≤ 126
theorem NX_fix (hG : okG g L) (ha : a ≤ L) (hb : a = L ∨ ¬ g a = 32) : NX sv g L a a := by
  obtain ⟨hL, hg⟩ := hG
  by_cases q : a < L
  · have hb : ¬ g a = 32 := by rcases hb with h | h <;> first | omega | exact h
    have gg := hg a q
    have e1 : ¬ nI L ≤ nI a := nI_ge q (by omega)
    have e2 : am_in (nI a) 100 = true := nI_in' (by omega) (by omega)
    have e3 : (nI a).toNatClampNeg = a := nI_clamp (by omega)
    have e4 : (nI (g a) = 32) = False := eq_false (fun c => hb (by
      have c : nI (g a) = nI 32 := c
      rwa [nI_eq (by omega) (by omega)] at c))
    refine ⟨Nat.le_refl _, ha, Or.inr hb, fun σ st Q hT => ?_, fun σ st Q hT => ?_⟩
    · have h2 := hT.2 a q
      rw [n48]
      simp only [x48_0, x48_1, x48_4, x48_5, x48_8, x48_11, x48_12, x48_15, x48_16, x48_19, x48_20, x48_22, x48_25, x48_26, x48_27, x48_30, x48_31, x48_32, x48_35, x48_38, x48_39, x48_42, x48_43, x48_46, x48_49, x48_50, x48_53, x48_54, x48_57, x48_58, x48_61, x48_62, Option.toList_some, Option.toList_none, List.cons_append, List.nil_append, cat_i, cat_r, cat_n, cat_f, cs_n, cs_i, cs_r, cs_l, cs_f, Nat.reduceAdd, Nat.reduceLeDiff, Nat.zero_le, if_true, if_false, true_or, or_true, am_wr_at, Nat.reduceEqDiff, not_true_eq_false, not_false_eq_true, i_one, ite_not, bI_z, bI_nz, bI_t, bI_f, bI_or, Bool.false_eq_true, Bool.true_eq_false, reduceCtorEq, lc66, cT_1, cT_2, cT_66, hT.1, h2, e1, e2, e3, e4, q]
    · have h2 := hT.2 a q
      rw [n120]
      simp only [x120_0, x120_1, x120_4, x120_5, x120_8, x120_11, x120_12, x120_15, x120_16, x120_19, x120_20, x120_22, x120_25, x120_26, x120_27, x120_30, x120_31, x120_32, x120_35, x120_38, x120_39, x120_42, x120_43, x120_46, x120_49, x120_50, x120_53, x120_54, x120_57, x120_58, x120_61, x120_62, Option.toList_some, Option.toList_none, List.cons_append, List.nil_append, cat_i, cat_r, cat_n, cat_f, cs_n, cs_i, cs_r, cs_l, cs_f, Nat.reduceAdd, Nat.reduceLeDiff, Nat.zero_le, if_true, if_false, true_or, or_true, am_wr_at, Nat.reduceEqDiff, not_true_eq_false, not_false_eq_true, i_one, ite_not, bI_z, bI_nz, bI_t, bI_f, bI_or, Bool.false_eq_true, Bool.true_eq_false, reduceCtorEq, lc79, mT_10, mT_11, mT_79, hT.1, h2, e1, e2, e3, e4, q]
  · have e : a = L := by omega
    subst e
    have e1 : nI a ≤ nI a := nI_le (by omega) (by omega)
    refine ⟨Nat.le_refl _, ha, Or.inl rfl, fun σ st Q hT => ?_, fun σ st Q hT => ?_⟩
    · rw [n48]
      simp only [x48_0, x48_1, x48_4, x48_5, x48_8, x48_11, x48_12, x48_15, x48_16, x48_19, x48_20, x48_22, x48_25, x48_26, x48_27, x48_30, x48_31, x48_32, x48_35, x48_38, x48_39, x48_42, x48_43, x48_46, x48_49, x48_50, x48_53, x48_54, x48_57, x48_58, x48_61, x48_62, Option.toList_some, Option.toList_none, List.cons_append, List.nil_append, cat_i, cat_r, cat_n, cat_f, cs_n, cs_i, cs_r, cs_l, cs_f, Nat.reduceAdd, Nat.reduceLeDiff, Nat.zero_le, if_true, if_false, true_or, or_true, am_wr_at, Nat.reduceEqDiff, not_true_eq_false, not_false_eq_true, i_one, ite_not, bI_z, bI_nz, bI_t, bI_f, bI_or, Bool.false_eq_true, Bool.true_eq_false, reduceCtorEq, cT_1, cT_2, hT.1, e1, q]
    · rw [n120]
      simp only [x120_0, x120_1, x120_4, x120_5, x120_8, x120_11, x120_12, x120_15, x120_16, x120_19, x120_20, x120_22, x120_25, x120_26, x120_27, x120_30, x120_31, x120_32, x120_35, x120_38, x120_39, x120_42, x120_43, x120_46, x120_49, x120_50, x120_53, x120_54, x120_57, x120_58, x120_61, x120_62, Option.toList_some, Option.toList_none, List.cons_append, List.nil_append, cat_i, cat_r, cat_n, cat_f, cs_n, cs_i, cs_r, cs_l, cs_f, Nat.reduceAdd, Nat.reduceLeDiff, Nat.zero_le, if_true, if_false, true_or, or_true, am_wr_at, Nat.reduceEqDiff, not_true_eq_false, not_false_eq_true, i_one, ite_not, bI_z, bI_nz, bI_t, bI_f, bI_or, Bool.false_eq_true, Bool.true_eq_false, reduceCtorEq, mT_10, mT_11, hT.1, e1, q]
theorem jX (hG : okG g L) : ∀ n a, a ≤ L → L - a ≤ n → ∃ a', NX sv g L a a' := by
  intro n
  induction n with
  | zero =>
    intro a ha hn
    exact ⟨a, NX_fix hG ha (Or.inl (by omega))⟩
  | succ n ih =>
    intro a ha hn
    by_cases q : a < L ∧ g a = 32
    · obtain ⟨a', z1, z2, z3, z4, z5⟩ := ih (a + 1) (by omega) (by omega)
      obtain ⟨hL, hg⟩ := id hG
      have e1 : ¬ nI L ≤ nI a := nI_ge q.1 (by omega)
      have e2 : am_in (nI a) 100 = true := nI_in' (by omega) (by omega)
      have e3 : (nI a).toNatClampNeg = a := nI_clamp (by omega)
      refine ⟨a', by omega, z2, z3, fun σ st Q hT => ?_, fun σ st Q hT => ?_⟩
      · have h2 : σ.1 66 a = 32 := by rw [hT.2 a q.1, q.2]; rfl
        rw [← z4 σ st Q hT, n48, n48]
        have x0 : AW sv 48 0 [.ref 65] [] (am_toH (cT σ a st)) 0 0 Q = AW sv 48 1 [.ref 65] [.ref 65] (am_toH (cT σ a st)) 0 0 Q := x48_0
        rw [x0]
        simp only [x48_1, x48_4, x48_5, x48_8, x48_11, x48_12, x48_15, x48_16, x48_19, x48_20, x48_22, x48_25, x48_26, x48_27, x48_30, x48_31, x48_32, x48_35, Option.toList_some, Option.toList_none, List.cons_append, List.nil_append, cat_i, cat_r, cat_n, cat_f, cs_n, cs_i, cs_r, cs_l, cs_f, Nat.reduceAdd, Nat.reduceLeDiff, Nat.zero_le, if_true, if_false, true_or, or_true, am_wr_at, Nat.reduceEqDiff, not_true_eq_false, not_false_eq_true, i_one, ite_not, bI_z, bI_nz, bI_t, bI_f, bI_or, Bool.false_eq_true, Bool.true_eq_false, reduceCtorEq, lc66, cT_1, cT_2, cT_66, hT.1, h2, e1, e2, e3, nI_1, cT_w2]
      · have h2 : σ.1 79 a = 32 := by rw [hT.2 a q.1, q.2]; rfl
        rw [← z5 σ st Q hT, n120, n120]
        have x0 : AW sv 120 0 [.ref 71] [] (am_toH (mT σ a st)) 0 0 Q = AW sv 120 1 [.ref 71] [.ref 71] (am_toH (mT σ a st)) 0 0 Q := x120_0
        rw [x0]
        simp only [x120_1, x120_4, x120_5, x120_8, x120_11, x120_12, x120_15, x120_16, x120_19, x120_20, x120_22, x120_25, x120_26, x120_27, x120_30, x120_31, x120_32, x120_35, Option.toList_some, Option.toList_none, List.cons_append, List.nil_append, cat_i, cat_r, cat_n, cat_f, cs_n, cs_i, cs_r, cs_l, cs_f, Nat.reduceAdd, Nat.reduceLeDiff, Nat.zero_le, if_true, if_false, true_or, or_true, am_wr_at, Nat.reduceEqDiff, not_true_eq_false, not_false_eq_true, i_one, ite_not, bI_z, bI_nz, bI_t, bI_f, bI_or, Bool.false_eq_true, Bool.true_eq_false, reduceCtorEq, lc79, mT_10, mT_11, mT_79, hT.1, h2, e1, e2, e3, nI_1, mT_w11]
    · exact ⟨a, NX_fix hG ha (by
        by_cases q1 : a < L
        · exact Or.inr (fun c => q ⟨q1, c⟩)
        · exact Or.inl (by omega))⟩
theorem nxt (hG : okG g L) (ha : a ≤ L) : ∃ a', NX sv g L a a' := jX hG (L - a) a ha (Nat.le_refl _)
/-! a sign -/
theorem hs_st {c : Int32} : (∀ σ Q, AM sv 49 [.ref 65, .int c] (am_toH (cT σ a true)) Q = Q (some (.int 0)) (am_toH (cT σ a true))) ∧ (∀ σ Q, AM sv 121 [.ref 71, .int c] (am_toH (mT σ a true)) Q = Q (some (.int 0)) (am_toH (mT σ a true))) := by
  constructor
  · intro σ Q
    rw [n49]
    simp only [x49_0, x49_1, x49_4, x49_7, x49_8, x49_11, x49_12, x49_15, x49_16, x49_17, x49_18, x49_19, x49_22, x49_23, x49_24, x49_27, x49_28, Option.toList_some, Option.toList_none, List.cons_append, List.nil_append, cat_i, cat_r, cat_n, cat_f, cs_n, cs_i, cs_r, cs_l, cs_f, Nat.reduceAdd, Nat.reduceLeDiff, Nat.zero_le, if_true, if_false, true_or, or_true, am_wr_at, Nat.reduceEqDiff, not_true_eq_false, not_false_eq_true, i_one, ite_not, bI_z, bI_nz, bI_t, bI_f, bI_or, Bool.false_eq_true, Bool.true_eq_false, reduceCtorEq, cT_3, bI_t, am_zero_t]
  · intro σ Q
    rw [n121]
    simp only [x121_0, x121_1, x121_4, x121_7, x121_8, x121_11, x121_12, x121_15, x121_16, x121_19, x121_20, x121_21, x121_22, x121_23, x121_26, x121_27, x121_30, x121_31, x121_34, x121_35, x121_36, x121_39, x121_40, Option.toList_some, Option.toList_none, List.cons_append, List.nil_append, cat_i, cat_r, cat_n, cat_f, cs_n, cs_i, cs_r, cs_l, cs_f, Nat.reduceAdd, Nat.reduceLeDiff, Nat.zero_le, if_true, if_false, true_or, or_true, am_wr_at, Nat.reduceEqDiff, not_true_eq_false, not_false_eq_true, i_one, ite_not, bI_z, bI_nz, bI_t, bI_f, bI_or, Bool.false_eq_true, Bool.true_eq_false, reduceCtorEq, mT_12, bI_t, am_zero_t, mT_11, Int32.add_zero, mT_w11]
theorem hs_y {c : Int32} {cn a1 : Nat} (hG : okG g L) (hc : c = nI cn) (hx : NX sv g L a a1) (h1 : a1 < L) (h2 : g a1 = cn) : (∀ σ Q, TC g L σ → AM sv 49 [.ref 65, .int c] (am_toH (cT σ a false)) Q = Q (some (.int 1)) (am_toH (cT σ (a1 + 1) false))) ∧ (∀ σ Q, TM g L σ → AM sv 121 [.ref 71, .int c] (am_toH (mT σ a false)) Q = Q (some (.int 1)) (am_toH (mT σ (a1 + 1) false))) := by
  obtain ⟨-, -, -, z4, z5⟩ := hx
  have h3 : nI (g a1) = c := by rw [hc, h2]
  simp only [h1, if_true, h3] at z4 z5
  constructor
  · intro σ Q hT
    have z := fun Q => z4 σ false Q hT
    rw [n49]
    simp only [x49_0, x49_1, x49_4, x49_7, x49_8, x49_11, x49_12, x49_15, x49_16, x49_17, x49_18, x49_19, x49_22, x49_23, x49_24, x49_27, x49_28, Option.toList_some, Option.toList_none, List.cons_append, List.nil_append, cat_i, cat_r, cat_n, cat_f, cs_n, cs_i, cs_r, cs_l, cs_f, Nat.reduceAdd, Nat.reduceLeDiff, Nat.zero_le, if_true, if_false, true_or, or_true, am_wr_at, Nat.reduceEqDiff, not_true_eq_false, not_false_eq_true, i_one, ite_not, bI_z, bI_nz, bI_t, bI_f, bI_or, Bool.false_eq_true, Bool.true_eq_false, reduceCtorEq, cT_3, z, cT_2, nI_1, cT_w2, am_one_t]
  · intro σ Q hT
    have z := fun Q => z5 σ false Q hT
    rw [n121]
    simp only [x121_0, x121_1, x121_4, x121_7, x121_8, x121_11, x121_12, x121_15, x121_16, x121_19, x121_20, x121_21, x121_22, x121_23, x121_26, x121_27, x121_30, x121_31, x121_34, x121_35, x121_36, x121_39, x121_40, Option.toList_some, Option.toList_none, List.cons_append, List.nil_append, cat_i, cat_r, cat_n, cat_f, cs_n, cs_i, cs_r, cs_l, cs_f, Nat.reduceAdd, Nat.reduceLeDiff, Nat.zero_le, if_true, if_false, true_or, or_true, am_wr_at, Nat.reduceEqDiff, not_true_eq_false, not_false_eq_true, i_one, ite_not, bI_z, bI_nz, bI_t, bI_f, bI_or, Bool.false_eq_true, Bool.true_eq_false, reduceCtorEq, mT_12, z, mT_11, nI_1, mT_w11, am_one_t]
theorem hs_n {c : Int32} {cn a1 : Nat} (hG : okG g L) (hc : c = nI cn) (h33 : 33 ≤ cn) (h126 : cn ≤ 126) (hx : NX sv g L a a1) (hn : ¬ (a1 < L ∧ g a1 = cn)) : (∀ σ Q, TC g L σ → AM sv 49 [.ref 65, .int c] (am_toH (cT σ a false)) Q = Q (some (.int 0)) (am_toH (cT σ a1 false))) ∧ (∀ σ Q, TM g L σ → AM sv 121 [.ref 71, .int c] (am_toH (mT σ a false)) Q = Q (some (.int 0)) (am_toH (mT σ a1 false))) := by
  obtain ⟨-, z2, -, z4, z5⟩ := hx
  have y1 : ((if a1 < L then nI (g a1) else -1) = c) = False := by
    apply eq_false
    split
    · rename_i q
      have := hG.2 a1 q
      have := hG.1
      rw [hc, nI_eq (by omega) (by omega)]
      exact fun e => hn ⟨q, e⟩
    · rw [hc]
      exact fun e => fb_b'' (by omega) e.symm
  have y2 : ((if a1 < L then nI (g a1) else 0) = c) = False := by
    apply eq_false
    split
    · rename_i q
      have := hG.2 a1 q
      rw [hc, nI_eq (by omega) (by omega)]
      exact fun e => hn ⟨q, e⟩
    · rw [hc]
      exact fun e => nI_ne0 (n := cn) (by omega) (by omega) e.symm
  constructor
  · intro σ Q hT
    have z := fun Q => z4 σ false Q hT
    rw [n49]
    simp only [x49_0, x49_1, x49_4, x49_7, x49_8, x49_11, x49_12, x49_15, x49_16, x49_17, x49_18, x49_19, x49_22, x49_23, x49_24, x49_27, x49_28, Option.toList_some, Option.toList_none, List.cons_append, List.nil_append, cat_i, cat_r, cat_n, cat_f, cs_n, cs_i, cs_r, cs_l, cs_f, Nat.reduceAdd, Nat.reduceLeDiff, Nat.zero_le, if_true, if_false, true_or, or_true, am_wr_at, Nat.reduceEqDiff, not_true_eq_false, not_false_eq_true, i_one, ite_not, bI_z, bI_nz, bI_t, bI_f, bI_or, Bool.false_eq_true, Bool.true_eq_false, reduceCtorEq, cT_3, z, y1, am_zero_t]
  · intro σ Q hT
    have z := fun Q => z5 σ false Q hT
    rw [n121]
    simp only [x121_0, x121_1, x121_4, x121_7, x121_8, x121_11, x121_12, x121_15, x121_16, x121_19, x121_20, x121_21, x121_22, x121_23, x121_26, x121_27, x121_30, x121_31, x121_34, x121_35, x121_36, x121_39, x121_40, Option.toList_some, Option.toList_none, List.cons_append, List.nil_append, cat_i, cat_r, cat_n, cat_f, cs_n, cs_i, cs_r, cs_l, cs_f, Nat.reduceAdd, Nat.reduceLeDiff, Nat.zero_le, if_true, if_false, true_or, or_true, am_wr_at, Nat.reduceEqDiff, not_true_eq_false, not_false_eq_true, i_one, ite_not, bI_z, bI_nz, bI_t, bI_f, bI_or, Bool.false_eq_true, Bool.true_eq_false, reduceCtorEq, mT_12, z, y2, mT_11, Int32.add_zero, mT_w11, am_zero_t]
/-- a sign, in all cases -/
theorem jH (hG : okG g L) {c : Int32} (cn : Nat) (hc : c = nI cn) (h33 : 33 ≤ cn) (h126 : cn ≤ 126) (ha : a ≤ L) (st : Bool) : ∃ (r : Bool) (a' : Nat), a' ≤ L ∧ (r = true → st = false) ∧ (∀ σ Q, TC g L σ → AM sv 49 [.ref 65, .int c] (am_toH (cT σ a st)) Q = Q (some (.int (bI r))) (am_toH (cT σ a' st))) ∧ (∀ σ Q, TM g L σ → AM sv 121 [.ref 71, .int c] (am_toH (mT σ a st)) Q = Q (some (.int (bI r))) (am_toH (mT σ a' st))) := by
  cases st with
  | true =>
    have z := hs_st (sv := sv) (a := a) (c := c)
    exact ⟨false, a, ha, fun q => (by cases q), fun σ Q _ => z.1 σ Q, fun σ Q _ => z.2 σ Q⟩
  | false =>
    obtain ⟨a1, hx⟩ := nxt (sv := sv) hG ha
    have z2 := hx.2.1
    by_cases q : a1 < L ∧ g a1 = cn
    · have z := hs_y hG hc hx q.1 q.2
      exact ⟨true, a1 + 1, by omega, fun _ => rfl, z.1, z.2⟩
    · have z := hs_n hG hc h33 h126 hx q
      exact ⟨false, a1, z2, fun _ => rfl, z.1, z.2⟩
end I74
