/-! ROUTINE -/
def rtW (V : Nat → Nat → Int32) (cl : Nat → Nat → Int32) : Nat → Nat → Nat → Nat → Int32
  | _, 0 => V
  | c, m + 1 => rtW (apC V (cl c)) cl (c + 1) m
def clR (σ : am_S) (k : Nat) (c : Nat → Int32) : Prop := σ.1 80 k = c 0 ∧ σ.1 80 (k + 1) = c 1 ∧ σ.1 80 (k + 2) = c 2 - 1 ∧ σ.1 80 (k + 3) = c 3 - 1 ∧ σ.1 80 (k + 4) = c 4 ∧ σ.1 80 (k + 5) = c 5
theorem rtW_of {cl cl' : Nat → Nat → Int32} : ∀ m c V, (∀ i, c ≤ i → cl i = cl' i) → rtW V cl c m = rtW V cl' c m := by
  intro m
  induction m with
  | zero => intro c V h; rfl
  | succ m ih =>
    intro c V h
    simp only [rtW]
    rw [h c (Nat.le_refl _)]
    exact ih (c + 1) _ (fun i hi => h i (by omega))
theorem rtW_s {cl : Nat → Nat → Int32} : ∀ m c V, rtW V cl c (m + 1) = apC (rtW V cl c m) (cl (c + m)) := by
  intro m
  induction m with
  | zero => intro c V; rfl
  | succ m ih =>
    intro c V
    have e : rtW V cl c (m + 1 + 1) = rtW (apC V (cl c)) cl (c + 1) (m + 1) := rfl
    have e2 : rtW V cl c (m + 1) = rtW (apC V (cl c)) cl (c + 1) m := rfl
    rw [e, e2, ih, show c + 1 + m = c + (m + 1) by omega]
section I77
variable {sv : am_V} {h : am_H} {σ τ ρ : am_S} {Q : Option Value → am_H → Prop} {a b k : Nat} {st st' : Bool} {g : Nat → Nat} {L : Nat} {x y : Int32}
/-- the answer -/
theorem jF (hG : okG g L) {n : Nat} (ha : a ≤ L) (s : Bool) : ∃ (ok : Bool) (a' : Nat), a' ≤ L ∧ (s = true → ok = false) ∧ (∀ σ Q, TC g L σ → AM sv 44 [.ref 65, .int (nI n)] (am_toH (cT σ a s)) Q = Q (some (.int (if ok = true then nI n else -20 - nI a'))) (am_toH (cT σ a' s))) ∧ (∀ σ y Q, TM g L σ → AW sv 127 68 [.ref 71, .int y, .int (nI n), .int 0] [] (am_toH (mT σ a s)) 0 0 Q = Q (some (.int (if ok = true then nI n else -20 - nI a'))) (am_toH (am_wr (mT σ a' (!ok)) 71 (upd ((mT σ a' (!ok)).1 71) 10 0)))) := by
  have q11 : ∀ σ a st, (am_wr (mT σ a st) 71 (upd ((mT σ a st).1 71) 10 0)).1 71 11 = nI a := fun σ a st => by rw [am_wr_eq, upd_at, if_neg (by decide), mT_11]
  have q12 : ∀ σ a st, (am_wr (mT σ a st) 71 (upd ((mT σ a st).1 71) 10 0)).1 71 12 = bI st := fun σ a st => by rw [am_wr_eq, upd_at, if_neg (by decide), mT_12]
  cases s with
  | true =>
    refine ⟨false, a, ha, fun _ => rfl, fun σ Q hT => ?_, fun σ y Q hT => ?_⟩
    · rw [n44]
      simp only [x44_0, x44_1, x44_4, x44_7, x44_8, x44_11, x44_12, x44_15, x44_16, x44_19, x44_21, x44_22, x44_25, x44_26, Option.toList_some, Option.toList_none, List.cons_append, List.nil_append, cat_i, cat_r, cat_n, cat_f, cs_n, cs_i, cs_r, cs_l, cs_f, Nat.reduceAdd, Nat.reduceLeDiff, Nat.zero_le, if_true, if_false, true_or, or_true, am_wr_at, Nat.reduceEqDiff, not_true_eq_false, not_false_eq_true, i_one, ite_not, bI_z, bI_nz, bI_t, bI_f, bI_or, Bool.false_eq_true, Bool.true_eq_false, reduceCtorEq, cT_3, cT_2]
    · simp only [x127_68, x127_69, x127_70, x127_73, x127_76, x127_77, x127_80, x127_83, x127_84, x127_87, x127_88, x127_91, x127_92, x127_93, x127_96, x127_97, x127_100, x127_103, x127_105, x127_106, x127_109, x127_110, x127_113, x127_114, Option.toList_some, Option.toList_none, List.cons_append, List.nil_append, cat_i, cat_r, cat_n, cat_f, cs_n, cs_i, cs_r, cs_l, cs_f, Nat.reduceAdd, Nat.reduceLeDiff, Nat.zero_le, if_true, if_false, true_or, or_true, Nat.reduceEqDiff, not_true_eq_false, not_false_eq_true, i_one, ite_not, bI_z, bI_nz, bI_t, bI_f, bI_or, Bool.false_eq_true, Bool.true_eq_false, reduceCtorEq, Bool.not_false, Bool.not_true, mT_12, mT_w121, q11, q12, am_one_t]
  | false =>
    obtain ⟨a1, z1, z2, z3, z4, z5⟩ := nxt (sv := sv) hG ha
    by_cases q : a1 < L
    · have gl := hG.2 a1 q
      have y1 : (nI (g a1) = -1) = False := eq_false (fb_b'' (by omega))
      have y2 : (nI (g a1) = 0) = False := eq_false (nI_ne0 (by omega) (by omega))
      simp only [q, if_true] at z4 z5
      refine ⟨false, a1, z2, fun c => (by cases c), fun σ Q hT => ?_, fun σ y Q hT => ?_⟩
      · have d := fun Q => z4 σ false Q hT
        rw [n44]
        simp only [x44_0, x44_1, x44_4, x44_7, x44_8, x44_11, x44_12, x44_15, x44_16, x44_19, x44_21, x44_22, x44_25, x44_26, Option.toList_some, Option.toList_none, List.cons_append, List.nil_append, cat_i, cat_r, cat_n, cat_f, cs_n, cs_i, cs_r, cs_l, cs_f, Nat.reduceAdd, Nat.reduceLeDiff, Nat.zero_le, if_true, if_false, true_or, or_true, am_wr_at, Nat.reduceEqDiff, not_true_eq_false, not_false_eq_true, i_one, ite_not, bI_z, bI_nz, bI_t, bI_f, bI_or, Bool.false_eq_true, Bool.true_eq_false, reduceCtorEq, cT_3, cT_2, d, y1]
      · have d := fun Q => z5 σ false Q hT
        simp only [x127_68, x127_69, x127_70, x127_73, x127_76, x127_77, x127_80, x127_83, x127_84, x127_87, x127_88, x127_91, x127_92, x127_93, x127_96, x127_97, x127_100, x127_103, x127_105, x127_106, x127_109, x127_110, x127_113, x127_114, Option.toList_some, Option.toList_none, List.cons_append, List.nil_append, cat_i, cat_r, cat_n, cat_f, cs_n, cs_i, cs_r, cs_l, cs_f, Nat.reduceAdd, Nat.reduceLeDiff, Nat.zero_le, if_true, if_false, true_or, or_true, Nat.reduceEqDiff, not_true_eq_false, not_false_eq_true, i_one, ite_not, bI_z, bI_nz, bI_t, bI_f, bI_or, Bool.false_eq_true, Bool.true_eq_false, reduceCtorEq, Bool.not_false, Bool.not_true, mT_12, d, y2, mT_w121, q11, q12, am_one_t]
    · simp only [q, if_false] at z4 z5
      refine ⟨true, a1, z2, fun c => (by cases c), fun σ Q hT => ?_, fun σ y Q hT => ?_⟩
      · have d := fun Q => z4 σ false Q hT
        rw [n44]
        simp only [x44_0, x44_1, x44_4, x44_7, x44_8, x44_11, x44_12, x44_15, x44_16, x44_19, x44_21, x44_22, x44_25, x44_26, Option.toList_some, Option.toList_none, List.cons_append, List.nil_append, cat_i, cat_r, cat_n, cat_f, cs_n, cs_i, cs_r, cs_l, cs_f, Nat.reduceAdd, Nat.reduceLeDiff, Nat.zero_le, if_true, if_false, true_or, or_true, am_wr_at, Nat.reduceEqDiff, not_true_eq_false, not_false_eq_true, i_one, ite_not, bI_z, bI_nz, bI_t, bI_f, bI_or, Bool.false_eq_true, Bool.true_eq_false, reduceCtorEq, cT_3, cT_2, d]
      · have d := fun Q => z5 σ false Q hT
        simp only [x127_68, x127_69, x127_70, x127_73, x127_76, x127_77, x127_80, x127_83, x127_84, x127_87, x127_88, x127_91, x127_92, x127_93, x127_96, x127_97, x127_100, x127_103, x127_105, x127_106, x127_109, x127_110, x127_113, x127_114, Option.toList_some, Option.toList_none, List.cons_append, List.nil_append, cat_i, cat_r, cat_n, cat_f, cs_n, cs_i, cs_r, cs_l, cs_f, Nat.reduceAdd, Nat.reduceLeDiff, Nat.zero_le, if_true, if_false, true_or, or_true, Nat.reduceEqDiff, not_true_eq_false, not_false_eq_true, i_one, ite_not, bI_z, bI_nz, bI_t, bI_f, bI_or, Bool.false_eq_true, Bool.true_eq_false, reduceCtorEq, Bool.not_false, Bool.not_true, mT_12, d, mT_w120, q11, q12, am_zero_t]
/-- what the reference's tape leaves -/
theorem fin_m {a : Nat} {st : Bool} : (∀ k, k ≠ 71 → (am_wr (mT σ a st) 71 (upd ((mT σ a st).1 71) 10 0)).1 k = σ.1 k) ∧ (∀ j, j ≠ 10 → j ≠ 11 → j ≠ 12 → (am_wr (mT σ a st) 71 (upd ((mT σ a st).1 71) 10 0)).1 71 j = σ.1 71 j) ∧ (am_wr (mT σ a st) 71 (upd ((mT σ a st).1 71) 10 0)).1 71 10 = 0 := by
  refine ⟨fun k q => by rw [am_wr_ne q, mT_k q], fun j q1 q2 q3 => ?_, by rw [am_wr_eq, upd_at, if_pos rfl]⟩
  rw [am_wr_eq, upd_at, if_neg q1]
  unfold mT
  rw [am_wr_eq, upd_at, if_neg q3, upd_at, if_neg q2]
theorem jR (hG : okG g L) : ∀ r c a, c + r = 8 → 1 ≤ r → a ≤ L → ∃ (ok : Bool) (n : Nat) (cl : Nat → Nat → Int32) (a' : Nat), c < n ∧ n ≤ 8 ∧ a' ≤ L ∧ (ok = true → ∀ i, c ≤ i → i < n → okC (cl i)) ∧ (∀ σ, TC g L σ → ∃ (σ' : am_S) (s' : Bool), σ'.2 = σ.2 ∧ (∀ k, k < 46 ∨ 50 < k → σ'.1 k = σ.1 k) ∧ (ok = true → cV σ' 44 = rtW (cV σ 44) cl c (n - c)) ∧ ∀ Q, AW sv 41 6 [.ref 65, .ref 45, .int (nI c)] [] (am_toH (cT σ a false)) 0 0 Q = Q (some (.int (if ok = true then nI n else -20 - nI a'))) (am_toH (cT σ' a' s'))) ∧ (∀ σ, TM g L σ → ∃ τ' : am_S, (∀ k, k ≠ 71 → k ≠ 80 → τ'.1 k = σ.1 k) ∧ (∀ j, j ≠ 10 → j ≠ 11 → j ≠ 12 → τ'.1 71 j = σ.1 71 j) ∧ τ'.1 71 10 = 0 ∧ (∀ j, j < 6 * c → τ'.1 80 j = σ.1 80 j) ∧ (ok = true → ∀ i, c ≤ i → i < n → clR τ' (6 * i) (cl i)) ∧ ∀ Q, AW sv 127 14 [.ref 71, .int 1, .int (nI c), .int 1] [] (am_toH (mT σ a false)) 0 0 Q = Q (some (.int (if ok = true then nI n else -20 - nI a'))) (am_toH τ')) := by
  intro r
  induction r with
  | zero => intro c a _ h; omega
  | succ r ih =>
    intro c a hc _ ha
    obtain ⟨c0, a1, s1, l1, o1, cc, cm⟩ := jC (sv := sv) (k := 6 * c) hG (by omega) ha
    have e6 : 6 * nI c = nI (6 * c) := oN_mul 6 c
    -- the end behind this clause, from a place and a state
    have ending : ∀ a2 s2, a2 ≤ L → (∀ σ Q, TC g L σ → ∀ σ', (∀ k, k < 46 ∨ 50 < k → σ'.1 k = σ.1 k) → AW sv 41 11 [.ref 65, .ref 45, .int (nI c)] [] (am_toH (cT σ' a1 s1)) 0 0 Q = AW sv 41 29 [.ref 65, .ref 45, .int (nI (c + 1))] [] (am_toH (cT σ' a2 s2)) 0 0 Q) → (∀ σ Q, TM g L σ → ∀ σ', (∀ k, k ≠ 80 → σ'.1 k = σ.1 k) → AW sv 127 41 [.ref 71, .int 1, .int (nI c), .int 1] [] (am_toH (mT σ' a1 s1)) 0 0 Q = AW sv 127 68 [.ref 71, .int 1, .int (nI (c + 1)), .int 0] [] (am_toH (mT σ' a2 s2)) 0 0 Q) → (s2 = false → s1 = false) → ∃ (ok : Bool) (n : Nat) (cl : Nat → Nat → Int32) (a' : Nat), c < n ∧ n ≤ 8 ∧ a' ≤ L ∧ (ok = true → ∀ i, c ≤ i → i < n → okC (cl i)) ∧ (∀ σ, TC g L σ → ∃ (σ' : am_S) (s' : Bool), σ'.2 = σ.2 ∧ (∀ k, k < 46 ∨ 50 < k → σ'.1 k = σ.1 k) ∧ (ok = true → cV σ' 44 = rtW (cV σ 44) cl c (n - c)) ∧ ∀ Q, AW sv 41 6 [.ref 65, .ref 45, .int (nI c)] [] (am_toH (cT σ a false)) 0 0 Q = Q (some (.int (if ok = true then nI n else -20 - nI a'))) (am_toH (cT σ' a' s'))) ∧ (∀ σ, TM g L σ → ∃ τ' : am_S, (∀ k, k ≠ 71 → k ≠ 80 → τ'.1 k = σ.1 k) ∧ (∀ j, j ≠ 10 → j ≠ 11 → j ≠ 12 → τ'.1 71 j = σ.1 71 j) ∧ τ'.1 71 10 = 0 ∧ (∀ j, j < 6 * c → τ'.1 80 j = σ.1 80 j) ∧ (ok = true → ∀ i, c ≤ i → i < n → clR τ' (6 * i) (cl i)) ∧ ∀ Q, AW sv 127 14 [.ref 71, .int 1, .int (nI c), .int 1] [] (am_toH (mT σ a false)) 0 0 Q = Q (some (.int (if ok = true then nI n else -20 - nI a'))) (am_toH τ')) := by
      intro a2 s2 l2 ec em hs
      obtain ⟨ok, a3, l3, o3, fc, fm⟩ := jF (sv := sv) (n := c + 1) hG l2 s2
      have hok : ok = true → s1 = false := by
        intro q
        apply hs
        cases s2 with
        | false => rfl
        | true => rw [o3 rfl] at q; cases q
      refine ⟨ok, c + 1, fun _ => c0, a3, by omega, by omega, l3, fun q i h1 h2 => ?_, fun σ hT => ?_, fun σ hT => ?_⟩
      · exact o1 (hok q)
      · obtain ⟨σ1, b1, b2, b3, b4⟩ := cc σ hT
        have T1 : TC g L σ1 := by
          unfold TC
          rw [b2 65 (by omega), b2 66 (by omega)]
          exact hT
        refine ⟨σ1, s2, b1, b2, fun q => ?_, fun Q => ?_⟩
        · rw [b3 (hok q), show c + 1 - c = 1 by omega]
          rfl
        · have d := ec σ Q hT σ1 b2
          have d2 := fun Q => fc σ1 Q T1
          rw [x41_6]
          simp only [x41_7, x41_8, Option.toList_some, Option.toList_none, List.cons_append, List.nil_append, cat_i, cat_r, cat_n, cat_f, cs_n, cs_i, cs_r, cs_l, cs_f, Nat.reduceAdd, Nat.reduceLeDiff, Nat.zero_le, if_true, if_false, true_or, or_true, am_wr_at, Nat.reduceEqDiff, not_true_eq_false, not_false_eq_true, i_one, ite_not, bI_z, bI_nz, bI_t, bI_f, bI_or, Bool.false_eq_true, Bool.true_eq_false, reduceCtorEq, b4]
          refine d.trans ?_
          simp only [x41_29, x41_30, x41_31, x41_34, Option.toList_some, Option.toList_none, List.cons_append, List.nil_append, cat_i, cat_r, cat_n, cat_f, cs_n, cs_i, cs_r, cs_l, cs_f, Nat.reduceAdd, Nat.reduceLeDiff, Nat.zero_le, if_true, if_false, true_or, or_true, am_wr_at, Nat.reduceEqDiff, not_true_eq_false, not_false_eq_true, i_one, ite_not, bI_z, bI_nz, bI_t, bI_f, bI_or, Bool.false_eq_true, Bool.true_eq_false, reduceCtorEq, d2]
      · obtain ⟨σ1, b2, b3, b4, b5⟩ := cm σ hT
        have T1 : TM g L σ1 := by
          unfold TM
          rw [b2 71 (by decide), b2 79 (by decide)]
          exact hT
        obtain ⟨f1, f2, f3⟩ := fin_m (σ := σ1) (a := a3) (st := !ok)
        refine ⟨am_wr (mT σ1 a3 (!ok)) 71 (upd ((mT σ1 a3 (!ok)).1 71) 10 0), fun k q1 q2 => (f1 k q1).trans (b2 k q2), fun j q1 q2 q3 => (f2 j q1 q2 q3).trans (by rw [b2 71 (by decide)]), f3, fun j hj => by rw [f1 80 (by decide)]; exact b3 j (by omega), fun q i h1 h2 => ?_, fun Q => ?_⟩
        · have ei : i = c := by omega
          subst ei
          unfold clR
          rw [f1 80 (by decide)]
          exact b4 (hok q)
        · have d := em σ Q hT σ1 b2
          rw [x127_14]
          simp only [x127_15, x127_18, x127_19, x127_22, x127_23, x127_25, x127_26, x127_27, x127_30, Option.toList_some, Option.toList_none, List.cons_append, List.nil_append, cat_i, cat_r, cat_n, cat_f, cs_n, cs_i, cs_r, cs_l, cs_f, Nat.reduceAdd, Nat.reduceLeDiff, Nat.zero_le, if_true, if_false, true_or, or_true, am_wr_at, Nat.reduceEqDiff, not_true_eq_false, not_false_eq_true, i_one, ite_not, bI_z, bI_nz, bI_t, bI_f, bI_or, Bool.false_eq_true, Bool.true_eq_false, reduceCtorEq, e6, b5]
          refine d.trans ?_
          exact fm σ1 1 Q T1
    by_cases hr : r = 0
    · have e8 : (8 : Int32) ≤ nI (c + 1) := nI_le (a := 8) (by omega) (by omega)
      refine ending a1 s1 l1 (fun σ Q hT σ' _ => ?_) (fun σ Q hT σ' _ => ?_) (fun q => q)
      · simp only [x41_11, x41_14, x41_15, x41_17, Option.toList_some, Option.toList_none, List.cons_append, List.nil_append, cat_i, cat_r, cat_n, cat_f, cs_n, cs_i, cs_r, cs_l, cs_f, Nat.reduceAdd, Nat.reduceLeDiff, Nat.zero_le, if_true, if_false, true_or, or_true, am_wr_at, Nat.reduceEqDiff, not_true_eq_false, not_false_eq_true, i_one, ite_not, bI_z, bI_nz, bI_t, bI_f, bI_or, Bool.false_eq_true, Bool.true_eq_false, reduceCtorEq, nI_1, e8]
      · simp only [x127_41, x127_44, x127_45, x127_47, x127_50, x127_51, x127_53, x127_56, x127_59, x127_60, x127_63, x127_64, x127_65, Option.toList_some, Option.toList_none, List.cons_append, List.nil_append, cat_i, cat_r, cat_n, cat_f, cs_n, cs_i, cs_r, cs_l, cs_f, Nat.reduceAdd, Nat.reduceLeDiff, Nat.zero_le, if_true, if_false, true_or, or_true, am_wr_at, Nat.reduceEqDiff, not_true_eq_false, not_false_eq_true, i_one, ite_not, bI_z, bI_nz, bI_t, bI_f, bI_or, Bool.false_eq_true, Bool.true_eq_false, reduceCtorEq, nI_1, e8]
        rw [x127_14]
        simp only [x127_15, Option.toList_some, Option.toList_none, List.cons_append, List.nil_append, cat_i, cat_r, cat_n, cat_f, cs_n, cs_i, cs_r, cs_l, cs_f, Nat.reduceAdd, Nat.reduceLeDiff, Nat.zero_le, if_true, if_false, true_or, or_true, am_wr_at, Nat.reduceEqDiff, not_true_eq_false, not_false_eq_true, i_one, ite_not, bI_z, bI_nz, bI_t, bI_f, bI_or, Bool.false_eq_true, Bool.true_eq_false, reduceCtorEq]
    · have e8 : ¬ (8 : Int32) ≤ nI (c + 1) := nI_ge (b := 8) (by omega) (by decide)
      obtain ⟨rr, a2, l2, r2, hc2, hm2⟩ := jH (sv := sv) (c := 59) hG 59 rfl (by decide) (by decide) l1 s1
      have TCof : ∀ σ σ' : am_S, TC g L σ → (∀ k, k < 46 ∨ 50 < k → σ'.1 k = σ.1 k) → TC g L σ' := by
        intro σ σ' hT b2
        unfold TC
        rw [b2 65 (by omega), b2 66 (by omega)]
        exact hT
      have TMof : ∀ σ σ' : am_S, TM g L σ → (∀ k, k ≠ 80 → σ'.1 k = σ.1 k) → TM g L σ' := by
        intro σ σ' hT b2
        unfold TM
        rw [b2 71 (by decide), b2 79 (by decide)]
        exact hT
      cases rr with
      | false =>
        refine ending a2 s1 l2 (fun σ Q hT σ' hf => ?_) (fun σ Q hT σ' hf => ?_) (fun q => q)
        · have d := fun Q => hc2 σ' Q (TCof σ σ' hT hf)
          simp only [x41_11, x41_14, x41_15, x41_17, x41_20, x41_21, x41_23, x41_26, Option.toList_some, Option.toList_none, List.cons_append, List.nil_append, cat_i, cat_r, cat_n, cat_f, cs_n, cs_i, cs_r, cs_l, cs_f, Nat.reduceAdd, Nat.reduceLeDiff, Nat.zero_le, if_true, if_false, true_or, or_true, am_wr_at, Nat.reduceEqDiff, not_true_eq_false, not_false_eq_true, i_one, ite_not, bI_z, bI_nz, bI_t, bI_f, bI_or, Bool.false_eq_true, Bool.true_eq_false, reduceCtorEq, nI_1, e8, d]
        · have d := fun Q => hm2 σ' Q (TMof σ σ' hT hf)
          simp only [x127_41, x127_44, x127_45, x127_47, x127_50, x127_51, x127_53, x127_56, x127_59, x127_60, x127_63, x127_64, x127_65, Option.toList_some, Option.toList_none, List.cons_append, List.nil_append, cat_i, cat_r, cat_n, cat_f, cs_n, cs_i, cs_r, cs_l, cs_f, Nat.reduceAdd, Nat.reduceLeDiff, Nat.zero_le, if_true, if_false, true_or, or_true, am_wr_at, Nat.reduceEqDiff, not_true_eq_false, not_false_eq_true, i_one, ite_not, bI_z, bI_nz, bI_t, bI_f, bI_or, Bool.false_eq_true, Bool.true_eq_false, reduceCtorEq, nI_1, e8, d]
          rw [x127_14]
          simp only [x127_15, Option.toList_some, Option.toList_none, List.cons_append, List.nil_append, cat_i, cat_r, cat_n, cat_f, cs_n, cs_i, cs_r, cs_l, cs_f, Nat.reduceAdd, Nat.reduceLeDiff, Nat.zero_le, if_true, if_false, true_or, or_true, am_wr_at, Nat.reduceEqDiff, not_true_eq_false, not_false_eq_true, i_one, ite_not, bI_z, bI_nz, bI_t, bI_f, bI_or, Bool.false_eq_true, Bool.true_eq_false, reduceCtorEq]
      | true =>
        have es := r2 rfl
        subst es
        obtain ⟨ok, n, cl, a3, w1, w2, w3, w4, wc, wm⟩ := ih (c + 1) a2 (by omega) (by omega) l2
        refine ⟨ok, n, fun i => if i = c then c0 else cl i, a3, by omega, w2, w3, fun q i h1 h2 => ?_, fun σ hT => ?_, fun σ hT => ?_⟩
        · by_cases ei : i = c
          · simp only [ei, if_true]; exact o1 rfl
          · simp only [ei, if_false]; exact w4 q i (by omega) h2
        · obtain ⟨σ1, b1, b2, b3, b4⟩ := cc σ hT
          have T1 := TCof σ σ1 hT b2
          obtain ⟨σ2, s2, x1, x2, x3, x4⟩ := wc σ1 T1
          refine ⟨σ2, s2, x1.trans b1, fun k q => (x2 k q).trans (b2 k q), fun q => ?_, fun Q => ?_⟩
          · rw [x3 q, b3 rfl]
            obtain ⟨m, hm⟩ : ∃ m, n - c = m + 1 := ⟨n - c - 1, by omega⟩
            rw [hm, show n - (c + 1) = m by omega]
            simp only [rtW, if_true]
            exact rtW_of m (c + 1) _ (fun i hi => by simp only [show ¬ i = c by omega, if_false])
          · have d := fun Q => hc2 σ1 Q T1
            rw [← x4 Q, x41_6]
            simp only [x41_7, x41_8, x41_11, x41_14, x41_15, x41_17, x41_20, x41_21, x41_23, x41_26, Option.toList_some, Option.toList_none, List.cons_append, List.nil_append, cat_i, cat_r, cat_n, cat_f, cs_n, cs_i, cs_r, cs_l, cs_f, Nat.reduceAdd, Nat.reduceLeDiff, Nat.zero_le, if_true, if_false, true_or, or_true, am_wr_at, Nat.reduceEqDiff, not_true_eq_false, not_false_eq_true, i_one, ite_not, bI_z, bI_nz, bI_t, bI_f, bI_or, Bool.false_eq_true, Bool.true_eq_false, reduceCtorEq, b4, nI_1, e8, d]
        · obtain ⟨σ1, b2, b3, b4, b5⟩ := cm σ hT
          have T1 := TMof σ σ1 hT b2
          obtain ⟨τ', x1, x2, x3, x4, x5, x6⟩ := wm σ1 T1
          refine ⟨τ', fun k q1 q2 => (x1 k q1 q2).trans (b2 k q2), fun j q1 q2 q3 => (x2 j q1 q2 q3).trans (by rw [b2 71 (by decide)]), x3, fun j hj => (x4 j (by omega)).trans (b3 j (by omega)), fun q i h1 h2 => ?_, fun Q => ?_⟩
          · by_cases ei : i = c
            · subst ei
              simp only [if_true]
              unfold clR
              rw [x4 (6 * i) (by omega), x4 (6 * i + 1) (by omega), x4 (6 * i + 2) (by omega), x4 (6 * i + 3) (by omega), x4 (6 * i + 4) (by omega), x4 (6 * i + 5) (by omega)]
              exact b4 rfl
            · simp only [ei, if_false]
              exact x5 q i (by omega) h2
          · have d := fun Q => hm2 σ1 Q T1
            rw [← x6 Q, x127_14]
            simp only [x127_15, x127_18, x127_19, x127_22, x127_23, x127_25, x127_26, x127_27, x127_30, x127_33, x127_34, x127_36, x127_37, x127_38, x127_41, x127_44, x127_45, x127_47, x127_50, x127_51, x127_53, x127_56, x127_59, x127_60, x127_63, x127_64, x127_65, Option.toList_some, Option.toList_none, List.cons_append, List.nil_append, cat_i, cat_r, cat_n, cat_f, cs_n, cs_i, cs_r, cs_l, cs_f, Nat.reduceAdd, Nat.reduceLeDiff, Nat.zero_le, if_true, if_false, true_or, or_true, am_wr_at, Nat.reduceEqDiff, not_true_eq_false, not_false_eq_true, i_one, ite_not, bI_z, bI_nz, bI_t, bI_f, bI_or, Bool.false_eq_true, Bool.true_eq_false, reduceCtorEq, e6, b5, nI_1, e8, d]
end I77
