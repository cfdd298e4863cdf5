/-! WARNING -/
def vwI (V : Nat → Nat → Int32) (i : Nat) : Nat → Nat → Int32 := fun r j => if r = 7 ∧ j < i ∧ V 7 j = 0 then 1 else V r j
def vwJ (V : Nat → Nat → Int32) (n i : Nat) : Nat → Nat → Int32 := fun r j => if r = 7 ∧ i ≤ j ∧ j < n ∧ V 7 j = 0 then 1 else V r j
def wm (V : Nat → Nat → Int32) : Nat → Nat
  | 0 => 0
  | i + 1 => if V 7 i = 0 then 2 ^ i + wm V i else wm V i
theorem wm_lt {V : Nat → Nat → Int32} : ∀ i, wm V i < 2 ^ i := by
  intro i
  induction i with
  | zero => simp [wm]
  | succ i ih =>
    simp only [wm, Nat.pow_succ]
    split <;> omega
theorem wm_bit {V : Nat → Nat → Int32} {w : Nat} : ∀ i, w < i → (wm V i).testBit w = decide (V 7 w = 0) := by
  intro i
  induction i with
  | zero => intro h; omega
  | succ i ih =>
    intro h
    simp only [wm]
    by_cases q : V 7 i = 0
    · rw [if_pos q]
      by_cases e : w = i
      · subst e
        rw [Nat.testBit_two_pow_add_eq, Nat.testBit_lt_two_pow (wm_lt w)]
        simp [q]
      · rw [Nat.testBit_two_pow_add_gt (by omega)]
        exact ih (by omega)
    · rw [if_neg q]
      by_cases e : w = i
      · subst e
        rw [Nat.testBit_lt_two_pow (wm_lt w)]
        simp [q]
      · exact ih (by omega)
set_option maxRecDepth 100000 in
theorem w_or : ∀ i, i < 8 → ∀ m, m < 256 → m < 2 ^ i → nI m ||| ((1 : Int32) <<< (nI i &&& 31)) = nI (2 ^ i + m) := by decide +kernel
set_option maxRecDepth 100000 in
theorem w_bit : ∀ m, m < 256 → ∀ c, c < 8 → ((nI m >>> (nI c &&& 31)) &&& 1 = 1 ↔ m.testBit c = true) := by decide +kernel
theorem vset_id {V : Nat → Nat → Int32} {i j : Nat} {x : Int32} (h : V i j = x) : vset V i j x = V := by
  funext i' j'
  unfold vset
  by_cases e : i' = i
  · subst e
    by_cases e2 : j' = j
    · subst e2
      rw [if_pos rfl, if_pos rfl, h]
    · rw [if_pos rfl, if_neg e2]
  · rw [if_neg e]
theorem vw_0 {V : Nat → Nat → Int32} : vwI V 0 = V := by
  funext r j
  unfold vwI
  rw [if_neg (fun c => absurd c.2.1 (Nat.not_lt_zero _))]
theorem vw_s1 {V : Nat → Nat → Int32} {i : Nat} (h : V 7 i = 0) : vset (vwI V i) 7 i 1 = vwI V (i + 1) := by
  funext r j
  unfold vset vwI
  by_cases e7 : r = 7
  · subst e7
    rw [if_pos rfl]
    by_cases ej : j = i
    · subst ej
      rw [if_pos rfl, if_pos ⟨rfl, by omega, h⟩]
    · rw [if_neg ej]
      by_cases q : j < i ∧ V 7 j = 0
      · rw [if_pos ⟨rfl, q.1, q.2⟩, if_pos ⟨rfl, by omega, q.2⟩]
      · rw [if_neg (fun c => q ⟨c.2.1, c.2.2⟩), if_neg (fun c => q ⟨by omega, c.2.2⟩)]
  · rw [if_neg e7, if_neg (fun c => e7 c.1), if_neg (fun c => e7 c.1)]
theorem vw_s0 {V : Nat → Nat → Int32} {i : Nat} (h : ¬ V 7 i = 0) : vwI V (i + 1) = vwI V i := by
  funext r j
  unfold vwI
  by_cases q : r = 7 ∧ j < i ∧ V 7 j = 0
  · rw [if_pos ⟨q.1, by omega, q.2.2⟩, if_pos q]
  · rw [if_neg q, if_neg (fun c => by
      by_cases ej : j = i
      · subst ej; exact h c.2.2
      · exact q ⟨c.1, by omega, c.2.2⟩)]
theorem vwJ_0 {V : Nat → Nat → Int32} {n : Nat} : vwJ V n 0 = vwI V n := by
  funext r j
  unfold vwJ vwI
  by_cases q : r = 7 ∧ j < n ∧ V 7 j = 0
  · rw [if_pos ⟨q.1, Nat.zero_le _, q.2⟩, if_pos q]
  · rw [if_neg (fun c => q ⟨c.1, c.2.2⟩), if_neg q]
theorem vwJ_n {V : Nat → Nat → Int32} {n : Nat} : vwJ V n n = V := by
  funext r j
  unfold vwJ
  rw [if_neg (fun c => by have := c.2.1; have := c.2.2.1; omega)]
theorem vwJ_s {V : Nat → Nat → Int32} {n i : Nat} (hi : i < n) : vset (vwJ V n i) 7 i (V 7 i) = vwJ V n (i + 1) := by
  funext r j
  unfold vset vwJ
  by_cases e7 : r = 7
  · subst e7
    rw [if_pos rfl]
    by_cases ej : j = i
    · subst ej
      rw [if_pos rfl, if_neg (fun c => by have := c.2.1; omega)]
    · rw [if_neg ej]
      by_cases q : i + 1 ≤ j ∧ j < n ∧ V 7 j = 0
      · rw [if_pos ⟨rfl, by omega, q.2.1, q.2.2⟩, if_pos ⟨rfl, q⟩]
      · rw [if_neg (fun c => q ⟨by have := c.2.1; omega, c.2.2.1, c.2.2.2⟩), if_neg (fun c => q c.2)]
  · rw [if_neg e7, if_neg (fun c => e7 c.1), if_neg (fun c => e7 c.1)]
theorem okV_vw {V : Nat → Nat → Int32} {n : Nat} (h : okV V) : okV (vwI V n) := by
  obtain ⟨o1, o2, o3, o4, o5, o6, o7, o8, o9⟩ := h
  refine ⟨o1, o2, o3, o4, o5, o6, fun j hj => ?_, o8, o9⟩
  obtain ⟨q1, q2, q3, q4, q5⟩ := o7 j hj
  have e8 : vwI V n 8 j = V 8 j := by unfold vwI; rw [if_neg (fun c => absurd c.1 (by decide))]
  have e6 : ∀ i, vwI V n 6 i = V 6 i := fun i => by unfold vwI; rw [if_neg (fun c => absurd c.1 (by decide))]
  rw [e8, e6]
  refine ⟨q1, ?_, q3, fun e => ?_, fun i hi => by rw [e6]; exact q5 i hi⟩
  · show rg (if 7 = 7 ∧ j < n ∧ V 7 j = 0 then 1 else V 7 j) 0 3
    split
    · exact ⟨by decide, by decide⟩
    · exact q2
  · have e : (if 7 = 7 ∧ j < n ∧ V 7 j = 0 then (1 : Int32) else V 7 j) = 0 := e
    split at e
    · exact absurd e (by decide)
    · exact q4 e
theorem cV_kd {σ : am_S} {a w : Nat} {x : Int32} (hw : w < (σ.1 (a + 7) 3).toNatClampNeg) : cV (am_wr σ (a + 9) (upd (σ.1 (a + 9)) w x)) a = vset (cV σ a) 7 w x := by
  funext i' j'
  unfold vset cV
  by_cases h9 : i' = 7
  · subst h9
    simp [am_wr_at, upd_at] <;> (by_cases h : j' = w <;> simp_all)
  · simp [am_wr_at, upd_at, h9]
    split <;> first | rfl | simp_all
theorem mV_kd {σ : am_S} {w : Nat} {x : Int32} (hw : w < (σ.1 71 7).toNatClampNeg) : mV (am_wr σ 78 (upd (σ.1 78) (3 * w + 1) x)) = vset (mV σ) 7 w x := by
  have f1 : ∀ j, (3 * j = 3 * w + 1) = False := fun j => eq_false (by omega)
  have f2 : ∀ j, (3 * j + 1 = 3 * w + 1) = (j = w) := fun j => propext ⟨fun h => by omega, fun h => by omega⟩
  have f3 : ∀ j, (3 * j + 2 = 3 * w + 1) = False := fun j => eq_false (by omega)
  funext i' j'
  unfold vset mV
  simp only [am_wr_at, upd_at, Nat.reduceEqDiff, if_true, if_false, f1, f2, f3]
  by_cases h9 : i' = 7
  · subst h9
    by_cases h : j' = w
    · subst h
      simp [hw]
    · simp [h]
  · simp [h9]
    split <;> first | rfl | simp_all
section I67
variable {sv : am_V} {σ τ ρ : am_S} {Q : Option Value → am_H → Prop} {k hd : Int32} {a b w o : Nat} {V : Nat → Nat → Int32}
theorem c10 (hV : cV σ 44 = V) (hok : okV V) : ∃ τ : am_S, cV τ 44 = vwI V (V 9 0).toNatClampNeg ∧ τ.2 = σ.2 ∧ (∀ k, k ≠ 53 → k ≠ 54 → τ.1 k = σ.1 k) ∧ ∀ Q, AM sv 10 [.ref 51] (am_toH σ) Q = Q none (am_toH τ) := by
  obtain ⟨n, hn, en, cn, -⟩ := vW hok
  obtain ⟨τ, ⟨v1, v2, v3⟩, e⟩ := am_upE (N := n) (σ := σ) (R := fun i τ => cV τ 44 = vwI V i ∧ τ.2 = σ.2 ∧ ∀ k, k ≠ 53 → k ≠ 54 → τ.1 k = σ.1 k) (F := fun i τ Q => AW sv 10 2 [.ref 51, .int (nI i)] [] (am_toH τ) 0 0 Q) ⟨hV.trans vw_0.symm, rfl, fun _ _ _ => rfl⟩ (by
    intro i τ hi R
    obtain ⟨v1, v2, v3⟩ := R
    have hi' : i < (vwI V i 9 0).toNatClampNeg := by
      show i < (V 9 0).toNatClampNeg
      rw [cn]; exact hi
    have h3 : τ.1 51 3 = nI n := (rc v1).1.trans en
    obtain ⟨w6, w7, w8⟩ := rcw v1 hi'
    have w7 : τ.1 53 i = V 7 i := by
      refine w7.trans ?_
      unfold vwI
      rw [if_neg (fun c => absurd c.2.1 (Nat.lt_irrefl _))]
    have e1 : ¬ nI n ≤ nI i := nI_ge hi (by omega)
    have e2 : am_in (nI i) 12 = true := nI_in' (by omega) (by omega)
    have e3 : (nI i).toNatClampNeg = i := nI_clamp (by omega)
    by_cases q : V 7 i = 0
    · have q' : (V 7 i = 0) = True := eq_true q
      have hl : i < (τ.1 51 3).toNatClampNeg := by rw [h3, nI_clamp (by omega)]; exact hi
      refine ⟨am_wr (am_wr τ 53 (upd (τ.1 53) i 1)) 54 (upd (τ.1 54) i 3), ⟨?_, v2, fun k q1 q2 => ?_⟩, fun Q => ?_⟩
      · have g1 := cV_kd (σ := τ) (a := 44) (w := i) (x := 1) hl
        have g2 := cV_dbt (σ := am_wr τ 53 (upd (τ.1 53) i 1)) (a := 44) (w := i) (x := 3) hl
        simp only [Nat.reduceAdd] at g1 g2
        rw [g1, v1, vw_s1 q] at g2
        rw [am_wr_ne (by decide)] at g2
        rw [g2]
        apply vset_id
        have o := (hok.2.2.2.2.2.2.1 i (by rw [cn]; exact hi)).2.2.2.1 q
        unfold vwI
        rw [if_neg (fun c => absurd c.1 (by decide)), o]
      · rw [am_wr_ne q2, am_wr_ne q1]
        exact v3 k q1 q2
      · rw [x10_2]
        simp only [x10_3, x10_4, x10_7, x10_10, x10_11, x10_14, x10_15, x10_16, x10_19, x10_20, x10_23, x10_24, x10_25, x10_26, x10_27, x10_30, x10_31, x10_32, x10_33, x10_36, Option.toList_some, Option.toList_none, List.cons_append, List.nil_append, cat_i, cat_r, cat_n, cat_f, cs_n, cs_i, cs_r, cs_l, cs_f, Nat.reduceAdd, Nat.reduceLeDiff, Nat.zero_le, if_true, if_false, true_or, or_true, am_wr_at, Nat.reduceEqDiff, not_true_eq_false, not_false_eq_true, i_one, ite_not, bI_z, bI_nz, bI_t, bI_f, bI_or, Bool.false_eq_true, Bool.true_eq_false, reduceCtorEq, st44, lc53, lc54, h3, e1, e2, e3, w7, q', nI_1]
    · have q' : (V 7 i = 0) = False := eq_false q
      refine ⟨τ, ⟨v1.trans (vw_s0 q).symm, v2, v3⟩, fun Q => ?_⟩
      rw [x10_2]
      simp only [x10_3, x10_4, x10_7, x10_10, x10_11, x10_14, x10_15, x10_16, x10_19, x10_20, x10_23, x10_24, x10_25, x10_26, x10_27, x10_30, x10_31, x10_32, x10_33, x10_36, Option.toList_some, Option.toList_none, List.cons_append, List.nil_append, cat_i, cat_r, cat_n, cat_f, cs_n, cs_i, cs_r, cs_l, cs_f, Nat.reduceAdd, Nat.reduceLeDiff, Nat.zero_le, if_true, if_false, true_or, or_true, am_wr_at, Nat.reduceEqDiff, not_true_eq_false, not_false_eq_true, i_one, ite_not, bI_z, bI_nz, bI_t, bI_f, bI_or, Bool.false_eq_true, Bool.true_eq_false, reduceCtorEq, st44, lc53, h3, e1, e2, e3, w7, q', nI_1])
  refine ⟨τ, by rw [cn]; exact v1, v2, v3, fun Q => ?_⟩
  have h3 : τ.1 51 3 = nI n := (rc v1).1.trans en
  have e1 : nI n ≤ nI n := nI_le (by omega) (by omega)
  rw [n10]
  simp only [x10_0, x10_1, Option.toList_some, Option.toList_none, List.cons_append, List.nil_append, cat_i, cat_r, cat_n, cat_f, cs_n, cs_i, cs_r, cs_l, cs_f, Nat.reduceAdd, Nat.reduceLeDiff, Nat.zero_le, if_true, if_false, true_or, or_true, am_wr_at, Nat.reduceEqDiff, not_true_eq_false, not_false_eq_true, i_one, ite_not, bI_z, bI_nz, bI_t, bI_f, bI_or, Bool.false_eq_true, Bool.true_eq_false, reduceCtorEq]
  refine (e Q).trans ?_
  show AW sv 10 2 [.ref 51, .int (nI n)] [] (am_toH τ) 0 0 Q = _
  rw [x10_2]
  simp only [x10_3, x10_4, x10_7, x10_39, Option.toList_some, Option.toList_none, List.cons_append, List.nil_append, cat_i, cat_r, cat_n, cat_f, cs_n, cs_i, cs_r, cs_l, cs_f, Nat.reduceAdd, Nat.reduceLeDiff, Nat.zero_le, if_true, if_false, true_or, or_true, am_wr_at, Nat.reduceEqDiff, not_true_eq_false, not_false_eq_true, i_one, ite_not, bI_z, bI_nz, bI_t, bI_f, bI_or, Bool.false_eq_true, Bool.true_eq_false, reduceCtorEq, st44, h3, e1]
theorem c57 (hV : cV σ 1 = V) (hok : okV V) : ∃ τ, Cf σ τ ∧ ∀ Q, AM sv 57 [.ref 43, .ref 1] (am_toH σ) Q = Q (some (.int (saF (vwI V (V 9 0).toNatClampNeg) 1 16))) (am_toH τ) := by
  obtain ⟨t1, v1, a1, f1, g1, e1⟩ := c28 (sv := sv) pr44 hV hok
  obtain ⟨t2, v2, a2, f2, e2⟩ := c10 (sv := sv) v1 hok
  obtain ⟨τ, R, c⟩ := c32 (sv := sv) st44 v2 (okV_vw hok) rg11
  refine ⟨τ, Cf_trans (Cf_of44 (a2.trans a1) (fun k hk => (f2 k (by omega) (by omega)).trans (f1 k (by omega)))) (Cf_44 R), fun Q => ?_⟩
  rw [n57]
  simp only [x57_0, x57_1, x57_4, x57_5, x57_8, x57_9, x57_12, x57_15, x57_18, x57_19, x57_22, x57_23, x57_26, Option.toList_some, Option.toList_none, List.cons_append, List.nil_append, cat_i, cat_r, cat_n, cat_f, cs_n, cs_i, cs_r, cs_l, cs_f, Nat.reduceAdd, Nat.reduceLeDiff, Nat.zero_le, if_true, if_false, true_or, or_true, am_wr_at, Nat.reduceEqDiff, not_true_eq_false, not_false_eq_true, i_one, ite_not, bI_z, bI_nz, bI_t, bI_f, bI_or, Bool.false_eq_true, Bool.true_eq_false, reduceCtorEq, st44, st1, e1, e2, c]
theorem m149 (hV : mV σ = V) (hok : okV V) : ∃ τ : am_S, Mf σ τ ∧ mV τ = V ∧ ∀ Q, AM sv 149 [.ref 71] (am_toH σ) Q = Q (some (.int (saF (vwI V (V 9 0).toNatClampNeg) 1 16 - saF V 1 16))) (am_toH τ) := by
  obtain ⟨n, hn, en, cn, -⟩ := vW hok
  obtain ⟨t0, R0, c0⟩ := m140 (sv := sv) hV hok rg11
  have hV0 : mV t0 = V := (mV_1 R0).trans hV
  obtain ⟨t1, ⟨v1, f1⟩, e1⟩ := am_upE (N := n) (σ := t0) (R := fun i τ => mV τ = vwI V i ∧ ∀ k, k ≠ 78 → τ.1 k = t0.1 k) (F := fun i τ Q => AW sv 149 10 [.ref 71, .int (saF V 1 16), .int (nI (wm V i)), .int (nI i), .null] [] (am_toH τ) 0 0 Q) ⟨hV0.trans vw_0.symm, fun _ _ => rfl⟩ (by
    intro i τ hi R
    obtain ⟨v1, f1⟩ := R
    have hi' : i < (vwI V i 9 0).toNatClampNeg := by
      show i < (V 9 0).toNatClampNeg
      rw [cn]; exact hi
    have h3 : τ.1 71 7 = nI n := (rm v1).1.trans en
    have w7 : τ.1 78 (3 * i + 1) = V 7 i := by
      refine (rmw v1 hi').2.1.trans ?_
      unfold vwI
      rw [if_neg (fun c => absurd c.2.1 (Nat.lt_irrefl _))]
    have e1 : ¬ nI n ≤ nI i := nI_ge hi (by omega)
    have m1 : am_in (nI (3 * i + 1)) 24 = true := nI_in' (by omega) (by omega)
    have d1 : (nI (3 * i + 1)).toNatClampNeg = 3 * i + 1 := nI_clamp (by omega)
    have wl := wm_lt (V := V) i
    have p8 : 2 ^ i ≤ 2 ^ 7 := Nat.pow_le_pow_right (by decide) (by omega)
    have wo := w_or i (by omega) (wm V i) (by omega) wl
    by_cases q : V 7 i = 0
    · have q' : (V 7 i = 0) = True := eq_true q
      refine ⟨am_wr τ 78 (upd (τ.1 78) (3 * i + 1) 1), ⟨?_, fun k q1 => ?_⟩, fun Q => ?_⟩
      · rw [mV_kd (by rw [h3, nI_clamp (by omega)]; exact hi), v1, vw_s1 q]
      · rw [am_wr_ne q1]
        exact f1 k q1
      · simp only [wm, q', if_true]
        rw [x149_10]
        simp only [x149_11, x149_12, x149_15, x149_18, x149_19, x149_22, x149_23, x149_24, x149_25, x149_26, x149_27, x149_28, x149_31, x149_32, x149_35, x149_36, x149_37, x149_38, x149_39, x149_40, x149_41, x149_42, x149_43, x149_44, x149_45, x149_46, x149_47, x149_48, x149_51, Option.toList_some, Option.toList_none, List.cons_append, List.nil_append, cat_i, cat_r, cat_n, cat_f, cs_n, cs_i, cs_r, cs_l, cs_f, Nat.reduceAdd, Nat.reduceLeDiff, Nat.zero_le, if_true, if_false, true_or, or_true, am_wr_at, Nat.reduceEqDiff, not_true_eq_false, not_false_eq_true, i_one, ite_not, bI_z, bI_nz, bI_t, bI_f, bI_or, Bool.false_eq_true, Bool.true_eq_false, reduceCtorEq, lc78, h3, e1, ix31, m1, d1, w7, q', wo, nI_1]
    · have q' : (V 7 i = 0) = False := eq_false q
      refine ⟨τ, ⟨v1.trans (vw_s0 q).symm, f1⟩, fun Q => ?_⟩
      simp only [wm, q', if_false]
      rw [x149_10]
      simp only [x149_11, x149_12, x149_15, x149_18, x149_19, x149_22, x149_23, x149_24, x149_25, x149_26, x149_27, x149_28, x149_31, x149_32, x149_35, x149_36, x149_37, x149_38, x149_39, x149_40, x149_41, x149_42, x149_43, x149_44, x149_45, x149_46, x149_47, x149_48, x149_51, Option.toList_some, Option.toList_none, List.cons_append, List.nil_append, cat_i, cat_r, cat_n, cat_f, cs_n, cs_i, cs_r, cs_l, cs_f, Nat.reduceAdd, Nat.reduceLeDiff, Nat.zero_le, if_true, if_false, true_or, or_true, am_wr_at, Nat.reduceEqDiff, not_true_eq_false, not_false_eq_true, i_one, ite_not, bI_z, bI_nz, bI_t, bI_f, bI_or, Bool.false_eq_true, Bool.true_eq_false, reduceCtorEq, lc78, h3, e1, ix31, m1, d1, w7, q', nI_1])
  have okW : okV (vwI V n) := okV_vw hok
  obtain ⟨t2, R2, c2⟩ := m140 (sv := sv) v1 okW rg11
  have hV2 : mV t2 = vwI V n := (mV_1 R2).trans v1
  obtain ⟨t3, ⟨v3, f3⟩, e3⟩ := am_upE (N := n) (σ := t2) (R := fun i τ => mV τ = vwJ V n i ∧ ∀ k, k ≠ 78 → τ.1 k = t2.1 k) (F := fun i τ Q => AW sv 149 63 [.ref 71, .int (saF V 1 16), .int (nI (wm V n)), .int (saF (vwI V n) 1 16), .int (nI i)] [] (am_toH τ) 0 0 Q) ⟨hV2.trans vwJ_0.symm, fun _ _ => rfl⟩ (by
    intro i τ hi R
    obtain ⟨v1, f1⟩ := R
    have hi' : i < (vwJ V n i 9 0).toNatClampNeg := by
      show i < (V 9 0).toNatClampNeg
      rw [cn]; exact hi
    have h3 : τ.1 71 7 = nI n := (rm v1).1.trans en
    have w7 := (rmw v1 hi').2.1
    have e1 : ¬ nI n ≤ nI i := nI_ge hi (by omega)
    have m1 : am_in (nI (3 * i + 1)) 24 = true := nI_in' (by omega) (by omega)
    have d1 : (nI (3 * i + 1)).toNatClampNeg = 3 * i + 1 := nI_clamp (by omega)
    have wl := wm_lt (V := V) n
    have p8 : 2 ^ n ≤ 2 ^ 8 := Nat.pow_le_pow_right (by decide) hn
    have wb := w_bit (wm V n) (by omega) i (by omega)
    rw [wm_bit n hi] at wb
    have hl : i < (τ.1 71 7).toNatClampNeg := by rw [h3, nI_clamp (by omega)]; exact hi
    refine ⟨am_wr τ 78 (upd (τ.1 78) (3 * i + 1) (V 7 i)), ⟨?_, fun k q1 => ?_⟩, fun Q => ?_⟩
    · rw [mV_kd hl, v1, vwJ_s hi]
    · rw [am_wr_ne q1]
      exact f1 k q1
    · rw [x149_63]
      by_cases q : V 7 i = 0
      · have q' : (nI (wm V n) >>> (nI i &&& 31) &&& 1 = 1) = True := eq_true (wb.mpr (by simp [q]))
        simp only [x149_65, x149_66, x149_69, x149_72, x149_73, x149_76, x149_77, x149_79, x149_80, x149_81, x149_82, x149_83, x149_85, x149_86, x149_87, x149_88, x149_89, x149_92, x149_93, x149_96, x149_97, x149_100, x149_101, x149_103, x149_104, x149_105, x149_106, x149_107, x149_108, x149_111, Option.toList_some, Option.toList_none, List.cons_append, List.nil_append, cat_i, cat_r, cat_n, cat_f, cs_n, cs_i, cs_r, cs_l, cs_f, Nat.reduceAdd, Nat.reduceLeDiff, Nat.zero_le, if_true, if_false, true_or, or_true, am_wr_at, Nat.reduceEqDiff, not_true_eq_false, not_false_eq_true, i_one, ite_not, bI_z, bI_nz, bI_t, bI_f, bI_or, Bool.false_eq_true, Bool.true_eq_false, reduceCtorEq, lc78, h3, e1, ix31, m1, d1, q', q, nI_1]
      · have q' : (nI (wm V n) >>> (nI i &&& 31) &&& 1 = 1) = False := eq_false (fun c => by
          have := wb.mp c
          simp [q] at this)
        have w8 : τ.1 78 (3 * i + 1) = V 7 i := by
          refine w7.trans ?_
          unfold vwJ
          rw [if_neg (fun c => q c.2.2.2)]
        simp only [x149_65, x149_66, x149_69, x149_72, x149_73, x149_76, x149_77, x149_79, x149_80, x149_81, x149_82, x149_83, x149_85, x149_86, x149_87, x149_88, x149_89, x149_92, x149_93, x149_96, x149_97, x149_100, x149_101, x149_103, x149_104, x149_105, x149_106, x149_107, x149_108, x149_111, Option.toList_some, Option.toList_none, List.cons_append, List.nil_append, cat_i, cat_r, cat_n, cat_f, cs_n, cs_i, cs_r, cs_l, cs_f, Nat.reduceAdd, Nat.reduceLeDiff, Nat.zero_le, if_true, if_false, true_or, or_true, am_wr_at, Nat.reduceEqDiff, not_true_eq_false, not_false_eq_true, i_one, ite_not, bI_z, bI_nz, bI_t, bI_f, bI_or, Bool.false_eq_true, Bool.true_eq_false, reduceCtorEq, lc78, h3, e1, ix31, m1, d1, q', w8, nI_1])
  have fr : ∀ k, k ≠ 78 → t3.1 k = σ.1 k := by
    intro k q
    rw [f3 k q, R2, f1 k q, R0]
  refine ⟨t3, ⟨fun k q => fr k (by omega), fun k q1 q2 => fr k (by omega), fr 71 (by decide)⟩, by rw [v3, vwJ_n], fun Q => ?_⟩
  have h1 : t1.1 71 7 = nI n := (rm v1).1.trans en
  have h3 : t3.1 71 7 = nI n := (rm v3).1.trans en
  have z1 : nI n ≤ nI n := nI_le (by omega) (by omega)
  rw [n149, cn]
  simp only [x149_0, x149_1, x149_2, x149_5, x149_6, x149_7, x149_8, x149_9, Option.toList_some, Option.toList_none, List.cons_append, List.nil_append, cat_i, cat_r, cat_n, cat_f, cs_n, cs_i, cs_r, cs_l, cs_f, Nat.reduceAdd, Nat.reduceLeDiff, Nat.zero_le, if_true, if_false, true_or, or_true, am_wr_at, Nat.reduceEqDiff, not_true_eq_false, not_false_eq_true, i_one, ite_not, bI_z, bI_nz, bI_t, bI_f, bI_or, Bool.false_eq_true, Bool.true_eq_false, reduceCtorEq, c0]
  refine (e1 Q).trans ?_
  show AW sv 149 10 [.ref 71, .int (saF V 1 16), .int (nI (wm V n)), .int (nI n), .null] [] (am_toH t1) 0 0 Q = _
  rw [x149_10]
  simp only [x149_11, x149_12, x149_15, x149_54, x149_55, x149_56, x149_59, x149_60, x149_61, Option.toList_some, Option.toList_none, List.cons_append, List.nil_append, cat_i, cat_r, cat_n, cat_f, cs_n, cs_i, cs_r, cs_l, cs_f, Nat.reduceAdd, Nat.reduceLeDiff, Nat.zero_le, if_true, if_false, true_or, or_true, am_wr_at, Nat.reduceEqDiff, not_true_eq_false, not_false_eq_true, i_one, ite_not, bI_z, bI_nz, bI_t, bI_f, bI_or, Bool.false_eq_true, Bool.true_eq_false, reduceCtorEq, h1, z1, c2]
  refine (e3 Q).trans ?_
  show AW sv 149 63 [.ref 71, .int (saF V 1 16), .int (nI (wm V n)), .int (saF (vwI V n) 1 16), .int (nI n)] [] (am_toH t3) 0 0 Q = _
  rw [x149_63]
  simp only [x149_65, x149_66, x149_69, x149_114, x149_115, x149_116, x149_117, Option.toList_some, Option.toList_none, List.cons_append, List.nil_append, cat_i, cat_r, cat_n, cat_f, cs_n, cs_i, cs_r, cs_l, cs_f, Nat.reduceAdd, Nat.reduceLeDiff, Nat.zero_le, if_true, if_false, true_or, or_true, am_wr_at, Nat.reduceEqDiff, not_true_eq_false, not_false_eq_true, i_one, ite_not, bI_z, bI_nz, bI_t, bI_f, bI_or, Bool.false_eq_true, Bool.true_eq_false, reduceCtorEq, h3, z1]
/-- warning -/
theorem sim23 : SimOK sv Inv 84 149 [] := by
  refine sim_q (fun V hok => ?_)
  refine ⟨saF (vwI V (V 9 0).toNatClampNeg) 1 16 - saF V 1 16, fun σ hV => ?_, fun σ hV => m149 hV hok⟩
  obtain ⟨t1, R1, c1⟩ := c57 (sv := sv) hV hok
  obtain ⟨t2, R2, c2⟩ := c32 (sv := sv) st1 ((Cf_cV R1).trans hV) hok rg11
  refine ⟨t2, Cf_trans R1 (Cf_1 R2), fun Q => ?_⟩
  rw [n84]
  simp only [x84_0, x84_1, x84_4, x84_5, x84_8, x84_11, x84_12, x84_15, x84_16, x84_19, x84_20, Option.toList_some, Option.toList_none, List.cons_append, List.nil_append, cat_i, cat_r, cat_n, cat_f, cs_n, cs_i, cs_r, cs_l, cs_f, Nat.reduceAdd, Nat.reduceLeDiff, Nat.zero_le, if_true, if_false, true_or, or_true, am_wr_at, Nat.reduceEqDiff, not_true_eq_false, not_false_eq_true, i_one, ite_not, bI_z, bI_nz, bI_t, bI_f, bI_or, Bool.false_eq_true, Bool.true_eq_false, reduceCtorEq, st1, c1, c2]
end I67
