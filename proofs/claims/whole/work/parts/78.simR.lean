/-! SIMULATION: routine -/
theorem apC_lo {V W : Nat → Nat → Int32} {c : Nat → Int32} (h : ∀ i, i ≤ 4 → ∀ j, V i j = W i j) : ∀ i, i ≤ 4 → ∀ j, apC V c i j = apC W c i j := by
  intro i hi j
  have e := h i hi j
  unfold apC vset
  rw [e]
theorem apC_hi {V : Nat → Nat → Int32} {c : Nat → Int32} {i j : Nat} (hi : 5 ≤ i) : apC V c i j = V i j := by
  unfold apC vset
  rw [if_neg (by omega), if_neg (by omega), if_neg (by omega), if_neg (by omega), if_neg (by omega)]
theorem rt_lo {cl : Nat → Nat → Int32} : ∀ m c (V W : Nat → Nat → Int32), (∀ i, i ≤ 4 → ∀ j, V i j = W i j) → ∀ i, i ≤ 4 → ∀ j, rtW V cl c m i j = rtW W cl c m i j := by
  intro m
  induction m with
  | zero => intro c V W h; exact h
  | succ m ih =>
    intro c V W h
    exact ih (c + 1) _ _ (apC_lo h)
theorem rt_hi {cl : Nat → Nat → Int32} : ∀ m c (V : Nat → Nat → Int32) i j, 5 ≤ i → rtW V cl c m i j = V i j := by
  intro m
  induction m with
  | zero => intro c V i j _; rfl
  | succ m ih =>
    intro c V i j hi
    simp only [rtW]
    rw [ih (c + 1) _ i j hi, apC_hi hi]
theorem okV_ap {V : Nat → Nat → Int32} {c : Nat → Int32} (hok : okV V) (hc : okC c) : okV (apC V c) := by
  obtain ⟨-, o1, o2, o3, o4, o5⟩ := hc
  exact okV_set (okV_set (okV_set (okV_set (okV_set hok (Or.inl ⟨rfl, o1⟩)) (Or.inr (Or.inr (Or.inl ⟨rfl, o2⟩)))) (Or.inr (Or.inr (Or.inr (Or.inl ⟨rfl, o3⟩))))) (Or.inr (Or.inr (Or.inr (Or.inr (Or.inl ⟨rfl, o4⟩)))))) (Or.inr (Or.inl ⟨rfl, o5⟩))
theorem okV_rt {cl : Nat → Nat → Int32} : ∀ m c V, okV V → (∀ i, c ≤ i → i < c + m → okC (cl i)) → okV (rtW V cl c m) := by
  intro m
  induction m with
  | zero => intro c V h _; exact h
  | succ m ih =>
    intro c V h ho
    exact ih (c + 1) _ (okV_ap h (ho c (Nat.le_refl _) (by omega))) (fun i h1 h2 => ho i (by omega) (by omega))
theorem neg_ans : ∀ a, a ≤ 100 → (-20 : Int32) - nI a ≤ 0 ∧ 6 * ((-20 : Int32) - nI a) ≤ 0 := by decide +kernel
section I78
variable {sv : am_V} {h : am_H} {σ τ ρ : am_S} {Q : Option Value → am_H → Prop} {a b k : Nat} {st st' : Bool} {g : Nat → Nat} {L : Nat} {x y : Int32} {W : Nat → Nat → Int32}
/-- what a text leaves -/
theorem Inv_tp (hI : Inv σ) (hc : cV τ 1 = W) (hm : mV τ = W) (hok : okV W) (t1 : τ.1 65 1 = 0) (t2 : τ.1 71 10 = 0) (fr : ∀ k, (22 ≤ k ∧ k ≤ 43) ∨ (67 ≤ k ∧ k ≤ 70) ∨ 85 ≤ k ∨ k = 0 → τ.1 k = σ.1 k) (f23 : τ.1 71 23 = σ.1 71 23) : Inv τ := by
  refine ⟨hc.trans hm.symm, by rw [hm]; exact hok, ⟨by rw [t1, t2], by rw [t1]; exact ⟨by decide, by decide⟩, fun j hj => ?_⟩, inS_of ⟨?_, ?_, ?_, ?_, ?_, ?_⟩ hI.2.2.2.1, inI_of ⟨?_, f23, ?_⟩ (fun k q1 q2 => fr k (by omega)) hI.2.2.2.2⟩
  · rw [t1, z32] at hj
    omega
  · rw [fr 68 (by decide)]
  · rw [fr 69 (by decide)]
  · rw [fr 70 (by decide)]
  · rw [fr 86 (by decide)]
  · rw [fr 87 (by decide)]
  · rw [fr 88 (by decide)]
  · rw [fr 0 (by decide)]
  · rw [fr 85 (by decide)]
theorem s43 : AM sv 43 [.ref 65] (am_toH σ) Q = Q none (am_toH (cT σ 0 false)) := by
  unfold cT
  rw [n43]
  simp only [x43_0, x43_1, x43_2, x43_5, x43_6, x43_7, x43_10, Option.toList_some, Option.toList_none, List.cons_append, List.nil_append, cat_i, cat_r, cat_n, cat_f, cs_n, cs_i, cs_r, cs_l, cs_f, Nat.reduceAdd, Nat.reduceLeDiff, Nat.zero_le, if_true, if_false, true_or, or_true, am_wr_at, Nat.reduceEqDiff, not_true_eq_false, not_false_eq_true, i_one, ite_not, bI_z, bI_nz, bI_t, bI_f, bI_or, Bool.false_eq_true, Bool.true_eq_false, reduceCtorEq, am_wr_wr, am_zero_t, nI_0]
theorem tapes (hI : Inv σ) : ∃ g L, okG g L ∧ TC g L σ ∧ TM g L σ := by
  obtain ⟨T1, T2, T3⟩ := hI.2.2.1
  obtain ⟨L, hL, eL⟩ := rg_nI (n := 100) (by decide) T2
  have hb : ∀ j, j < L → ∃ m : Nat, σ.1 66 j = nI m ∧ 32 ≤ m ∧ m ≤ 126 := by
    intro j hj
    obtain ⟨-, r1, r2⟩ := T3 j (by rw [eL, nI_clamp (by omega)]; exact hj)
    obtain ⟨m, hm, em⟩ := rg_nI (n := 126) (by decide) (⟨by omega, r2⟩ : rg (σ.1 66 j) 0 126)
    rw [em, nI_toInt (by omega)] at r1
    exact ⟨m, em, by omega, hm⟩
  refine ⟨fun j => (σ.1 66 j).toNatClampNeg, L, ⟨hL, fun j hj => ?_⟩, ⟨eL, fun j hj => ?_⟩, ⟨T1.symm.trans eL, fun j hj => ?_⟩⟩
  · obtain ⟨m, em, h1, h2⟩ := hb j hj
    show 32 ≤ (σ.1 66 j).toNatClampNeg ∧ (σ.1 66 j).toNatClampNeg ≤ 126
    rw [em, nI_clamp (by omega)]
    exact ⟨h1, h2⟩
  · obtain ⟨m, em, h1, h2⟩ := hb j hj
    show σ.1 66 j = nI (σ.1 66 j).toNatClampNeg
    rw [em, nI_clamp (by omega)]
  · obtain ⟨m, em, h1, h2⟩ := hb j hj
    have := (T3 j (by rw [eL, nI_clamp (by omega)]; exact hj)).1
    show σ.1 79 j = nI (σ.1 66 j).toNatClampNeg
    rw [← this, em, nI_clamp (by omega)]
def wr5 (τ : am_S) (b : Nat) (c : Nat → Int32) : am_S := am_wr (am_wr (am_wr (am_wr (am_wr τ 72 (upd (τ.1 72) b (c 1))) 74 (upd (τ.1 74) b (c 2 - 1))) 75 (upd (τ.1 75) b (c 3 - 1))) 76 (upd (τ.1 76) b (c 4))) 73 (upd (τ.1 73) b (c 5))
theorem mV_wr5 {c : Nat → Int32} (hb : b < 16) (e : c 0 = nI b) : mV (wr5 τ b c) = apC (mV τ) c := by
  have h0 := mV_row (σ := τ) (x := c 1) hb 0 (by decide)
  have h1 := mV_row (σ := am_wr τ 72 (upd (τ.1 72) b (c 1))) (x := c 2 - 1) hb 2 (by decide)
  have h2 := mV_row (σ := am_wr (am_wr τ 72 (upd (τ.1 72) b (c 1))) 74 (upd (τ.1 74) b (c 2 - 1))) (x := c 3 - 1) hb 3 (by decide)
  have h3 := mV_row (σ := am_wr (am_wr (am_wr τ 72 (upd (τ.1 72) b (c 1))) 74 (upd (τ.1 74) b (c 2 - 1))) 75 (upd (τ.1 75) b (c 3 - 1))) (x := c 4) hb 4 (by decide)
  have h4 := mV_row (σ := am_wr (am_wr (am_wr (am_wr τ 72 (upd (τ.1 72) b (c 1))) 74 (upd (τ.1 74) b (c 2 - 1))) 75 (upd (τ.1 75) b (c 3 - 1))) 76 (upd (τ.1 76) b (c 4))) (x := c 5) hb 1 (by decide)
  simp only [Nat.reduceAdd, Option.toList_some, Option.toList_none, List.cons_append, List.nil_append, cat_i, cat_r, cat_n, cat_f, cs_n, cs_i, cs_r, cs_l, cs_f, Nat.reduceAdd, Nat.reduceLeDiff, Nat.zero_le, if_true, if_false, true_or, or_true, am_wr_at, Nat.reduceEqDiff, not_true_eq_false, not_false_eq_true, i_one, ite_not, bI_z, bI_nz, bI_t, bI_f, bI_or, Bool.false_eq_true, Bool.true_eq_false, reduceCtorEq, or_self, false_or, Int32.sub_add_cancel] at h0 h1 h2 h3 h4
  unfold wr5 apC
  rw [h4, h3, h2, h1, h0, e, nI_clamp (by omega)]
/-- the reference takes the clauses -/
theorem m128 {n : Nat} {cl : Nat → Nat → Int32} {V : Nat → Nat → Int32} (hn : n ≤ 8) (hV : mV σ = V) (hc : ∀ i, i < n → clR σ (6 * i) (cl i)) (ho : ∀ i, i < n → okC (cl i)) : ∃ τ : am_S, (mV τ = rtW V cl 0 n ∧ ∀ k, k < 72 ∨ 76 < k → τ.1 k = σ.1 k) ∧ ∀ Q, AW sv 128 8 [.ref 71, .int (nI n), .int 0] [] (am_toH σ) 0 0 Q = Q (some (.int (nI n))) (am_toH τ) := by
  have e6 : 6 * nI n = nI (6 * n) := oN_mul 6 n
  obtain ⟨τ, R, e⟩ := am_upE (N := n) (σ := σ) (R := fun i τ => mV τ = rtW V cl 0 i ∧ ∀ k, k < 72 ∨ 76 < k → τ.1 k = σ.1 k) (F := fun i τ Q => AW sv 128 8 [.ref 71, .int (nI n), .int (nI (6 * i))] [] (am_toH τ) 0 0 Q) ⟨hV, fun _ _ => rfl⟩ (by
    intro i τ hi R
    obtain ⟨v1, v2⟩ := R
    obtain ⟨⟨b, hb, eb⟩, -⟩ := ho i hi
    obtain ⟨q0, q1, q2, q3, q4, q5⟩ := hc i hi
    have g80 := v2 80 (by omega)
    rw [← g80] at q0 q1 q2 q3 q4 q5
    rw [eb] at q0
    have b2 : am_in (nI b) 16 = true := nI_in' (by omega) (by omega)
    have b3 : (nI b).toNatClampNeg = b := nI_clamp (by omega)
    have e1 : ¬ nI (6 * n) ≤ nI (6 * i) := nI_ge (by omega) (by omega)
    have d0 : am_in (nI (6 * i)) 48 = true := nI_in' (by omega) (by omega)
    have d1 : am_in (nI (6 * i + 1)) 48 = true := nI_in' (by omega) (by omega)
    have d2 : am_in (nI (6 * i + 2)) 48 = true := nI_in' (by omega) (by omega)
    have d3 : am_in (nI (6 * i + 3)) 48 = true := nI_in' (by omega) (by omega)
    have d4 : am_in (nI (6 * i + 4)) 48 = true := nI_in' (by omega) (by omega)
    have d5 : am_in (nI (6 * i + 5)) 48 = true := nI_in' (by omega) (by omega)
    have k0 : (nI (6 * i)).toNatClampNeg = 6 * i := nI_clamp (by omega)
    have k1 : (nI (6 * i + 1)).toNatClampNeg = 6 * i + 1 := nI_clamp (by omega)
    have k2 : (nI (6 * i + 2)).toNatClampNeg = 6 * i + 2 := nI_clamp (by omega)
    have k3 : (nI (6 * i + 3)).toNatClampNeg = 6 * i + 3 := nI_clamp (by omega)
    have k4 : (nI (6 * i + 4)).toNatClampNeg = 6 * i + 4 := nI_clamp (by omega)
    have k5 : (nI (6 * i + 5)).toNatClampNeg = 6 * i + 5 := nI_clamp (by omega)
    refine ⟨wr5 τ b (cl i), ⟨?_, fun k q => ?_⟩, fun Q => ?_⟩
    · rw [mV_wr5 hb eb, v1, rtW_s, Nat.zero_add]
    · unfold wr5
      rw [am_wr_ne (by omega), am_wr_ne (by omega), am_wr_ne (by omega), am_wr_ne (by omega), am_wr_ne (by omega)]
      exact v2 k q
    · rw [show 6 * (i + 1) = 6 * i + 6 by omega, x128_8]
      simp only [x128_9, x128_11, x128_12, x128_13, x128_16, x128_17, x128_20, x128_21, x128_24, x128_25, x128_26, x128_27, x128_30, x128_31, x128_32, x128_33, x128_34, x128_35, x128_36, x128_39, x128_40, x128_43, x128_44, x128_45, x128_46, x128_49, x128_50, x128_51, x128_52, x128_53, x128_54, x128_55, x128_58, x128_59, x128_62, x128_63, x128_64, x128_65, x128_68, x128_69, x128_70, x128_71, x128_72, x128_73, x128_74, x128_77, x128_78, x128_81, x128_82, x128_83, x128_84, x128_87, x128_88, x128_89, x128_90, x128_91, x128_92, x128_93, x128_96, x128_97, x128_100, x128_101, x128_102, x128_103, x128_106, x128_107, x128_108, x128_109, x128_110, x128_111, x128_114, Option.toList_some, Option.toList_none, List.cons_append, List.nil_append, cat_i, cat_r, cat_n, cat_f, cs_n, cs_i, cs_r, cs_l, cs_f, Nat.reduceAdd, Nat.reduceLeDiff, Nat.zero_le, if_true, if_false, true_or, or_true, am_wr_at, Nat.reduceEqDiff, not_true_eq_false, not_false_eq_true, i_one, ite_not, bI_z, bI_nz, bI_t, bI_f, bI_or, Bool.false_eq_true, Bool.true_eq_false, reduceCtorEq, lc72, lc73, lc74, lc75, lc76, lc80, e6, e1, d0, d1, d2, d3, d4, d5, k0, k1, k2, k3, k4, k5, nI_1, nI_p2, nI_p3, nI_p4, nI_p5, nI_p6, q0, q1, q2, q3, q4, q5, b2, b3, wr5])
  refine ⟨τ, R, fun Q => ?_⟩
  have e1 : nI (6 * n) ≤ nI (6 * n) := nI_le (by omega) (by omega)
  refine (e Q).trans ?_
  show AW sv 128 8 [.ref 71, .int (nI n), .int (nI (6 * n))] [] (am_toH τ) 0 0 Q = _
  rw [x128_8]
  simp only [x128_9, x128_11, x128_12, x128_13, x128_117, x128_118, Option.toList_some, Option.toList_none, List.cons_append, List.nil_append, cat_i, cat_r, cat_n, cat_f, cs_n, cs_i, cs_r, cs_l, cs_f, Nat.reduceAdd, Nat.reduceLeDiff, Nat.zero_le, if_true, if_false, true_or, or_true, am_wr_at, Nat.reduceEqDiff, not_true_eq_false, not_false_eq_true, i_one, ite_not, bI_z, bI_nz, bI_t, bI_f, bI_or, Bool.false_eq_true, Bool.true_eq_false, reduceCtorEq, e6, e1]
theorem m127s : AM sv 127 [.ref 71, .int y] (am_toH σ) Q = AW sv 127 14 [.ref 71, .int y, .int 0, .int 1] [] (am_toH (mT σ 0 false)) 0 0 Q := by
  unfold mT
  rw [n127]
  simp only [x127_0, x127_1, x127_2, x127_5, x127_6, x127_7, x127_10, x127_11, x127_12, x127_13, Option.toList_some, Option.toList_none, List.cons_append, List.nil_append, cat_i, cat_r, cat_n, cat_f, cs_n, cs_i, cs_r, cs_l, cs_f, Nat.reduceAdd, Nat.reduceLeDiff, Nat.zero_le, if_true, if_false, true_or, or_true, am_wr_at, Nat.reduceEqDiff, not_true_eq_false, not_false_eq_true, i_one, ite_not, bI_z, bI_nz, bI_t, bI_f, bI_or, Bool.false_eq_true, Bool.true_eq_false, reduceCtorEq, am_wr_wr, am_zero_t, nI_0]
/-- routine -/
theorem sim9 : SimOK sv Inv 70 128 [] := by
  intro σ hI
  obtain ⟨hv, hok, -⟩ := id hI
  obtain ⟨g, L, hG, hC, hM⟩ := tapes hI
  obtain ⟨ok, n, cl, a', w1, w2, w3, w4, wc, wm⟩ := jR (sv := sv) hG 8 0 0 (by decide) (by decide) (Nat.zero_le _)
  have hL := hG.1
  obtain ⟨t1, a1, f1, r1, e1⟩ := c15 (sv := sv) (σ := σ) pr44
  have T1 : TC g L t1 := by
    unfold TC
    rw [f1 65 (by omega), f1 66 (by omega)]
    exact hC
  obtain ⟨σ', s', x1, x2, x3, x4⟩ := wc t1 T1
  rw [nI_0] at x4
  -- the class's memory behind the reading
  have fx : ∀ k, k ≠ 65 → k < 46 ∨ 50 < k → (am_wr (cT σ' a' s') 65 (upd ((cT σ' a' s').1 65) 1 0)).1 k = σ.1 k := by
    intro k q1 q2
    rw [am_wr_ne q1, cT_k q1, x2 k q2]
    exact f1 k (by omega)
  have fx1 : (am_wr (cT σ' a' s') 65 (upd ((cT σ' a' s').1 65) 1 0)).1 65 1 = 0 := by rw [am_wr_eq, upd_at, if_pos rfl]
  have fxr : ∀ k, k ≠ 65 → (am_wr (cT σ' a' s') 65 (upd ((cT σ' a' s').1 65) 1 0)).1 k = σ'.1 k := fun k q => by rw [am_wr_ne q, cT_k q]
  have d41 : ∀ Q, AM sv 41 [.ref 65, .ref 45] (am_toH t1) Q = Q (some (.int (if ok = true then nI n else -20 - nI a'))) (am_toH (cT σ' a' s')) := by
    intro Q
    rw [← x4 Q, n41]
    simp only [x41_0, x41_1, x41_4, x41_5, Option.toList_some, Option.toList_none, List.cons_append, List.nil_append, cat_i, cat_r, cat_n, cat_f, cs_n, cs_i, cs_r, cs_l, cs_f, Nat.reduceAdd, Nat.reduceLeDiff, Nat.zero_le, if_true, if_false, true_or, or_true, am_wr_at, Nat.reduceEqDiff, not_true_eq_false, not_false_eq_true, i_one, ite_not, bI_z, bI_nz, bI_t, bI_f, bI_or, Bool.false_eq_true, Bool.true_eq_false, reduceCtorEq, s43]
  generalize ht2 : am_wr (cT σ' a' s') 65 (upd ((cT σ' a' s').1 65) 1 0) = t2 at *
  cases ok with
  | false =>
    obtain ⟨y1, y2⟩ := neg_ans a' (by omega)
    simp only [Bool.false_eq_true, if_false] at d41
    -- the reference
    have TM1 : TM g L t2 := by
      unfold TM
      rw [fx 71 (by decide) (by decide), fx 79 (by decide) (by decide)]
      exact hM
    obtain ⟨τ', z1, z2, z3, z4, z5, z6⟩ := wm t2 TM1
    rw [nI_0] at z6
    simp only [Bool.false_eq_true, if_false] at z6
    have z6' : ∀ Q, AM sv 127 [.ref 71, .int 1] (am_toH t2) Q = Q (some (.int (-20 - nI a'))) (am_toH τ') := fun Q => m127s.trans (z6 Q)
    refine ⟨-20 - nI a', t2, τ', fun Q => ?_, fun Q => ?_, Inv_tp (W := mV σ) hI ?_ ?_ hok ?_ z3 (fun k q => ?_) ?_⟩
    · rw [n70]
      simp only [x70_0, x70_1, x70_4, x70_7, x70_10, x70_11, x70_12, x70_13, x70_16, x70_19, x70_22, x70_23, x70_26, x70_27, x70_30, x70_31, x70_32, x70_35, x70_36, x70_39, x70_40, x70_43, x70_44, x70_47, x70_50, x70_51, x70_54, x70_55, Option.toList_some, Option.toList_none, List.cons_append, List.nil_append, cat_i, cat_r, cat_n, cat_f, cs_n, cs_i, cs_r, cs_l, cs_f, Nat.reduceAdd, Nat.reduceLeDiff, Nat.zero_le, if_true, if_false, true_or, or_true, am_wr_at, Nat.reduceEqDiff, not_true_eq_false, not_false_eq_true, i_one, ite_not, bI_z, bI_nz, bI_t, bI_f, bI_or, Bool.false_eq_true, Bool.true_eq_false, reduceCtorEq, st44, st1, e1, d41, ht2, y1]
    · rw [n128]
      simp only [x128_0, x128_1, x128_2, x128_5, x128_6, x128_7, x128_8, x128_9, x128_11, x128_12, x128_13, x128_117, x128_118, Option.toList_some, Option.toList_none, List.cons_append, List.nil_append, cat_i, cat_r, cat_n, cat_f, cs_n, cs_i, cs_r, cs_l, cs_f, Nat.reduceAdd, Nat.reduceLeDiff, Nat.zero_le, if_true, if_false, true_or, or_true, am_wr_at, Nat.reduceEqDiff, not_true_eq_false, not_false_eq_true, i_one, ite_not, bI_z, bI_nz, bI_t, bI_f, bI_or, Bool.false_eq_true, Bool.true_eq_false, reduceCtorEq, z6', y2]
    · rw [← hv]
      exact cV_of (fun k q1 q2 => (z1 k (by omega) (by omega)).trans (fx k (by omega) (by omega))) (by rw [z1 1 (by decide) (by decide), fx 1 (by decide) (by decide)])
    · exact mV_of (fun k q1 q2 => (z1 k (by omega) (by omega)).trans (fx k (by omega) (by omega))) ⟨(z1 81 (by decide) (by decide)).trans (fx 81 (by decide) (by decide)), (z1 83 (by decide) (by decide)).trans (fx 83 (by decide) (by decide)), (z1 84 (by decide) (by decide)).trans (fx 84 (by decide) (by decide))⟩ ⟨by rw [z2 7 (by decide) (by decide) (by decide), fx 71 (by decide) (by decide)], by rw [z2 5 (by decide) (by decide) (by decide), fx 71 (by decide) (by decide)], by rw [z2 16 (by decide) (by decide) (by decide), fx 71 (by decide) (by decide)], by rw [z2 19 (by decide) (by decide) (by decide), fx 71 (by decide) (by decide)]⟩
    · rw [z1 65 (by decide) (by decide)]
      exact fx1
    · exact (z1 k (by omega) (by omega)).trans (fx k (by omega) (by omega))
    · rw [z2 23 (by decide) (by decide) (by decide), fx 71 (by decide) (by decide)]
  | true =>
    have y1 : ¬ nI n ≤ 0 := nI_nle (by omega) (by omega)
    simp only [if_true] at d41
    obtain ⟨t3, b1, f3, r3, e3⟩ := c15 (sv := sv) (σ := t2) pr1
    have fy : ∀ k, k ≠ 65 → k < 3 ∨ (7 < k ∧ (k < 46 ∨ 50 < k)) → t3.1 k = σ.1 k := fun k q1 q2 => (f3 k (by omega)).trans (fx k q1 (by omega))
    have TM1 : TM g L t3 := by
      unfold TM
      rw [fy 71 (by decide) (by decide), fy 79 (by decide) (by decide)]
      exact hM
    obtain ⟨τ', z1, z2, z3, z4, z5, z6⟩ := wm t3 TM1
    rw [nI_0] at z6
    simp only [if_true] at z6
    have z6' : ∀ Q, AM sv 127 [.ref 71, .int 1] (am_toH t3) Q = Q (some (.int (nI n))) (am_toH τ') := fun Q => m127s.trans (z6 Q)
    have hmt : mV τ' = mV σ := mV_of (fun k q1 q2 => (z1 k (by omega) (by omega)).trans (fy k (by omega) (by omega))) ⟨(z1 81 (by decide) (by decide)).trans (fy 81 (by decide) (by decide)), (z1 83 (by decide) (by decide)).trans (fy 83 (by decide) (by decide)), (z1 84 (by decide) (by decide)).trans (fy 84 (by decide) (by decide))⟩ ⟨by rw [z2 7 (by decide) (by decide) (by decide), fy 71 (by decide) (by decide)], by rw [z2 5 (by decide) (by decide) (by decide), fy 71 (by decide) (by decide)], by rw [z2 16 (by decide) (by decide) (by decide), fy 71 (by decide) (by decide)], by rw [z2 19 (by decide) (by decide) (by decide), fy 71 (by decide) (by decide)]⟩
    have ho : ∀ i, i < n → okC (cl i) := fun i hi => w4 rfl i (Nat.zero_le _) hi
    obtain ⟨τ2, ⟨p1, p2⟩, p3⟩ := m128 (sv := sv) w2 hmt (fun i hi => z5 rfl i (Nat.zero_le _) hi) ho
    have x3' := x3 rfl
    rw [Nat.sub_zero] at x3'
    refine ⟨nI n, t3, τ2, fun Q => ?_, fun Q => ?_, Inv_tp (W := rtW (mV σ) cl 0 n) hI ?_ p1 (okV_rt n 0 _ hok (fun i _ hi => ho i (by omega))) ?_ ?_ (fun k q => ?_) ?_⟩
    · rw [n70]
      simp only [x70_0, x70_1, x70_4, x70_7, x70_10, x70_11, x70_12, x70_13, x70_16, x70_19, x70_22, x70_23, x70_26, x70_27, x70_30, x70_31, x70_32, x70_35, x70_36, x70_39, x70_40, x70_43, x70_44, x70_47, x70_50, x70_51, x70_54, x70_55, Option.toList_some, Option.toList_none, List.cons_append, List.nil_append, cat_i, cat_r, cat_n, cat_f, cs_n, cs_i, cs_r, cs_l, cs_f, Nat.reduceAdd, Nat.reduceLeDiff, Nat.zero_le, if_true, if_false, true_or, or_true, am_wr_at, Nat.reduceEqDiff, not_true_eq_false, not_false_eq_true, i_one, ite_not, bI_z, bI_nz, bI_t, bI_f, bI_or, Bool.false_eq_true, Bool.true_eq_false, reduceCtorEq, st44, st1, e1, d41, ht2, y1, e3]
    · rw [← p3 Q, n128]
      simp only [x128_0, x128_1, x128_2, x128_5, x128_6, x128_7, Option.toList_some, Option.toList_none, List.cons_append, List.nil_append, cat_i, cat_r, cat_n, cat_f, cs_n, cs_i, cs_r, cs_l, cs_f, Nat.reduceAdd, Nat.reduceLeDiff, Nat.zero_le, if_true, if_false, true_or, or_true, am_wr_at, Nat.reduceEqDiff, not_true_eq_false, not_false_eq_true, i_one, ite_not, bI_z, bI_nz, bI_t, bI_f, bI_or, Bool.false_eq_true, Bool.true_eq_false, reduceCtorEq, z6']
    · have fz : ∀ k, k < 71 → τ2.1 k = t3.1 k := fun k q => (p2 k (by omega)).trans (z1 k (by omega) (by omega))
      have hA : cV τ2 1 = cV t3 1 := cV_of (fun k q1 q2 => fz k (by omega)) (by rw [fz 1 (by decide)])
      rw [hA]
      -- low rows of the trial at its start
      have lo1 : ∀ i, i ≤ 4 → ∀ j, cV t1 44 i j = mV σ i j := by
        intro i hi j
        rw [← hv]
        by_cases q : j < 16
        · obtain ⟨q1, q2, q3, q4, q5⟩ := r1 j q
          rcases (show i = 0 ∨ i = 1 ∨ i = 2 ∨ i = 3 ∨ i = 4 by omega) with rfl | rfl | rfl | rfl | rfl
          · show (if j < 16 then t1.1 46 j else 0) = (if j < 16 then σ.1 3 j else 0)
            rw [if_pos q, if_pos q]; exact q1
          · show (if j < 16 then t1.1 47 j else 0) = (if j < 16 then σ.1 4 j else 0)
            rw [if_pos q, if_pos q]; exact q2
          · show (if j < 16 then t1.1 48 j else 0) = (if j < 16 then σ.1 5 j else 0)
            rw [if_pos q, if_pos q]; exact q3
          · show (if j < 16 then t1.1 49 j else 0) = (if j < 16 then σ.1 6 j else 0)
            rw [if_pos q, if_pos q]; exact q4
          · show (if j < 16 then t1.1 50 j else 0) = (if j < 16 then σ.1 7 j else 0)
            rw [if_pos q, if_pos q]; exact q5
        · rcases (show i = 0 ∨ i = 1 ∨ i = 2 ∨ i = 3 ∨ i = 4 by omega) with rfl | rfl | rfl | rfl | rfl
          · show (if j < 16 then t1.1 46 j else 0) = (if j < 16 then σ.1 3 j else 0)
            rw [if_neg q, if_neg q]
          · show (if j < 16 then t1.1 47 j else 0) = (if j < 16 then σ.1 4 j else 0)
            rw [if_neg q, if_neg q]
          · show (if j < 16 then t1.1 48 j else 0) = (if j < 16 then σ.1 5 j else 0)
            rw [if_neg q, if_neg q]
          · show (if j < 16 then t1.1 49 j else 0) = (if j < 16 then σ.1 6 j else 0)
            rw [if_neg q, if_neg q]
          · show (if j < 16 then t1.1 50 j else 0) = (if j < 16 then σ.1 7 j else 0)
            rw [if_neg q, if_neg q]
      have lo2 := rt_lo (cl := cl) n 0 _ _ lo1
      funext i j
      by_cases hi : i ≤ 4
      · rw [← lo2 i hi j, ← x3']
        by_cases q : j < 16
        · obtain ⟨q1, q2, q3, q4, q5⟩ := r3 j q
          rw [fxr 46 (by decide)] at q1
          rw [fxr 47 (by decide)] at q2
          rw [fxr 48 (by decide)] at q3
          rw [fxr 49 (by decide)] at q4
          rw [fxr 50 (by decide)] at q5
          rcases (show i = 0 ∨ i = 1 ∨ i = 2 ∨ i = 3 ∨ i = 4 by omega) with rfl | rfl | rfl | rfl | rfl
          · show (if j < 16 then t3.1 3 j else 0) = (if j < 16 then σ'.1 46 j else 0)
            rw [if_pos q, if_pos q]; exact q1
          · show (if j < 16 then t3.1 4 j else 0) = (if j < 16 then σ'.1 47 j else 0)
            rw [if_pos q, if_pos q]; exact q2
          · show (if j < 16 then t3.1 5 j else 0) = (if j < 16 then σ'.1 48 j else 0)
            rw [if_pos q, if_pos q]; exact q3
          · show (if j < 16 then t3.1 6 j else 0) = (if j < 16 then σ'.1 49 j else 0)
            rw [if_pos q, if_pos q]; exact q4
          · show (if j < 16 then t3.1 7 j else 0) = (if j < 16 then σ'.1 50 j else 0)
            rw [if_pos q, if_pos q]; exact q5
        · rcases (show i = 0 ∨ i = 1 ∨ i = 2 ∨ i = 3 ∨ i = 4 by omega) with rfl | rfl | rfl | rfl | rfl
          · show (if j < 16 then t3.1 3 j else 0) = (if j < 16 then σ'.1 46 j else 0)
            rw [if_neg q, if_neg q]
          · show (if j < 16 then t3.1 4 j else 0) = (if j < 16 then σ'.1 47 j else 0)
            rw [if_neg q, if_neg q]
          · show (if j < 16 then t3.1 5 j else 0) = (if j < 16 then σ'.1 48 j else 0)
            rw [if_neg q, if_neg q]
          · show (if j < 16 then t3.1 6 j else 0) = (if j < 16 then σ'.1 49 j else 0)
            rw [if_neg q, if_neg q]
          · show (if j < 16 then t3.1 7 j else 0) = (if j < 16 then σ'.1 50 j else 0)
            rw [if_neg q, if_neg q]
      · rw [rt_hi n 0 _ i j (by omega), ← hv]
        have g8 : ∀ k, 8 ≤ k → k ≤ 20 → t3.1 k = σ.1 k := fun k q1 q2 => fy k (by omega) (by omega)
        have gg1 := fy 1 (by decide) (by decide)
        unfold cV
        simp only [Nat.reduceAdd, g8 8 (by decide) (by decide), g8 9 (by decide) (by decide), g8 10 (by decide) (by decide), g8 11 (by decide) (by decide), g8 12 (by decide) (by decide), g8 13 (by decide) (by decide), g8 14 (by decide) (by decide), g8 15 (by decide) (by decide), g8 16 (by decide) (by decide), g8 17 (by decide) (by decide), g8 18 (by decide) (by decide), g8 19 (by decide) (by decide), g8 20 (by decide) (by decide), gg1]
        split <;> first | rfl | omega | simp_all
    · rw [p2 65 (by decide), z1 65 (by decide) (by decide), f3 65 (by omega)]
      exact fx1
    · rw [p2 71 (by decide)]
      exact z3
    · exact ((p2 k (by omega)).trans (z1 k (by omega) (by omega))).trans (fy k (by omega) (by omega))
    · rw [p2 71 (by decide), z2 23 (by decide) (by decide) (by decide), fy 71 (by decide) (by decide)]
end I78
