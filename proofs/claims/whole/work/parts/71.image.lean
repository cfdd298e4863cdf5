/-! IMAGE, RESTORE -/
def giG (σ : am_S) : Nat → Int32 := upd (upd (upd (upd (va_cpy (σ.1 84) (va_cpy (σ.1 83) (va_cpy (σ.1 81) (va_cpy (σ.1 78) (va_cpy (σ.1 77) (va_cpy (σ.1 76) (va_cpy (σ.1 75) (va_cpy (σ.1 74) (va_cpy (σ.1 73) (va_cpy (σ.1 72) (σ.1 85) 0 0 16) 0 16 16) 0 32 16) 0 48 16) 0 64 16) 0 80 5) 0 85 24) 0 109 32) 0 141 24) 0 165 24) 189 (σ.1 71 5)) 190 (σ.1 71 7)) 191 (σ.1 71 16)) 192 (σ.1 71 19)
def reG (σ : am_S) : am_S := am_wr (am_wr (am_wr (am_wr (am_wr (am_wr (am_wr (am_wr (am_wr (am_wr (am_wr (σ) 72 (va_cpy (σ.1 85) (σ.1 72) 0 0 16)) 73 (va_cpy (σ.1 85) (σ.1 73) 16 0 16)) 74 (va_cpy (σ.1 85) (σ.1 74) 32 0 16)) 75 (va_cpy (σ.1 85) (σ.1 75) 48 0 16)) 76 (va_cpy (σ.1 85) (σ.1 76) 64 0 16)) 77 (va_cpy (σ.1 85) (σ.1 77) 80 0 5)) 78 (va_cpy (σ.1 85) (σ.1 78) 85 0 24)) 81 (va_cpy (σ.1 85) (σ.1 81) 109 0 32)) 83 (va_cpy (σ.1 85) (σ.1 83) 141 0 24)) 84 (va_cpy (σ.1 85) (σ.1 84) 165 0 24)) 71 (upd (upd (upd (upd (σ.1 71) 5 (σ.1 85 189)) 7 (σ.1 85 190)) 16 (σ.1 85 191)) 19 (σ.1 85 192))
def miR (σ τ : am_S) : Prop := (∀ j, j < 16 → σ.1 72 j = τ.1 85 j ∧ σ.1 73 j = τ.1 85 (16 + j) ∧ σ.1 74 j = τ.1 85 (32 + j) ∧ σ.1 75 j = τ.1 85 (48 + j) ∧ σ.1 76 j = τ.1 85 (64 + j)) ∧ (∀ j, j < 5 → σ.1 77 j = τ.1 85 (80 + j)) ∧ (∀ j, j < 24 → σ.1 78 j = τ.1 85 (85 + j)) ∧ (∀ j, j < 32 → σ.1 81 j = τ.1 85 (109 + j)) ∧ (∀ j, j < 24 → σ.1 83 j = τ.1 85 (141 + j) ∧ σ.1 84 j = τ.1 85 (165 + j)) ∧ σ.1 71 5 = τ.1 85 189 ∧ σ.1 71 7 = τ.1 85 190 ∧ σ.1 71 16 = τ.1 85 191 ∧ σ.1 71 19 = τ.1 85 192
theorem mi_eq {σ τ : am_S} (h : miR σ τ) (h8 : rg (τ.1 85 190) 0 8) (hc : rg (τ.1 85 191) 0 8) (hp : rg (τ.1 85 192) 0 24) : mV σ = iV τ := by
  obtain ⟨h0, h5, h6, h7, h9, a1, a2, a3, a4⟩ := h
  obtain ⟨n, hn, en⟩ := rg_nI (n := 8) (by decide) h8
  obtain ⟨m, hm, em⟩ := rg_nI (n := 8) (by decide) hc
  obtain ⟨l, hl, el⟩ := rg_nI (n := 24) (by decide) hp
  have cn : (nI n).toNatClampNeg = n := nI_clamp (by omega)
  have cm : (nI m).toNatClampNeg = m := nI_clamp (by omega)
  have cl : (nI l).toNatClampNeg = l := nI_clamp (by omega)
  have e : ∀ (N : Nat) (x y : Int32) (j : Nat), (j < N → x = y) → (if j < N then x else 0) = (if j < N then y else 0) := by
    intro N x y j h
    split
    · exact h (by assumption)
    · rfl
  funext i j
  have q0 := e 16 (σ.1 72 j) (τ.1 85 j) j (fun q => (h0 j q).1)
  have q1 := e 16 (σ.1 73 j) (τ.1 85 (16 + j)) j (fun q => (h0 j q).2.1)
  have q2 := e 16 (σ.1 74 j + 1) (τ.1 85 (32 + j) + 1) j (fun q => by rw [(h0 j q).2.2.1])
  have q3 := e 16 (σ.1 75 j + 1) (τ.1 85 (48 + j) + 1) j (fun q => by rw [(h0 j q).2.2.2.1])
  have q4 := e 16 (σ.1 76 j) (τ.1 85 (64 + j)) j (fun q => (h0 j q).2.2.2.2)
  have q5 := e 5 (σ.1 77 j) (τ.1 85 (80 + j)) j (fun q => h5 j q)
  have q6 := e n (σ.1 78 (3 * j)) (τ.1 85 (85 + 3 * j)) j (fun q => h6 _ (by omega))
  have q7 := e n (σ.1 78 (3 * j + 1)) (τ.1 85 (85 + (3 * j + 1))) j (fun q => h6 _ (by omega))
  have q8 := e n (σ.1 78 (3 * j + 2)) (τ.1 85 (85 + (3 * j + 2))) j (fun q => h6 _ (by omega))
  have q10 := e m (σ.1 81 (4 * j)) (τ.1 85 (109 + 4 * j)) j (fun q => h7 _ (by omega))
  have q11 := e m (σ.1 81 (4 * j + 1)) (τ.1 85 (109 + (4 * j + 1))) j (fun q => h7 _ (by omega))
  have q12 := e m (σ.1 81 (4 * j + 2)) (τ.1 85 (109 + (4 * j + 2))) j (fun q => h7 _ (by omega))
  have q13 := e m (σ.1 81 (4 * j + 3)) (τ.1 85 (109 + (4 * j + 3))) j (fun q => h7 _ (by omega))
  have q14 := e l (σ.1 83 j) (τ.1 85 (141 + j)) j (fun q => (h9 j (by omega)).1)
  have q15 := e l (σ.1 84 j) (τ.1 85 (165 + j)) j (fun q => (h9 j (by omega)).2)
  unfold mV iV
  simp only [a1, a2, a3, a4, en, em, el, cn, cm, cl, q0, q1, q2, q3, q4, q5, q6, q7, q8, q10, q11, q12, q13, q14, q15]
  rfl
theorem gi_row {σ τ : am_S} (h : τ.1 85 = giG σ) : miR σ τ := by
  unfold miR
  rw [h]
  unfold giG
  refine ⟨fun j hj => ⟨?_, ?_, ?_, ?_, ?_⟩, fun j hj => ?_, fun j hj => ?_, fun j hj => ?_, fun j hj => ⟨?_, ?_⟩, ?_, ?_, ?_, ?_⟩
  all_goals simp (disch := omega) only [upd_at, if_neg, if_true, pk_cpy_in, pk_cpy_out, Nat.zero_add, Nat.sub_zero, Nat.add_sub_cancel_left]
theorem re_row {σ : am_S} : miR (reG σ) σ := by
  unfold miR reG
  refine ⟨fun j hj => ⟨?_, ?_, ?_, ?_, ?_⟩, fun j hj => ?_, fun j hj => ?_, fun j hj => ?_, fun j hj => ⟨?_, ?_⟩, ?_, ?_, ?_, ?_⟩
  all_goals simp (disch := omega) only [Option.toList_some, Option.toList_none, List.cons_append, List.nil_append, cat_i, cat_r, cat_n, cat_f, cs_n, cs_i, cs_r, cs_l, cs_f, Nat.reduceAdd, Nat.reduceLeDiff, Nat.zero_le, if_true, if_false, true_or, or_true, am_wr_at, Nat.reduceEqDiff, not_true_eq_false, not_false_eq_true, i_one, ite_not, bI_z, bI_nz, bI_t, bI_f, bI_or, Bool.false_eq_true, Bool.true_eq_false, reduceCtorEq, upd_at, if_neg, if_true, pk_cpy_in, Nat.zero_add, Nat.sub_zero]
section I71
variable {sv : am_V} {σ τ ρ : am_S} {Q : Option Value → am_H → Prop} {V W : Nat → Nat → Int32}
theorem s158 {f p n : Nat} (hf : f ≠ 85) (hn : am_ln f = n) (h0 : 0 < n) (hp : p + n ≤ 200) : AM sv 158 [.ref f, .ref 85, .int (nI p)] (am_toH σ) Q = Q (some (.int (nI (p + n)))) (am_toH (am_wr σ 85 (va_cpy (σ.1 f) (σ.1 85) 0 p n))) := by
  have hf' : (f = 85) = False := eq_false hf
  have p0 : 0 < am_ln f := by rw [hn]; exact h0
  have hl : Int32.ofNat (am_ln f) = nI n := by rw [hn]; rfl
  have key := am_up (N := n) (f := fun t => AW sv 158 2 [.ref f, .ref 85, .int (nI p), .int (nI t)] [] (am_toH (am_wr σ 85 (va_cpy (σ.1 f) (σ.1 85) 0 p t))) 0 0 Q) (by
    intro t ht
    have e1 : ¬ nI n ≤ nI t := nI_ge ht (by omega)
    have e2 : am_in (nI t) (am_ln f) = true := by rw [hn]; exact nI_in' ht (by omega)
    have e3 : (nI t).toNatClampNeg = t := nI_clamp (by omega)
    have e4 : am_in (nI (p + t)) 200 = true := nI_in' (by omega) (by omega)
    have e5 : (nI (p + t)).toNatClampNeg = p + t := nI_clamp (by omega)
    have e6 : nI p + nI t = nI (p + t) := nI_add _ _
    have g := cpF_s (G := σ.1 f) (F := σ.1 85) (x := 0) (y := p) (t := t)
    simp only [Nat.zero_add] at g
    rw [x158_2]
    simp only [x158_3, x158_4, x158_5, x158_8, x158_9, x158_10, x158_11, x158_12, x158_13, x158_14, x158_15, x158_16, x158_19, Option.toList_some, Option.toList_none, List.cons_append, List.nil_append, cat_i, cat_r, cat_n, cat_f, cs_n, cs_i, cs_r, cs_l, cs_f, Nat.reduceAdd, Nat.reduceLeDiff, Nat.zero_le, if_true, if_false, true_or, or_true, am_wr_at, Nat.reduceEqDiff, not_true_eq_false, not_false_eq_true, i_one, ite_not, bI_z, bI_nz, bI_t, bI_f, bI_or, Bool.false_eq_true, Bool.true_eq_false, reduceCtorEq, p0, hl, hf', lc85, e1, e2, e3, e4, e5, e6, nI_1, am_wr_wr, g]) n (Nat.le_refl _)
  simp only [cpF_0, wr_id] at key
  have z1 : nI n ≤ nI n := nI_le (Nat.le_refl _) (by omega)
  have e6 : nI p + nI n = nI (p + n) := nI_add _ _
  rw [n158]
  simp only [x158_0, x158_1, Option.toList_some, Option.toList_none, List.cons_append, List.nil_append, cat_i, cat_r, cat_n, cat_f, cs_n, cs_i, cs_r, cs_l, cs_f, Nat.reduceAdd, Nat.reduceLeDiff, Nat.zero_le, if_true, if_false, true_or, or_true, am_wr_at, Nat.reduceEqDiff, not_true_eq_false, not_false_eq_true, i_one, ite_not, bI_z, bI_nz, bI_t, bI_f, bI_or, Bool.false_eq_true, Bool.true_eq_false, reduceCtorEq]
  refine Eq.trans key ?_
  rw [x158_2]
  simp only [x158_3, x158_4, x158_5, x158_22, x158_23, x158_24, x158_25, x158_26, Option.toList_some, Option.toList_none, List.cons_append, List.nil_append, cat_i, cat_r, cat_n, cat_f, cs_n, cs_i, cs_r, cs_l, cs_f, Nat.reduceAdd, Nat.reduceLeDiff, Nat.zero_le, if_true, if_false, true_or, or_true, am_wr_at, Nat.reduceEqDiff, not_true_eq_false, not_false_eq_true, i_one, ite_not, bI_z, bI_nz, bI_t, bI_f, bI_or, Bool.false_eq_true, Bool.true_eq_false, reduceCtorEq, p0, hl, z1, e6]
theorem s159 {f p n : Nat} (hf : f ≠ 85) (hn : am_ln f = n) (h0 : 0 < n) (hp : p + n ≤ 200) : AM sv 159 [.ref 85, .int (nI p), .ref f] (am_toH σ) Q = Q (some (.int (nI (p + n)))) (am_toH (am_wr σ f (va_cpy (σ.1 85) (σ.1 f) p 0 n))) := by
  have hf' : (85 = f) = False := eq_false (Ne.symm hf)
  have p0 : 0 < am_ln f := by rw [hn]; exact h0
  have hl : Int32.ofNat (am_ln f) = nI n := by rw [hn]; rfl
  have key := am_up (N := n) (f := fun t => AW sv 159 2 [.ref 85, .int (nI p), .ref f, .int (nI t)] [] (am_toH (am_wr σ f (va_cpy (σ.1 85) (σ.1 f) p 0 t))) 0 0 Q) (by
    intro t ht
    have e1 : ¬ nI n ≤ nI t := nI_ge ht (by omega)
    have e2 : am_in (nI t) (am_ln f) = true := by rw [hn]; exact nI_in' ht (by omega)
    have e3 : (nI t).toNatClampNeg = t := nI_clamp (by omega)
    have e4 : am_in (nI (p + t)) 200 = true := nI_in' (by omega) (by omega)
    have e5 : (nI (p + t)).toNatClampNeg = p + t := nI_clamp (by omega)
    have e6 : nI p + nI t = nI (p + t) := nI_add _ _
    have g := cpF_s (G := σ.1 85) (F := σ.1 f) (x := p) (y := 0) (t := t)
    simp only [Nat.zero_add] at g
    rw [x159_2]
    simp only [x159_3, x159_4, x159_5, x159_8, x159_9, x159_10, x159_11, x159_12, x159_13, x159_14, x159_15, x159_16, x159_19, Option.toList_some, Option.toList_none, List.cons_append, List.nil_append, cat_i, cat_r, cat_n, cat_f, cs_n, cs_i, cs_r, cs_l, cs_f, Nat.reduceAdd, Nat.reduceLeDiff, Nat.zero_le, if_true, if_false, true_or, or_true, am_wr_at, Nat.reduceEqDiff, not_true_eq_false, not_false_eq_true, i_one, ite_not, bI_z, bI_nz, bI_t, bI_f, bI_or, Bool.false_eq_true, Bool.true_eq_false, reduceCtorEq, p0, hl, hf', lc85, e1, e2, e3, e4, e5, e6, nI_1, am_wr_wr, g]) n (Nat.le_refl _)
  simp only [cpF_0, wr_id] at key
  have z1 : nI n ≤ nI n := nI_le (Nat.le_refl _) (by omega)
  have e6 : nI p + nI n = nI (p + n) := nI_add _ _
  rw [n159]
  simp only [x159_0, x159_1, Option.toList_some, Option.toList_none, List.cons_append, List.nil_append, cat_i, cat_r, cat_n, cat_f, cs_n, cs_i, cs_r, cs_l, cs_f, Nat.reduceAdd, Nat.reduceLeDiff, Nat.zero_le, if_true, if_false, true_or, or_true, am_wr_at, Nat.reduceEqDiff, not_true_eq_false, not_false_eq_true, i_one, ite_not, bI_z, bI_nz, bI_t, bI_f, bI_or, Bool.false_eq_true, Bool.true_eq_false, reduceCtorEq]
  refine Eq.trans key ?_
  rw [x159_2]
  simp only [x159_3, x159_4, x159_5, x159_22, x159_23, x159_24, x159_25, x159_26, Option.toList_some, Option.toList_none, List.cons_append, List.nil_append, cat_i, cat_r, cat_n, cat_f, cs_n, cs_i, cs_r, cs_l, cs_f, Nat.reduceAdd, Nat.reduceLeDiff, Nat.zero_le, if_true, if_false, true_or, or_true, am_wr_at, Nat.reduceEqDiff, not_true_eq_false, not_false_eq_true, i_one, ite_not, bI_z, bI_nz, bI_t, bI_f, bI_or, Bool.false_eq_true, Bool.true_eq_false, reduceCtorEq, p0, hl, z1, e6]
theorem m160 : AM sv 160 [.ref 71] (am_toH σ) Q = Q (some (.int 1)) (am_toH (am_wr (am_wr σ 85 (giG σ)) 71 (upd (σ.1 71) 23 1))) := by
  have k72 := fun σ Q => s158 (sv := sv) (σ := σ) (Q := Q) (f := 72) (p := 0) (n := 16) (by decide) lc72 (by decide) (by decide)
  have k73 := fun σ Q => s158 (sv := sv) (σ := σ) (Q := Q) (f := 73) (p := 16) (n := 16) (by decide) lc73 (by decide) (by decide)
  have k74 := fun σ Q => s158 (sv := sv) (σ := σ) (Q := Q) (f := 74) (p := 32) (n := 16) (by decide) lc74 (by decide) (by decide)
  have k75 := fun σ Q => s158 (sv := sv) (σ := σ) (Q := Q) (f := 75) (p := 48) (n := 16) (by decide) lc75 (by decide) (by decide)
  have k76 := fun σ Q => s158 (sv := sv) (σ := σ) (Q := Q) (f := 76) (p := 64) (n := 16) (by decide) lc76 (by decide) (by decide)
  have k77 := fun σ Q => s158 (sv := sv) (σ := σ) (Q := Q) (f := 77) (p := 80) (n := 5) (by decide) lc77 (by decide) (by decide)
  have k78 := fun σ Q => s158 (sv := sv) (σ := σ) (Q := Q) (f := 78) (p := 85) (n := 24) (by decide) lc78 (by decide) (by decide)
  have k81 := fun σ Q => s158 (sv := sv) (σ := σ) (Q := Q) (f := 81) (p := 109) (n := 32) (by decide) lc81 (by decide) (by decide)
  have k83 := fun σ Q => s158 (sv := sv) (σ := σ) (Q := Q) (f := 83) (p := 141) (n := 24) (by decide) lc83 (by decide) (by decide)
  have k84 := fun σ Q => s158 (sv := sv) (σ := σ) (Q := Q) (f := 84) (p := 165) (n := 24) (by decide) lc84 (by decide) (by decide)
  simp only [Nat.reduceAdd] at k72 k73 k74 k75 k76 k77 k78 k81 k83 k84
  rw [nI_0] at k72
  have i189 : am_in (nI 189) 200 = true := by decide
  have j189 : (nI 189).toNatClampNeg = 189 := by decide
  have i190 : am_in (nI 190) 200 = true := by decide
  have j190 : (nI 190).toNatClampNeg = 190 := by decide
  have i191 : am_in (nI 191) 200 = true := by decide
  have j191 : (nI 191).toNatClampNeg = 191 := by decide
  have i192 : am_in (nI 192) 200 = true := by decide
  have j192 : (nI 192).toNatClampNeg = 192 := by decide
  unfold giG
  rw [n160]
  simp only [x160_0, x160_1, x160_4, x160_5, x160_8, x160_9, x160_12, x160_13, x160_14, x160_17, x160_18, x160_21, x160_22, x160_25, x160_26, x160_27, x160_30, x160_31, x160_34, x160_35, x160_38, x160_39, x160_40, x160_43, x160_44, x160_47, x160_48, x160_51, x160_52, x160_53, x160_56, x160_57, x160_60, x160_61, x160_64, x160_65, x160_66, x160_69, x160_70, x160_73, x160_74, x160_77, x160_78, x160_79, x160_82, x160_83, x160_86, x160_87, x160_90, x160_91, x160_92, x160_95, x160_96, x160_99, x160_100, x160_103, x160_104, x160_105, x160_108, x160_109, x160_112, x160_113, x160_116, x160_117, x160_118, x160_121, x160_122, x160_125, x160_126, x160_129, x160_130, x160_131, x160_134, x160_135, x160_136, x160_139, x160_140, x160_141, x160_144, x160_145, x160_146, x160_147, x160_148, x160_151, x160_152, x160_153, x160_156, x160_157, x160_158, x160_159, x160_160, x160_163, x160_164, x160_165, x160_168, x160_169, x160_170, x160_171, x160_172, x160_175, x160_176, x160_177, x160_178, x160_181, x160_182, Option.toList_some, Option.toList_none, List.cons_append, List.nil_append, cat_i, cat_r, cat_n, cat_f, cs_n, cs_i, cs_r, cs_l, cs_f, Nat.reduceAdd, Nat.reduceLeDiff, Nat.zero_le, if_true, if_false, true_or, or_true, am_wr_at, Nat.reduceEqDiff, not_true_eq_false, not_false_eq_true, i_one, ite_not, bI_z, bI_nz, bI_t, bI_f, bI_or, Bool.false_eq_true, Bool.true_eq_false, reduceCtorEq, k72, k73, k74, k75, k76, k77, k78, k81, k83, k84, am_wr_wr, nI_1, nI_p2, nI_p3, lc85, i189, j189, i190, j190, i191, j191, i192, j192]
theorem m161 (h : ¬ σ.1 71 23 = 0) : AM sv 161 [.ref 71] (am_toH σ) Q = Q (some (.int 1)) (am_toH (reG σ)) := by
  have h' : (σ.1 71 23 = 0) = False := eq_false h
  have k72 := fun σ Q => s159 (sv := sv) (σ := σ) (Q := Q) (f := 72) (p := 0) (n := 16) (by decide) lc72 (by decide) (by decide)
  have k73 := fun σ Q => s159 (sv := sv) (σ := σ) (Q := Q) (f := 73) (p := 16) (n := 16) (by decide) lc73 (by decide) (by decide)
  have k74 := fun σ Q => s159 (sv := sv) (σ := σ) (Q := Q) (f := 74) (p := 32) (n := 16) (by decide) lc74 (by decide) (by decide)
  have k75 := fun σ Q => s159 (sv := sv) (σ := σ) (Q := Q) (f := 75) (p := 48) (n := 16) (by decide) lc75 (by decide) (by decide)
  have k76 := fun σ Q => s159 (sv := sv) (σ := σ) (Q := Q) (f := 76) (p := 64) (n := 16) (by decide) lc76 (by decide) (by decide)
  have k77 := fun σ Q => s159 (sv := sv) (σ := σ) (Q := Q) (f := 77) (p := 80) (n := 5) (by decide) lc77 (by decide) (by decide)
  have k78 := fun σ Q => s159 (sv := sv) (σ := σ) (Q := Q) (f := 78) (p := 85) (n := 24) (by decide) lc78 (by decide) (by decide)
  have k81 := fun σ Q => s159 (sv := sv) (σ := σ) (Q := Q) (f := 81) (p := 109) (n := 32) (by decide) lc81 (by decide) (by decide)
  have k83 := fun σ Q => s159 (sv := sv) (σ := σ) (Q := Q) (f := 83) (p := 141) (n := 24) (by decide) lc83 (by decide) (by decide)
  have k84 := fun σ Q => s159 (sv := sv) (σ := σ) (Q := Q) (f := 84) (p := 165) (n := 24) (by decide) lc84 (by decide) (by decide)
  simp only [Nat.reduceAdd] at k72 k73 k74 k75 k76 k77 k78 k81 k83 k84
  rw [nI_0] at k72
  have i189 : am_in (nI 189) 200 = true := by decide
  have j189 : (nI 189).toNatClampNeg = 189 := by decide
  have i190 : am_in (nI 190) 200 = true := by decide
  have j190 : (nI 190).toNatClampNeg = 190 := by decide
  have i191 : am_in (nI 191) 200 = true := by decide
  have j191 : (nI 191).toNatClampNeg = 191 := by decide
  have i192 : am_in (nI 192) 200 = true := by decide
  have j192 : (nI 192).toNatClampNeg = 192 := by decide
  unfold reG
  rw [n161]
  simp only [x161_0, x161_1, x161_4, x161_7, x161_9, x161_10, x161_11, x161_14, x161_15, x161_16, x161_19, x161_22, x161_23, x161_24, x161_27, x161_28, x161_29, x161_32, x161_35, x161_36, x161_37, x161_40, x161_41, x161_42, x161_45, x161_48, x161_49, x161_50, x161_53, x161_54, x161_55, x161_58, x161_61, x161_62, x161_63, x161_66, x161_67, x161_68, x161_71, x161_74, x161_75, x161_76, x161_79, x161_80, x161_81, x161_84, x161_87, x161_88, x161_89, x161_92, x161_93, x161_94, x161_97, x161_100, x161_101, x161_102, x161_105, x161_106, x161_107, x161_110, x161_113, x161_114, x161_115, x161_118, x161_119, x161_120, x161_123, x161_126, x161_127, x161_128, x161_131, x161_132, x161_133, x161_136, x161_139, x161_140, x161_141, x161_142, x161_145, x161_146, x161_147, x161_150, x161_151, x161_152, x161_155, x161_156, x161_157, x161_158, x161_159, x161_162, x161_163, x161_164, x161_167, x161_168, x161_169, x161_170, x161_171, x161_174, x161_175, x161_176, x161_179, x161_180, x161_181, x161_182, x161_183, x161_186, x161_187, Option.toList_some, Option.toList_none, List.cons_append, List.nil_append, cat_i, cat_r, cat_n, cat_f, cs_n, cs_i, cs_r, cs_l, cs_f, Nat.reduceAdd, Nat.reduceLeDiff, Nat.zero_le, if_true, if_false, true_or, or_true, am_wr_at, Nat.reduceEqDiff, not_true_eq_false, not_false_eq_true, i_one, ite_not, bI_z, bI_nz, bI_t, bI_f, bI_or, Bool.false_eq_true, Bool.true_eq_false, reduceCtorEq, h', k72, k73, k74, k75, k76, k77, k78, k81, k83, k84, am_wr_wr, nI_1, nI_p2, nI_p3, lc85, i189, j189, i190, j190, i191, j191, i192, j192]
/-- image -/
theorem sim29 : SimOK sv Inv 90 160 [] := by
  intro σ hI
  obtain ⟨hv, hok, hT, hS, hM⟩ := id hI
  obtain ⟨t1, v1, a1, f1, g1, e1⟩ := c28 (sv := sv) pr22 hv hok
  have f0 : t1.1 0 = σ.1 0 := f1 0 (by omega)
  have r85 : (am_wr (am_wr (am_wr t1 0 (upd (t1.1 0) 2 1)) 85 (giG (am_wr t1 0 (upd (t1.1 0) 2 1)))) 71 (upd ((am_wr t1 0 (upd (t1.1 0) 2 1)).1 71) 23 1)).1 85 = giG (am_wr t1 0 (upd (t1.1 0) 2 1)) := by
    rw [am_wr_ne (by decide), am_wr_eq]
  have fr : ∀ k, k ≠ 0 → k ≠ 85 → k ≠ 71 → (k < 22 ∨ 41 < k) → (am_wr (am_wr (am_wr t1 0 (upd (t1.1 0) 2 1)) 85 (giG (am_wr t1 0 (upd (t1.1 0) 2 1)))) 71 (upd ((am_wr t1 0 (upd (t1.1 0) 2 1)).1 71) 23 1)).1 k = σ.1 k := by
    intro k q1 q2 q3 q4
    rw [am_wr_ne q3, am_wr_ne q2, am_wr_ne q1]
    exact f1 k (by omega)
  have fk : ∀ k, 22 ≤ k → k ≤ 41 → (am_wr (am_wr (am_wr t1 0 (upd (t1.1 0) 2 1)) 85 (giG (am_wr t1 0 (upd (t1.1 0) 2 1)))) 71 (upd ((am_wr t1 0 (upd (t1.1 0) 2 1)).1 71) 23 1)).1 k = t1.1 k := by
    intro k q1 q2
    rw [am_wr_ne (by omega), am_wr_ne (by omega), am_wr_ne (by omega)]
  have f71 : ∀ j, j ≠ 23 → (am_wr (am_wr (am_wr t1 0 (upd (t1.1 0) 2 1)) 85 (giG (am_wr t1 0 (upd (t1.1 0) 2 1)))) 71 (upd ((am_wr t1 0 (upd (t1.1 0) 2 1)).1 71) 23 1)).1 71 j = σ.1 71 j := by
    intro j q
    rw [am_wr_eq, upd_at, if_neg q, am_wr_ne (by decide), f1 71 (by omega)]
  have s0 : (am_wr (am_wr (am_wr t1 0 (upd (t1.1 0) 2 1)) 85 (giG (am_wr t1 0 (upd (t1.1 0) 2 1)))) 71 (upd ((am_wr t1 0 (upd (t1.1 0) 2 1)).1 71) 23 1)).1 0 2 = 1 := by
    rw [am_wr_ne (by decide), am_wr_ne (by decide), am_wr_eq, upd_at, if_pos rfl]
  have s71 : (am_wr (am_wr (am_wr t1 0 (upd (t1.1 0) 2 1)) 85 (giG (am_wr t1 0 (upd (t1.1 0) 2 1)))) 71 (upd ((am_wr t1 0 (upd (t1.1 0) 2 1)).1 71) 23 1)).1 71 23 = 1 := by
    rw [am_wr_eq, upd_at, if_pos rfl]
  have hm1 : mV (am_wr t1 0 (upd (t1.1 0) 2 1)) = mV σ := by
    have g : ∀ k, k ≠ 0 → (k < 22 ∨ 41 < k) → (am_wr t1 0 (upd (t1.1 0) 2 1)).1 k = σ.1 k := fun k q1 q2 => by rw [am_wr_ne q1]; exact f1 k (by omega)
    have g71 := g 71 (by decide) (by decide)
    exact mV_of (fun k q1 q2 => g k (by omega) (by omega)) ⟨g 81 (by decide) (by decide), g 83 (by decide) (by decide), g 84 (by decide) (by decide)⟩ ⟨by rw [g71], by rw [g71], by rw [g71], by rw [g71]⟩
  refine ⟨1, am_wr t1 0 (upd (t1.1 0) 2 1), am_wr (am_wr (am_wr t1 0 (upd (t1.1 0) 2 1)) 85 (giG (am_wr t1 0 (upd (t1.1 0) 2 1)))) 71 (upd ((am_wr t1 0 (upd (t1.1 0) 2 1)).1 71) 23 1), fun Q => ?_, fun Q => ?_, ?_⟩
  · rw [n90]
    simp only [x90_0, x90_1, x90_4, x90_5, x90_8, x90_11, x90_12, x90_13, x90_16, x90_17, Option.toList_some, Option.toList_none, List.cons_append, List.nil_append, cat_i, cat_r, cat_n, cat_f, cs_n, cs_i, cs_r, cs_l, cs_f, Nat.reduceAdd, Nat.reduceLeDiff, Nat.zero_le, if_true, if_false, true_or, or_true, am_wr_at, Nat.reduceEqDiff, not_true_eq_false, not_false_eq_true, i_one, ite_not, bI_z, bI_nz, bI_t, bI_f, bI_or, Bool.false_eq_true, Bool.true_eq_false, reduceCtorEq, st22, e1, am_one_t]
  · exact m160
  · generalize hτ : am_wr (am_wr (am_wr t1 0 (upd (t1.1 0) 2 1)) 85 (giG (am_wr t1 0 (upd (t1.1 0) 2 1)))) 71 (upd ((am_wr t1 0 (upd (t1.1 0) 2 1)).1 71) 23 1) = τ at *
    have hr := gi_row r85
    obtain ⟨-, -, -, -, -, b1, b2, b3, b4⟩ := id hr
    have x1 : rg (τ.1 85 190) 0 8 := by
      rw [← b2]
      have h : mV (am_wr t1 0 (upd (t1.1 0) 2 1)) 9 0 = mV σ 9 0 := by rw [hm1]
      have h : (am_wr t1 0 (upd (t1.1 0) 2 1)).1 71 7 = mV σ 9 0 := h
      rw [h]; exact hok.2.2.1
    have x2 : rg (τ.1 85 191) 0 8 := by
      rw [← b3]
      have h : mV (am_wr t1 0 (upd (t1.1 0) 2 1)) 9 2 = mV σ 9 2 := by rw [hm1]
      have h : (am_wr t1 0 (upd (t1.1 0) 2 1)).1 71 16 = mV σ 9 2 := h
      rw [h]; exact hok.2.2.2.2.1
    have x3 : rg (τ.1 85 192) 0 24 := by
      rw [← b4]
      have h : mV (am_wr t1 0 (upd (t1.1 0) 2 1)) 9 3 = mV σ 9 3 := by rw [hm1]
      have h : (am_wr t1 0 (upd (t1.1 0) 2 1)).1 71 19 = mV σ 9 3 := h
      rw [h]; exact hok.2.2.2.2.2.1
    have hi : iV τ = mV σ := (mi_eq hr x1 x2 x3).symm.trans hm1
    have hc1 : cV τ 1 = cV σ 1 := cV_of (fun k q1 q2 => fr k (by omega) (by omega) (by omega) (by omega)) (by rw [fr 1 (by decide) (by decide) (by decide) (by decide)])
    have hm : mV τ = mV σ := mV_of (fun k q1 q2 => fr k (by omega) (by omega) (by omega) (by omega)) ⟨fr 81 (by decide) (by decide) (by decide) (by decide), fr 83 (by decide) (by decide) (by decide) (by decide), fr 84 (by decide) (by decide) (by decide) (by decide)⟩ ⟨f71 7 (by decide), f71 5 (by decide), f71 16 (by decide), f71 19 (by decide)⟩
    have hk : cV τ 22 = mV σ := (cV_of (fun k q1 q2 => fk k (by omega) (by omega)) (by rw [fk 22 (by decide) (by decide)])).trans v1
    refine ⟨by rw [hc1, hm]; exact hv, by rw [hm]; exact hok, inT_of ⟨?_, ?_, ?_, ?_⟩ hT, inS_of ⟨?_, ?_, ?_, ?_, ?_, ?_⟩ hS, by rw [s0, s71], Or.inr ⟨s0, by rw [hk, hi], by rw [hi]; exact hok⟩⟩
    · rw [fr 65 (by decide) (by decide) (by decide) (by decide)]
    · rw [fr 66 (by decide) (by decide) (by decide) (by decide)]
    · rw [fr 79 (by decide) (by decide) (by decide) (by decide)]
    · exact f71 10 (by decide)
    · rw [fr 68 (by decide) (by decide) (by decide) (by decide)]
    · rw [fr 69 (by decide) (by decide) (by decide) (by decide)]
    · rw [fr 70 (by decide) (by decide) (by decide) (by decide)]
    · rw [fr 86 (by decide) (by decide) (by decide) (by decide)]
    · rw [fr 87 (by decide) (by decide) (by decide) (by decide)]
    · rw [fr 88 (by decide) (by decide) (by decide) (by decide)]
/-- restore -/
theorem sim30 : SimOK sv Inv 91 161 [] := by
  intro σ hI
  obtain ⟨hv, hok, hT, hS, hM1, hM2⟩ := id hI
  by_cases h0 : σ.1 0 2 = 0
  · have h1 : σ.1 71 23 = 0 := by rw [← hM1]; exact h0
    exact ⟨-4, σ, σ, fun Q => by rw [n91]; simp only [x91_0, x91_1, x91_4, x91_7, x91_9, x91_10, x91_11, x91_14, x91_15, x91_18, x91_21, x91_22, Option.toList_some, Option.toList_none, List.cons_append, List.nil_append, cat_i, cat_r, cat_n, cat_f, cs_n, cs_i, cs_r, cs_l, cs_f, Nat.reduceAdd, Nat.reduceLeDiff, Nat.zero_le, if_true, if_false, true_or, or_true, am_wr_at, Nat.reduceEqDiff, not_true_eq_false, not_false_eq_true, i_one, ite_not, bI_z, bI_nz, bI_t, bI_f, bI_or, Bool.false_eq_true, Bool.true_eq_false, reduceCtorEq, h0], fun Q => by rw [n161]; simp only [x161_0, x161_1, x161_4, x161_7, x161_9, Option.toList_some, Option.toList_none, List.cons_append, List.nil_append, cat_i, cat_r, cat_n, cat_f, cs_n, cs_i, cs_r, cs_l, cs_f, Nat.reduceAdd, Nat.reduceLeDiff, Nat.zero_le, if_true, if_false, true_or, or_true, am_wr_at, Nat.reduceEqDiff, not_true_eq_false, not_false_eq_true, i_one, ite_not, bI_z, bI_nz, bI_t, bI_f, bI_or, Bool.false_eq_true, Bool.true_eq_false, reduceCtorEq, h1], hI⟩
  · have h0' : (σ.1 0 2 = 0) = False := eq_false h0
    obtain ⟨-, hk, hki⟩ := hM2.resolve_left h0
    obtain ⟨t1, v1, a1, f1, g1, e1⟩ := c28 (sv := sv) pr1k hk hki
    have h1 : ¬ t1.1 71 23 = 0 := by
      rw [f1 71 (by omega), ← hM1]
      exact h0
    have f85 : t1.1 85 = σ.1 85 := f1 85 (by omega)
    have hi1 : iV t1 = iV σ := iV_of f85
    have x1 : rg (t1.1 85 190) 0 8 := by rw [f85]; exact hki.2.2.1
    have x2 : rg (t1.1 85 191) 0 8 := by rw [f85]; exact hki.2.2.2.2.1
    have x3 : rg (t1.1 85 192) 0 24 := by rw [f85]; exact hki.2.2.2.2.2.1
    have hm : mV (reG t1) = iV σ := (mi_eq re_row x1 x2 x3).trans hi1
    have fr : ∀ k, (k < 71 ∨ k = 79 ∨ 84 < k) → (reG t1).1 k = t1.1 k := by
      intro k q
      unfold reG
      rw [am_wr_ne (by omega), am_wr_ne (by omega), am_wr_ne (by omega), am_wr_ne (by omega), am_wr_ne (by omega), am_wr_ne (by omega), am_wr_ne (by omega), am_wr_ne (by omega), am_wr_ne (by omega), am_wr_ne (by omega), am_wr_ne (by omega)]
    have f71 : ∀ j, j ≠ 5 → j ≠ 7 → j ≠ 16 → j ≠ 19 → (reG t1).1 71 j = t1.1 71 j := by
      intro j q1 q2 q3 q4
      unfold reG
      rw [am_wr_eq, upd_at, if_neg q4, upd_at, if_neg q3, upd_at, if_neg q2, upd_at, if_neg q1]
    have fc : ∀ k, (k < 1 ∨ 20 < k) → (k < 71 ∨ k = 79 ∨ 84 < k) → (reG t1).1 k = σ.1 k := fun k q1 q2 => (fr k q2).trans (f1 k (by omega))
    refine ⟨1, t1, reG t1, fun Q => ?_, fun Q => m161 h1, Inv_mk (V := iV σ) hI ⟨?_, ?_, ?_, ?_, ?_, ?_, ?_, ?_, ?_, ?_, ?_, ?_, ?_, fun k q1 q2 => fc k (by omega) (by omega)⟩ ?_ hm hki⟩
    · rw [n91]
      simp only [x91_0, x91_1, x91_4, x91_7, x91_9, x91_10, x91_11, x91_14, x91_15, x91_18, x91_21, x91_22, Option.toList_some, Option.toList_none, List.cons_append, List.nil_append, cat_i, cat_r, cat_n, cat_f, cs_n, cs_i, cs_r, cs_l, cs_f, Nat.reduceAdd, Nat.reduceLeDiff, Nat.zero_le, if_true, if_false, true_or, or_true, am_wr_at, Nat.reduceEqDiff, not_true_eq_false, not_false_eq_true, i_one, ite_not, bI_z, bI_nz, bI_t, bI_f, bI_or, Bool.false_eq_true, Bool.true_eq_false, reduceCtorEq, st1, h0', e1]
    · rw [fc 65 (by decide) (by decide)]
    · rw [fc 66 (by decide) (by decide)]
    · rw [fc 79 (by decide) (by decide)]
    · rw [f71 10 (by decide) (by decide) (by decide) (by decide), f1 71 (by omega)]
    · rw [fc 68 (by decide) (by decide)]
    · rw [fc 69 (by decide) (by decide)]
    · rw [fc 70 (by decide) (by decide)]
    · rw [fc 86 (by decide) (by decide)]
    · rw [fc 87 (by decide) (by decide)]
    · rw [fc 88 (by decide) (by decide)]
    · rw [fc 0 (by decide) (by decide)]
    · rw [f71 23 (by decide) (by decide) (by decide) (by decide), f1 71 (by omega)]
    · rw [fc 85 (by decide) (by decide)]
    · rw [← v1]
      exact cV_of (fun k q1 q2 => fr k (by omega)) (by rw [fr 1 (by omega)])
end I71
