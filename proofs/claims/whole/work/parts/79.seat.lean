/-! THE READER: a watcher of a house -/
theorem pig : ∀ (N m : Nat) (f : Nat → Nat), (∀ i, i < m → f i < N) → (∀ i j, i < j → j < m → ¬ f i = f j) → m ≤ N := by
  intro N
  induction N with
  | zero =>
    intro m f h1 _
    by_cases q : m = 0
    · omega
    · have := h1 0 (by omega)
      omega
  | succ N ih =>
    intro m f h1 h2
    by_cases q : ∃ i, i < m ∧ f i = N
    · obtain ⟨i0, hi0, e0⟩ := q
      have h3 := ih (m - 1) (fun i => if i < i0 then f i else f (i + 1)) (fun i hi => by
        show (if i < i0 then f i else f (i + 1)) < N
        by_cases k : i < i0
        · rw [if_pos k]
          have z1 := h1 i (by omega)
          have z2 := h2 i i0 k hi0
          omega
        · rw [if_neg k]
          have z1 := h1 (i + 1) (by omega)
          have z2 := h2 i0 (i + 1) (by omega) (by omega)
          omega) (fun i j hij hj => by
        show ¬ (if i < i0 then f i else f (i + 1)) = (if j < i0 then f j else f (j + 1))
        by_cases k : i < i0
        · by_cases k2 : j < i0
          · rw [if_pos k, if_pos k2]; exact h2 i j hij (by omega)
          · rw [if_pos k, if_neg k2]; exact h2 i (j + 1) (by omega) (by omega)
        · rw [if_neg k, if_neg (by omega)]; exact h2 (i + 1) (j + 1) (by omega) (by omega))
      omega
    · have h3 := ih m f (fun i hi => by
        have z1 := h1 i hi
        have z2 : ¬ f i = N := fun c => q ⟨i, hi, c⟩
        omega) h2
      omega
theorem tak_ex {f : Nat → Int32} {s : Int32} : ∀ n, tak f s n = true → ∃ i, i < n ∧ f i = s := by
  intro n
  induction n with
  | zero => intro h; cases h
  | succ n ih =>
    intro h
    simp only [tak, Bool.or_eq_true, decide_eq_true_eq] at h
    rcases h with h | h
    · obtain ⟨i, h1, h2⟩ := ih h
      exact ⟨i, by omega, h2⟩
    · exact ⟨n, by omega, h⟩
theorem tak_add {f : Nat → Int32} {s : Int32} {n : Nat} : ∀ c, tak f s (n + c) = (tak f s n || tak (fun i => f (n + i)) s c) := by
  intro c
  induction c with
  | zero => simp [tak]
  | succ c ih =>
    show (tak f s (n + c) || decide (f (n + c) = s)) = (tak f s n || (tak (fun i => f (n + i)) s c || decide (f (n + c) = s)))
    rw [ih, Bool.or_assoc]
def ltr (t : Nat) : Nat := if t = 0 then 112 else if t = 1 then 119 else if t = 2 then 99 else 120
def adm (σ : am_S) (m : Nat) (s : Int32) (kd : Nat) : am_S := am_wr (am_wr (am_wr (am_wr σ 52 (upd (σ.1 52) m s)) 53 (upd (σ.1 53) m (nI kd))) 54 (upd (σ.1 54) m 3)) 51 (upd (σ.1 51) 3 (nI (m + 1)))
theorem f51 : ((51 : Nat) = 65) = False := eq_false (by decide)
theorem f52 : ((52 : Nat) = 65) = False := eq_false (by decide)
theorem f53 : ((53 : Nat) = 65) = False := eq_false (by decide)
theorem f54 : ((54 : Nat) = 65) = False := eq_false (by decide)
def isL (x : Nat) : Prop := x = 112 ∨ x = 119 ∨ x = 99 ∨ x = 120
section I79
variable {sv : am_V} {h : am_H} {σ τ ρ ρ' ρ'' : am_S} {Q : Option Value → am_H → Prop} {a b k a1 a2 a3 m t : Nat} {st st' : Bool} {g : Nat → Nat} {L : Nat} {x y f s j : Int32}
theorem w46n (hl1 : (sv 1).1 = 4) (hlt : ∀ t, t < 4 → (sv 1).2 t = nI (ltr t)) (ht : t < 4) (hacc : ∀ Q, AM sv 49 [.ref 65, .int (nI (ltr t))] (am_toH ρ) Q = Q (some (.int 0)) (am_toH ρ')) : AW sv 46 45 [.ref 65, .ref 51, .int f, .int s, .int (nI t)] [] (am_toH ρ) 0 0 Q = AW sv 46 45 [.ref 65, .ref 51, .int f, .int s, .int (nI (t + 1))] [] (am_toH ρ') 0 0 Q := by
  have e1 : ¬ 4 ≤ nI t := nI_ge (b := 4) ht (by decide)
  have e2 : am_in (nI t) 4 = true := nI_in' ht (by omega)
  have e3 : (nI t).toNatClampNeg = t := nI_clamp (by omega)
  have e4 := hlt t ht
  rw [x46_45]
  simp only [x46_47, x46_48, x46_51, x46_52, x46_55, x46_57, x46_58, x46_61, x46_64, x46_65, x46_66, x46_68, x46_71, x46_72, x46_75, Option.toList_some, Option.toList_none, List.cons_append, List.nil_append, cat_i, cat_r, cat_n, cat_f, cs_n, cs_i, cs_r, cs_l, cs_f, Nat.reduceAdd, Nat.reduceLeDiff, Nat.zero_le, if_true, if_false, true_or, or_true, am_wr_at, Nat.reduceEqDiff, not_true_eq_false, not_false_eq_true, i_one, ite_not, bI_z, bI_nz, bI_t, bI_f, bI_or, Bool.false_eq_true, Bool.true_eq_false, reduceCtorEq, e1, hl1, e2, e3, e4, hacc, nI_1]
theorem w46y (hl1 : (sv 1).1 = 4) (hlt : ∀ t, t < 4 → (sv 1).2 t = nI (ltr t)) (ht : t < 4) (hacc : ∀ Q, AM sv 49 [.ref 65, .int (nI (ltr t))] (am_toH ρ) Q = Q (some (.int 1)) (am_toH ρ')) (hadm : ∀ Q, AM sv 8 [.ref 51, .int s, .int (nI t)] (am_toH ρ') Q = Q none (am_toH ρ'')) : AW sv 46 45 [.ref 65, .ref 51, .int f, .int s, .int (nI t)] [] (am_toH ρ) 0 0 Q = Q none (am_toH ρ'') := by
  have e1 : ¬ 4 ≤ nI t := nI_ge (b := 4) ht (by decide)
  have e2 : am_in (nI t) 4 = true := nI_in' ht (by omega)
  have e3 : (nI t).toNatClampNeg = t := nI_clamp (by omega)
  have e4 := hlt t ht
  rw [x46_45]
  simp only [x46_47, x46_48, x46_51, x46_52, x46_55, x46_57, x46_58, x46_61, x46_64, x46_65, x46_66, x46_68, x46_71, x46_72, x46_75, Option.toList_some, Option.toList_none, List.cons_append, List.nil_append, cat_i, cat_r, cat_n, cat_f, cs_n, cs_i, cs_r, cs_l, cs_f, Nat.reduceAdd, Nat.reduceLeDiff, Nat.zero_le, if_true, if_false, true_or, or_true, am_wr_at, Nat.reduceEqDiff, not_true_eq_false, not_false_eq_true, i_one, ite_not, bI_z, bI_nz, bI_t, bI_f, bI_or, Bool.false_eq_true, Bool.true_eq_false, reduceCtorEq, st44, e1, hl1, e2, e3, e4, hacc, hadm]
theorem w46e : AW sv 46 45 [.ref 65, .ref 51, .int f, .int s, .int (nI 4)] [] (am_toH (cT σ a st)) 0 0 Q = Q none (am_toH (cT σ a true)) := by
  have e1 : (4 : Int32) ≤ nI 4 := by decide
  rw [x46_45]
  simp only [x46_47, x46_48, x46_78, x46_79, x46_80, x46_83, Option.toList_some, Option.toList_none, List.cons_append, List.nil_append, cat_i, cat_r, cat_n, cat_f, cs_n, cs_i, cs_r, cs_l, cs_f, Nat.reduceAdd, Nat.reduceLeDiff, Nat.zero_le, if_true, if_false, true_or, or_true, am_wr_at, Nat.reduceEqDiff, not_true_eq_false, not_false_eq_true, i_one, ite_not, bI_z, bI_nz, bI_t, bI_f, bI_or, Bool.false_eq_true, Bool.true_eq_false, reduceCtorEq, e1, cT_w31, am_one_t]
theorem ltr_rg : ∀ t, t < 4 → 33 ≤ ltr t ∧ ltr t ≤ 126 := by decide
theorem ltr_inj : ∀ t, t < 4 → ∀ u, u < 4 → ltr t = ltr u → t = u := by decide
/-- none of the letters -/
theorem c46n (hG : okG g L) (hl1 : (sv 1).1 = 4) (hlt : ∀ t, t < 4 → (sv 1).2 t = nI (ltr t)) (hx : NX sv g L a2 a3) (hT : TC g L σ) (hn : ∀ t, t < 4 → ¬ (a3 < L ∧ g a3 = ltr t)) : AW sv 46 45 [.ref 65, .ref 51, .int f, .int s, .int 0] [] (am_toH (cT σ a2 false)) 0 0 Q = Q none (am_toH (cT σ a3 true)) := by
  have hf := NX_fix (sv := sv) hG hx.2.1 hx.2.2.1
  have z0 := fun Q => (hs_n (c := nI (ltr 0)) hG rfl (ltr_rg 0 (by decide)).1 (ltr_rg 0 (by decide)).2 hx (hn 0 (by decide))).1 σ Q hT
  have z1 := fun Q => (hs_n (c := nI (ltr 1)) hG rfl (ltr_rg 1 (by decide)).1 (ltr_rg 1 (by decide)).2 hf (hn 1 (by decide))).1 σ Q hT
  have z2 := fun Q => (hs_n (c := nI (ltr 2)) hG rfl (ltr_rg 2 (by decide)).1 (ltr_rg 2 (by decide)).2 hf (hn 2 (by decide))).1 σ Q hT
  have z3 := fun Q => (hs_n (c := nI (ltr 3)) hG rfl (ltr_rg 3 (by decide)).1 (ltr_rg 3 (by decide)).2 hf (hn 3 (by decide))).1 σ Q hT
  exact (w46n (t := 0) hl1 hlt (by decide) z0).trans ((w46n (t := 1) hl1 hlt (by decide) z1).trans ((w46n (t := 2) hl1 hlt (by decide) z2).trans ((w46n (t := 3) hl1 hlt (by decide) z3).trans w46e)))
theorem c8T (h51 : σ.1 51 3 = nI m) (hm : m < 12) {kd : Nat} : AM sv 8 [.ref 51, .int s, .int (nI kd)] (am_toH (cT σ a st)) Q = Q none (am_toH (cT (adm σ m s kd) a st)) := by
  have h1 : (cT σ a st).1 (44 + 7) 3 = nI m := by
    show (cT σ a st).1 51 3 = nI m
    rw [cT_k (by decide)]
    exact h51
  have c := s8 (sv := sv) (σ := cT σ a st) (Q := Q) (x := s) (y := nI kd) st44 h1 hm
  simp only [Nat.reduceAdd] at c
  rw [c, cT_k (by decide), cT_k (by decide), cT_k (by decide), cT_k (by decide), cT_wr f52, cT_wr f53, cT_wr f54, cT_wr f51]
  rfl
/-- one of the letters -/
theorem c46y (hG : okG g L) (hl1 : (sv 1).1 = 4) (hlt : ∀ t, t < 4 → (sv 1).2 t = nI (ltr t)) (hx : NX sv g L a2 a3) (hT : TC g L σ) (h51 : σ.1 51 3 = nI m) (hm : m < 12) {kd : Nat} (hk : kd < 4) (h3 : a3 < L) (hg : g a3 = ltr kd) : AW sv 46 45 [.ref 65, .ref 51, .int f, .int s, .int 0] [] (am_toH (cT σ a2 false)) 0 0 Q = Q none (am_toH (cT (adm σ m s kd) (a3 + 1) false)) := by
  have hf := NX_fix (sv := sv) hG hx.2.1 hx.2.2.1
  have nn : ∀ t, t < 4 → t ≠ kd → ¬ (a3 < L ∧ g a3 = ltr t) := fun t ht q c => q (ltr_inj t ht kd hk (c.2.symm.trans hg))
  have n0 : ∀ t, t < 4 → t ≠ kd → ∀ Q, AM sv 49 [.ref 65, .int (nI (ltr t))] (am_toH (cT σ a2 false)) Q = Q (some (.int 0)) (am_toH (cT σ a3 false)) := fun t ht q Q => (hs_n (c := nI (ltr t)) hG rfl (ltr_rg t ht).1 (ltr_rg t ht).2 hx (nn t ht q)).1 σ Q hT
  have n1 : ∀ t, t < 4 → t ≠ kd → ∀ Q, AM sv 49 [.ref 65, .int (nI (ltr t))] (am_toH (cT σ a3 false)) Q = Q (some (.int 0)) (am_toH (cT σ a3 false)) := fun t ht q Q => (hs_n (c := nI (ltr t)) hG rfl (ltr_rg t ht).1 (ltr_rg t ht).2 hf (nn t ht q)).1 σ Q hT
  have y0 : ∀ Q, AM sv 49 [.ref 65, .int (nI (ltr kd))] (am_toH (cT σ a2 false)) Q = Q (some (.int 1)) (am_toH (cT σ (a3 + 1) false)) := fun Q => (hs_y (c := nI (ltr kd)) hG rfl hx h3 hg).1 σ Q hT
  have y1 : ∀ Q, AM sv 49 [.ref 65, .int (nI (ltr kd))] (am_toH (cT σ a3 false)) Q = Q (some (.int 1)) (am_toH (cT σ (a3 + 1) false)) := fun Q => (hs_y (c := nI (ltr kd)) hG rfl hf h3 hg).1 σ Q hT
  have ad : ∀ Q, AM sv 8 [.ref 51, .int s, .int (nI kd)] (am_toH (cT σ (a3 + 1) false)) Q = Q none (am_toH (cT (adm σ m s kd) (a3 + 1) false)) := fun Q => c8T h51 hm
  rcases (show kd = 0 ∨ kd = 1 ∨ kd = 2 ∨ kd = 3 by omega) with rfl | rfl | rfl | rfl
  · exact w46y (t := 0) hl1 hlt (by decide) y0 ad
  · exact (w46n (t := 0) hl1 hlt (by decide) (n0 0 (by decide) (by decide))).trans (w46y (t := 1) hl1 hlt (by decide) y1 ad)
  · exact (w46n (t := 0) hl1 hlt (by decide) (n0 0 (by decide) (by decide))).trans ((w46n (t := 1) hl1 hlt (by decide) (n1 1 (by decide) (by decide))).trans (w46y (t := 2) hl1 hlt (by decide) y1 ad))
  · exact (w46n (t := 0) hl1 hlt (by decide) (n0 0 (by decide) (by decide))).trans ((w46n (t := 1) hl1 hlt (by decide) (n1 1 (by decide) (by decide))).trans ((w46n (t := 2) hl1 hlt (by decide) (n1 2 (by decide) (by decide))).trans (w46y (t := 3) hl1 hlt (by decide) y1 ad)))
/-- stuck: no letter is taken -/
theorem c46s (hl1 : (sv 1).1 = 4) (hlt : ∀ t, t < 4 → (sv 1).2 t = nI (ltr t)) : AW sv 46 45 [.ref 65, .ref 51, .int f, .int s, .int 0] [] (am_toH (cT σ a true)) 0 0 Q = Q none (am_toH (cT σ a true)) := by
  have z := fun c Q => (hs_st (sv := sv) (a := a) (c := c)).1 σ Q
  exact (w46n (t := 0) hl1 hlt (by decide) (z _)).trans ((w46n (t := 1) hl1 hlt (by decide) (z _)).trans ((w46n (t := 2) hl1 hlt (by decide) (z _)).trans ((w46n (t := 3) hl1 hlt (by decide) (z _)).trans w46e)))
/-! the reference -/
theorem m126s (hk : k + 6 ≤ 48) : AW sv 126 95 [.ref 71, .int (nI k), .int f, .int s, .int j] [] (am_toH (mT τ a true)) 0 0 Q = Q none (am_toH (mT (am_wr τ 80 (upd (τ.1 80) (k + 1) (-4))) a true)) := by
  have k2 : am_in (nI (k + 1)) 48 = true := nI_in' (by omega) (by omega)
  have k3 : (nI (k + 1)).toNatClampNeg = k + 1 := nI_clamp (by omega)
  have y1 : ((0 : Int32) = 112) = False := eq_false (by decide)
  have y2 : ((0 : Int32) = 119) = False := eq_false (by decide)
  have y3 : ((0 : Int32) = 99) = False := eq_false (by decide)
  have y4 : ((0 : Int32) = 120) = False := eq_false (by decide)
  simp only [x126_95, x126_96, x126_99, x126_102, x126_103, x126_106, x126_107, x126_110, x126_112, x126_113, x126_116, x126_117, x126_118, x126_119, x126_121, x126_123, x126_126, x126_127, x126_130, x126_132, x126_134, x126_137, x126_138, x126_141, x126_143, x126_145, x126_148, x126_149, x126_152, x126_154, x126_156, x126_159, x126_160, x126_163, x126_165, x126_166, x126_167, x126_168, x126_171, x126_174, x126_175, x126_178, x126_179, x126_180, x126_181, x126_182, x126_185, x126_186, x126_189, x126_190, x126_193, x126_194, x126_195, x126_198, x126_199, x126_202, x126_205, x126_206, x126_209, x126_210, x126_211, x126_214, Option.toList_some, Option.toList_none, List.cons_append, List.nil_append, cat_i, cat_r, cat_n, cat_f, cs_n, cs_i, cs_r, cs_l, cs_f, Nat.reduceAdd, Nat.reduceLeDiff, Nat.zero_le, if_true, if_false, true_or, or_true, am_wr_at, Nat.reduceEqDiff, not_true_eq_false, not_false_eq_true, i_one, ite_not, bI_z, bI_nz, bI_t, bI_f, bI_or, Bool.false_eq_true, Bool.true_eq_false, reduceCtorEq, lc80, mT_12, y1, y2, y3, y4, nI_1, k2, k3, mT_wr f80, mT_80, mT_w121, mT_11, Int32.add_zero, mT_w11, am_one_t]
theorem m126l (hG : okG g L) (hk : k + 6 ≤ 48) (hx : NX sv g L a2 a3) (hT : TM g L τ) : AW sv 126 95 [.ref 71, .int (nI k), .int f, .int s, .int j] [] (am_toH (mT τ a2 false)) 0 0 Q = AW sv 126 165 [.ref 71, .int (nI k), .int f, .int s, .int (if a3 < L then nI (g a3) else 0)] [.int (if a3 < L ∧ g a3 = 112 then 0 else if a3 < L ∧ g a3 = 119 then 1 else if a3 < L ∧ g a3 = 99 then 2 else if a3 < L ∧ g a3 = 120 then 3 else -4), .int (nI (k + 1)), .ref 80] (am_toH (mT τ a3 false)) 0 0 Q := by
  obtain ⟨-, -, -, -, z5⟩ := hx
  have d := fun Q => z5 τ false Q hT
  by_cases q : a3 < L
  · have gl := hG.2 a3 q
    have e : ∀ c : Nat, c ≤ 126 → (nI (g a3) = nI c) = (g a3 = c) := fun c hc => propext (nI_eq (by omega) (by omega))
    have e1 : (nI (g a3) = 112) = (g a3 = 112) := e 112 (by decide)
    have e2 : (nI (g a3) = 119) = (g a3 = 119) := e 119 (by decide)
    have e3 : (nI (g a3) = 99) = (g a3 = 99) := e 99 (by decide)
    have e4 : (nI (g a3) = 120) = (g a3 = 120) := e 120 (by decide)
    simp only [q, if_true, true_and] at d ⊢
    by_cases p1 : g a3 = 112
    · simp only [x126_95, x126_96, x126_99, x126_102, x126_103, x126_106, x126_107, x126_110, x126_112, x126_113, x126_116, x126_117, x126_118, x126_119, x126_121, x126_123, x126_126, x126_127, x126_130, x126_132, x126_134, x126_137, x126_138, x126_141, x126_143, x126_145, x126_148, x126_149, x126_152, x126_154, x126_156, x126_159, x126_160, x126_163, Option.toList_some, Option.toList_none, List.cons_append, List.nil_append, cat_i, cat_r, cat_n, cat_f, cs_n, cs_i, cs_r, cs_l, cs_f, Nat.reduceAdd, Nat.reduceLeDiff, Nat.zero_le, if_true, if_false, true_or, or_true, am_wr_at, Nat.reduceEqDiff, not_true_eq_false, not_false_eq_true, i_one, ite_not, bI_z, bI_nz, bI_t, bI_f, bI_or, Bool.false_eq_true, Bool.true_eq_false, reduceCtorEq, mT_12, d, nI_1, e1, eq_true p1]
    · by_cases p2 : g a3 = 119
      · simp only [x126_95, x126_96, x126_99, x126_102, x126_103, x126_106, x126_107, x126_110, x126_112, x126_113, x126_116, x126_117, x126_118, x126_119, x126_121, x126_123, x126_126, x126_127, x126_130, x126_132, x126_134, x126_137, x126_138, x126_141, x126_143, x126_145, x126_148, x126_149, x126_152, x126_154, x126_156, x126_159, x126_160, x126_163, Option.toList_some, Option.toList_none, List.cons_append, List.nil_append, cat_i, cat_r, cat_n, cat_f, cs_n, cs_i, cs_r, cs_l, cs_f, Nat.reduceAdd, Nat.reduceLeDiff, Nat.zero_le, if_true, if_false, true_or, or_true, am_wr_at, Nat.reduceEqDiff, not_true_eq_false, not_false_eq_true, i_one, ite_not, bI_z, bI_nz, bI_t, bI_f, bI_or, Bool.false_eq_true, Bool.true_eq_false, reduceCtorEq, mT_12, d, nI_1, e1, e2, eq_false p1, eq_true p2]
      · by_cases p3 : g a3 = 99
        · simp only [x126_95, x126_96, x126_99, x126_102, x126_103, x126_106, x126_107, x126_110, x126_112, x126_113, x126_116, x126_117, x126_118, x126_119, x126_121, x126_123, x126_126, x126_127, x126_130, x126_132, x126_134, x126_137, x126_138, x126_141, x126_143, x126_145, x126_148, x126_149, x126_152, x126_154, x126_156, x126_159, x126_160, x126_163, Option.toList_some, Option.toList_none, List.cons_append, List.nil_append, cat_i, cat_r, cat_n, cat_f, cs_n, cs_i, cs_r, cs_l, cs_f, Nat.reduceAdd, Nat.reduceLeDiff, Nat.zero_le, if_true, if_false, true_or, or_true, am_wr_at, Nat.reduceEqDiff, not_true_eq_false, not_false_eq_true, i_one, ite_not, bI_z, bI_nz, bI_t, bI_f, bI_or, Bool.false_eq_true, Bool.true_eq_false, reduceCtorEq, mT_12, d, nI_1, e1, e2, e3, eq_false p1, eq_false p2, eq_true p3]
        · by_cases p4 : g a3 = 120
          · simp only [x126_95, x126_96, x126_99, x126_102, x126_103, x126_106, x126_107, x126_110, x126_112, x126_113, x126_116, x126_117, x126_118, x126_119, x126_121, x126_123, x126_126, x126_127, x126_130, x126_132, x126_134, x126_137, x126_138, x126_141, x126_143, x126_145, x126_148, x126_149, x126_152, x126_154, x126_156, x126_159, x126_160, x126_163, Option.toList_some, Option.toList_none, List.cons_append, List.nil_append, cat_i, cat_r, cat_n, cat_f, cs_n, cs_i, cs_r, cs_l, cs_f, Nat.reduceAdd, Nat.reduceLeDiff, Nat.zero_le, if_true, if_false, true_or, or_true, am_wr_at, Nat.reduceEqDiff, not_true_eq_false, not_false_eq_true, i_one, ite_not, bI_z, bI_nz, bI_t, bI_f, bI_or, Bool.false_eq_true, Bool.true_eq_false, reduceCtorEq, mT_12, d, nI_1, e1, e2, e3, e4, eq_false p1, eq_false p2, eq_false p3, eq_true p4]
          · simp only [x126_95, x126_96, x126_99, x126_102, x126_103, x126_106, x126_107, x126_110, x126_112, x126_113, x126_116, x126_117, x126_118, x126_119, x126_121, x126_123, x126_126, x126_127, x126_130, x126_132, x126_134, x126_137, x126_138, x126_141, x126_143, x126_145, x126_148, x126_149, x126_152, x126_154, x126_156, x126_159, x126_160, x126_163, Option.toList_some, Option.toList_none, List.cons_append, List.nil_append, cat_i, cat_r, cat_n, cat_f, cs_n, cs_i, cs_r, cs_l, cs_f, Nat.reduceAdd, Nat.reduceLeDiff, Nat.zero_le, if_true, if_false, true_or, or_true, am_wr_at, Nat.reduceEqDiff, not_true_eq_false, not_false_eq_true, i_one, ite_not, bI_z, bI_nz, bI_t, bI_f, bI_or, Bool.false_eq_true, Bool.true_eq_false, reduceCtorEq, mT_12, d, nI_1, e1, e2, e3, e4, eq_false p1, eq_false p2, eq_false p3, eq_false p4]
  · have y1 : ((0 : Int32) = 112) = False := eq_false (by decide)
    have y2 : ((0 : Int32) = 119) = False := eq_false (by decide)
    have y3 : ((0 : Int32) = 99) = False := eq_false (by decide)
    have y4 : ((0 : Int32) = 120) = False := eq_false (by decide)
    simp only [q, if_false, false_and] at d ⊢
    simp only [x126_95, x126_96, x126_99, x126_102, x126_103, x126_106, x126_107, x126_110, x126_112, x126_113, x126_116, x126_117, x126_118, x126_119, x126_121, x126_123, x126_126, x126_127, x126_130, x126_132, x126_134, x126_137, x126_138, x126_141, x126_143, x126_145, x126_148, x126_149, x126_152, x126_154, x126_156, x126_159, x126_160, x126_163, Option.toList_some, Option.toList_none, List.cons_append, List.nil_append, cat_i, cat_r, cat_n, cat_f, cs_n, cs_i, cs_r, cs_l, cs_f, Nat.reduceAdd, Nat.reduceLeDiff, Nat.zero_le, if_true, if_false, true_or, or_true, am_wr_at, Nat.reduceEqDiff, not_true_eq_false, not_false_eq_true, i_one, ite_not, bI_z, bI_nz, bI_t, bI_f, bI_or, Bool.false_eq_true, Bool.true_eq_false, reduceCtorEq, mT_12, d, nI_1, y1, y2, y3, y4]
theorem m126y (hk : k + 6 ≤ 48) {kd : Nat} (hd : kd < 4) : AW sv 126 165 [.ref 71, .int (nI k), .int f, .int s, .int j] [.int (nI kd), .int (nI (k + 1)), .ref 80] (am_toH (mT τ a false)) 0 0 Q = Q none (am_toH (mT (am_wr τ 80 (upd (τ.1 80) (k + 1) (nI kd))) (a + 1) false)) := by
  have k2 : am_in (nI (k + 1)) 48 = true := nI_in' (by omega) (by omega)
  have k3 : (nI (k + 1)).toNatClampNeg = k + 1 := nI_clamp (by omega)
  have y : (0 : Int32) ≤ nI kd := nI_pos' (by omega)
  simp only [x126_165, x126_166, x126_167, x126_168, x126_171, x126_174, x126_175, x126_178, x126_179, x126_180, x126_181, x126_182, x126_185, x126_186, x126_189, x126_190, x126_193, x126_194, x126_195, x126_198, x126_199, x126_202, x126_205, x126_206, x126_209, x126_210, x126_211, x126_214, Option.toList_some, Option.toList_none, List.cons_append, List.nil_append, cat_i, cat_r, cat_n, cat_f, cs_n, cs_i, cs_r, cs_l, cs_f, Nat.reduceAdd, Nat.reduceLeDiff, Nat.zero_le, if_true, if_false, true_or, or_true, am_wr_at, Nat.reduceEqDiff, not_true_eq_false, not_false_eq_true, i_one, ite_not, bI_z, bI_nz, bI_t, bI_f, bI_or, Bool.false_eq_true, Bool.true_eq_false, reduceCtorEq, lc80, mT_12, nI_1, k2, k3, mT_wr f80, mT_80, upd_at, y, mT_w120, mT_11, mT_w11, am_zero_t]
theorem m126n (hk : k + 6 ≤ 48) : AW sv 126 165 [.ref 71, .int (nI k), .int f, .int s, .int j] [.int (-4), .int (nI (k + 1)), .ref 80] (am_toH (mT τ a false)) 0 0 Q = Q none (am_toH (mT (am_wr τ 80 (upd (τ.1 80) (k + 1) (-4))) a true)) := by
  have k2 : am_in (nI (k + 1)) 48 = true := nI_in' (by omega) (by omega)
  have k3 : (nI (k + 1)).toNatClampNeg = k + 1 := nI_clamp (by omega)
  have y : ¬ (0 : Int32) ≤ -4 := by decide
  simp only [x126_165, x126_166, x126_167, x126_168, x126_171, x126_174, x126_175, x126_178, x126_179, x126_180, x126_181, x126_182, x126_185, x126_186, x126_189, x126_190, x126_193, x126_194, x126_195, x126_198, x126_199, x126_202, x126_205, x126_206, x126_209, x126_210, x126_211, x126_214, Option.toList_some, Option.toList_none, List.cons_append, List.nil_append, cat_i, cat_r, cat_n, cat_f, cs_n, cs_i, cs_r, cs_l, cs_f, Nat.reduceAdd, Nat.reduceLeDiff, Nat.zero_le, if_true, if_false, true_or, or_true, am_wr_at, Nat.reduceEqDiff, not_true_eq_false, not_false_eq_true, i_one, ite_not, bI_z, bI_nz, bI_t, bI_f, bI_or, Bool.false_eq_true, Bool.true_eq_false, reduceCtorEq, lc80, mT_12, nI_1, k2, k3, mT_wr f80, mT_80, upd_at, y, mT_w121, mT_11, Int32.add_zero, mT_w11, am_one_t]
/-- the reference up to where it is known whether the seat is taken -/
theorem m126a {c n0 v' : Nat} {s2 : Bool} (hG : okG g L) (hc : c < 8) (hn : n0 ≤ 8) (hx : NX sv g L a a1) (hT : TM g L τ) (h7 : τ.1 71 7 = nI n0) (hN : ∀ σ Q, TM g L σ → AM sv 122 [.ref 71, .int (nI (12 - 1))] (am_toH (mT σ a1 false)) Q = Q (some (.int (nI v'))) (am_toH (mT σ a2 s2))) : AM sv 126 [.ref 71, .int (nI (6 * c))] (am_toH (mT τ a false)) Q = AW sv 126 74 [.ref 71, .int (nI (6 * c)), .int (nI a1), .int (bI (tak (fun w => τ.1 78 (3 * w)) (nI v') n0 || tak (fun i => τ.1 80 (6 * i)) (nI v') c)), .int (nI (6 * c))] [] (am_toH (mT (am_wr τ 80 (upd (τ.1 80) (6 * c) (nI v'))) a2 s2)) 0 0 Q := by
  obtain ⟨-, -, -, -, z5⟩ := hx
  have d := fun Q => z5 τ false Q hT
  have n11 : nI (12 - 1) = 11 := rfl
  rw [n11] at hN
  have dN := fun Q => hN τ Q hT
  have k2 : am_in (nI (6 * c)) 48 = true := nI_in' (by omega) (by omega)
  have k3 : (nI (6 * c)).toNatClampNeg = 6 * c := nI_clamp (by omega)
  have h7' : (mT (am_wr τ 80 (upd (τ.1 80) (6 * c) (nI v'))) a2 s2).1 71 7 = nI n0 := by
    rw [mT_7, am_wr_ne (by decide)]
    exact h7
  have t113 := fun Q => s113 (sv := sv) (Q := Q) (x := nI v') h7' hn
  simp only [mT_78, Option.toList_some, Option.toList_none, List.cons_append, List.nil_append, cat_i, cat_r, cat_n, cat_f, cs_n, cs_i, cs_r, cs_l, cs_f, Nat.reduceAdd, Nat.reduceLeDiff, Nat.zero_le, if_true, if_false, true_or, or_true, am_wr_at, Nat.reduceEqDiff, not_true_eq_false, not_false_eq_true, i_one, ite_not, bI_z, bI_nz, bI_t, bI_f, bI_or, Bool.false_eq_true, Bool.true_eq_false, reduceCtorEq] at t113
  have st : AM sv 126 [.ref 71, .int (nI (6 * c))] (am_toH (mT τ a false)) Q = AW sv 126 36 [.ref 71, .int (nI (6 * c)), .int (nI a1), .int (bI (tak (fun w => τ.1 78 (3 * w)) (nI v') n0)), .int 0] [] (am_toH (mT (am_wr τ 80 (upd (τ.1 80) (6 * c) (nI v'))) a2 s2)) 0 0 Q := by
    rw [n126]
    simp only [x126_0, x126_1, x126_4, x126_5, x126_6, x126_9, x126_10, x126_11, x126_14, x126_15, x126_16, x126_18, x126_21, x126_22, x126_23, x126_24, x126_27, x126_28, x126_29, x126_32, x126_33, x126_34, Option.toList_some, Option.toList_none, List.cons_append, List.nil_append, cat_i, cat_r, cat_n, cat_f, cs_n, cs_i, cs_r, cs_l, cs_f, Nat.reduceAdd, Nat.reduceLeDiff, Nat.zero_le, if_true, if_false, true_or, or_true, am_wr_at, Nat.reduceEqDiff, not_true_eq_false, not_false_eq_true, i_one, ite_not, bI_z, bI_nz, bI_t, bI_f, bI_or, Bool.false_eq_true, Bool.true_eq_false, reduceCtorEq, lc80, d, mT_11, dN, k2, k3, mT_wr f80, mT_80, upd_at, t113]
  have key := am_up (N := c) (f := fun i => AW sv 126 36 [.ref 71, .int (nI (6 * c)), .int (nI a1), .int (bI (tak (fun w => τ.1 78 (3 * w)) (nI v') n0 || tak (fun i => τ.1 80 (6 * i)) (nI v') i)), .int (nI (6 * i))] [] (am_toH (mT (am_wr τ 80 (upd (τ.1 80) (6 * c) (nI v'))) a2 s2)) 0 0 Q) (by
    intro i hi
    have e1 : ¬ nI (6 * c) ≤ nI (6 * i) := nI_ge (by omega) (by omega)
    have i2 : am_in (nI (6 * i)) 48 = true := nI_in' (by omega) (by omega)
    have i3 : (nI (6 * i)).toNatClampNeg = 6 * i := nI_clamp (by omega)
    have ne : (6 * i = 6 * c) = False := eq_false (by omega)
    rw [show 6 * (i + 1) = 6 * i + 6 by omega, x126_36]
    show _ = AW sv 126 36 [.ref 71, .int (nI (6 * c)), .int (nI a1), .int (bI (tak (fun w => τ.1 78 (3 * w)) (nI v') n0 || (tak (fun i => τ.1 80 (6 * i)) (nI v') i || decide (τ.1 80 (6 * i) = nI v')))), .int (nI (6 * i + 6))] [] (am_toH (mT (am_wr τ 80 (upd (τ.1 80) (6 * c) (nI v'))) a2 s2)) 0 0 Q
    rw [← Bool.or_assoc]
    generalize (tak (fun w => τ.1 78 (3 * w)) (nI v') n0 || tak (fun i => τ.1 80 (6 * i)) (nI v') i) = tk
    cases tk with
    | true => simp only [x126_38, x126_39, x126_42, x126_43, x126_46, x126_47, x126_50, x126_52, x126_53, x126_54, x126_57, x126_58, x126_59, x126_62, x126_63, x126_66, x126_67, x126_68, x126_71, Option.toList_some, Option.toList_none, List.cons_append, List.nil_append, cat_i, cat_r, cat_n, cat_f, cs_n, cs_i, cs_r, cs_l, cs_f, Nat.reduceAdd, Nat.reduceLeDiff, Nat.zero_le, if_true, if_false, true_or, or_true, am_wr_at, Nat.reduceEqDiff, not_true_eq_false, not_false_eq_true, i_one, ite_not, bI_z, bI_nz, bI_t, bI_f, bI_or, Bool.false_eq_true, Bool.true_eq_false, reduceCtorEq, e1, nI_p6, Bool.true_or]
    | false =>
      by_cases q : τ.1 80 (6 * i) = nI v'
      · have q' : (τ.1 80 (6 * i) = nI v') = True := eq_true q
        have q2 : decide (τ.1 80 (6 * i) = nI v') = true := decide_eq_true q
        simp only [x126_38, x126_39, x126_42, x126_43, x126_46, x126_47, x126_50, x126_52, x126_53, x126_54, x126_57, x126_58, x126_59, x126_62, x126_63, x126_66, x126_67, x126_68, x126_71, Option.toList_some, Option.toList_none, List.cons_append, List.nil_append, cat_i, cat_r, cat_n, cat_f, cs_n, cs_i, cs_r, cs_l, cs_f, Nat.reduceAdd, Nat.reduceLeDiff, Nat.zero_le, if_true, if_false, true_or, or_true, am_wr_at, Nat.reduceEqDiff, not_true_eq_false, not_false_eq_true, i_one, ite_not, bI_z, bI_nz, bI_t, bI_f, bI_or, Bool.false_eq_true, Bool.true_eq_false, reduceCtorEq, lc80, e1, i2, i3, k2, k3, mT_80, upd_at, ne, q', decide_true, decide_false, nI_p6, Bool.false_or]
      · have q' : (τ.1 80 (6 * i) = nI v') = False := eq_false q
        have q2 : decide (τ.1 80 (6 * i) = nI v') = false := decide_eq_false q
        simp only [x126_38, x126_39, x126_42, x126_43, x126_46, x126_47, x126_50, x126_52, x126_53, x126_54, x126_57, x126_58, x126_59, x126_62, x126_63, x126_66, x126_67, x126_68, x126_71, Option.toList_some, Option.toList_none, List.cons_append, List.nil_append, cat_i, cat_r, cat_n, cat_f, cs_n, cs_i, cs_r, cs_l, cs_f, Nat.reduceAdd, Nat.reduceLeDiff, Nat.zero_le, if_true, if_false, true_or, or_true, am_wr_at, Nat.reduceEqDiff, not_true_eq_false, not_false_eq_true, i_one, ite_not, bI_z, bI_nz, bI_t, bI_f, bI_or, Bool.false_eq_true, Bool.true_eq_false, reduceCtorEq, lc80, e1, i2, i3, k2, k3, mT_80, upd_at, ne, q', decide_true, decide_false, nI_p6, Bool.false_or]) c (Nat.le_refl _)
  have e1 : nI (6 * c) ≤ nI (6 * c) := nI_le (by omega) (by omega)
  rw [st]
  simp only [tak, Bool.or_false, Nat.mul_zero, nI_0] at key
  refine key.trans ?_
  rw [x126_36]
  simp only [x126_38, x126_39, Option.toList_some, Option.toList_none, List.cons_append, List.nil_append, cat_i, cat_r, cat_n, cat_f, cs_n, cs_i, cs_r, cs_l, cs_f, Nat.reduceAdd, Nat.reduceLeDiff, Nat.zero_le, if_true, if_false, true_or, or_true, am_wr_at, Nat.reduceEqDiff, not_true_eq_false, not_false_eq_true, i_one, ite_not, bI_z, bI_nz, bI_t, bI_f, bI_or, Bool.false_eq_true, Bool.true_eq_false, reduceCtorEq, e1]
end I79
