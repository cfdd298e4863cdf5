/-! COVERS LAID ON; DOES -/
def lyS (V : Nat → Nat → Int32) (c : Nat) (W : Nat → Nat → Int32) : Nat → Nat → Int32 :=
  if V 11 c = 0 then vset W 0 (V 10 c).toNatClampNeg (10 * V 12 c + 6) else if V 11 c = 1 then vset W 2 (V 10 c).toNatClampNeg (1 + V 12 c) else if V 11 c = 2 then vset W 3 (V 10 c).toNatClampNeg (1 + V 12 c) else vset W 4 (V 10 c).toNatClampNeg 1
def lyF (V : Nat → Nat → Int32) (s : Nat) : Nat → Nat → Nat → Int32
  | 0 => V
  | c + 1 => if s.testBit c = true then lyS V c (lyF V s c) else lyF V s c
def lyE (V : Nat → Nat → Int32) (s : Nat) : Int32 := saF (lyF V s (V 9 2).toNatClampNeg) 1 16
def csF (V : Nat → Nat → Int32) (s : Nat) : Nat → Int32
  | 0 => 0
  | c + 1 => if s.testBit c = true then csF V s c + V 13 c else csF V s c
theorem ly_0 {V : Nat → Nat → Int32} : ∀ c, lyF V 0 c = V := by
  intro c
  induction c with
  | zero => rfl
  | succ c ih =>
    simp only [lyF, Nat.zero_testBit]
    exact ih
theorem cs_0 {V : Nat → Nat → Int32} : ∀ c, csF V 0 c = 0 := by
  intro c
  induction c with
  | zero => rfl
  | succ c ih =>
    simp only [csF, Nat.zero_testBit]
    exact ih
theorem vC {V : Nat → Nat → Int32} (hok : okV V) : ∃ m, m ≤ 8 ∧ V 9 2 = nI m ∧ (V 9 2).toNatClampNeg = m ∧ (∀ x, am_lt x (nI m) = am_in x m) ∧ (∀ x : Int32, am_bt x.toInt64 0 (nI m - 1).toInt64 = am_in x m) := by
  obtain ⟨n, hn, en⟩ := rg_nI (n := 8) (by decide) hok.2.2.2.2.1
  refine ⟨n, hn, en, by rw [en, nI_clamp (by omega)], fun x => lt_in (nI_toInt (by omega)), fun x => bt_in ?_⟩
  rw [Int32.toInt_toInt64, Int32.toInt_sub, nI_toInt (by omega), show (1 : Int32).toInt = 1 by decide, Int.bmod_eq_of_le (by omega) (by omega)]
  omega
theorem vCv {V : Nat → Nat → Int32} (hok : okV V) {c : Nat} (hc : c < (V 9 2).toNatClampNeg) : V 10 c = nI (V 10 c).toNatClampNeg ∧ (V 10 c).toNatClampNeg < 16 ∧ (V 11 c = 0 ∨ V 11 c = 1 ∨ V 11 c = 2 ∨ V 11 c = 3) ∧ deed (10 * V 12 c + 6) ∧ rg (1 + V 12 c) 0 4 := by
  obtain ⟨q1, q2, q3, q4⟩ := hok.2.2.2.2.2.2.2.1 c hc
  obtain ⟨x, hx, ex⟩ := rg_nI (n := 15) (by decide) q1
  obtain ⟨y, hy, ey⟩ := rg_nI (n := 3) (by decide) q2
  obtain ⟨z, hz, ez⟩ := rg_nI (n := 3) (by decide) q3
  rw [ex, ey, ez, nI_clamp (by omega)]
  refine ⟨rfl, by omega, ?_, Or.inr ⟨z, 6, by omega, by decide, by decide, ?_⟩, ?_⟩
  · rcases (show y = 0 ∨ y = 1 ∨ y = 2 ∨ y = 3 by omega) with rfl | rfl | rfl | rfl <;> decide
  · show nI 10 * nI z + nI 6 = _
    rw [oN_mul, nI_add]
  · show rg (nI 1 + nI z) 0 4
    rw [nI_add, rg, nI_toInt (by omega)]
    omega
theorem okV_lyS {V W : Nat → Nat → Int32} (hok : okV V) {c : Nat} (hc : c < (V 9 2).toNatClampNeg) (h : okV W) : okV (lyS V c W) := by
  obtain ⟨p1, p2, p3, p4, p5⟩ := vCv hok hc
  unfold lyS
  split
  · exact okV_set h (Or.inl ⟨rfl, p4⟩)
  · split
    · exact okV_set h (Or.inr (Or.inr (Or.inl ⟨rfl, p5⟩)))
    · split
      · exact okV_set h (Or.inr (Or.inr (Or.inr (Or.inl ⟨rfl, p5⟩))))
      · exact okV_set h (Or.inr (Or.inr (Or.inr (Or.inr (Or.inl ⟨rfl, (⟨by decide, by decide⟩ : rg 1 0 1)⟩)))))
theorem okV_ly {V : Nat → Nat → Int32} (hok : okV V) {s : Nat} : ∀ c, c ≤ (V 9 2).toNatClampNeg → okV (lyF V s c) := by
  intro c
  induction c with
  | zero => intro _; exact hok
  | succ c ih =>
    intro hc
    simp only [lyF]
    split
    · exact okV_lyS hok (by omega) (ih (by omega))
    · exact ih (by omega)
set_option maxRecDepth 100000 in
theorem w_bit0 : ∀ m, m < 256 → ∀ c, c < 8 → ((nI m >>> (nI c &&& 31)) &&& 1 = 0 ↔ m.testBit c = false) := by decide +kernel
theorem w_one : ∀ c, c ≤ 8 → (1 : Int32) <<< (nI c &&& 31) = nI (2 ^ c) := by decide +kernel
theorem w_all : ∀ n, n ≤ 8 → nI (2 ^ n) - 1 = nI (2 ^ n - 1) := by decide +kernel
theorem w_rest : ∀ n, n ≤ 8 → ∀ c, c < n → nI (2 ^ n - 1) - nI (2 ^ c) = nI (2 ^ n - 1 - 2 ^ c) ∧ nI (2 ^ n - 1) &&& (nI (2 ^ c) ^^^ -1) = nI (2 ^ n - 1 - 2 ^ c) ∧ 2 ^ n - 1 - 2 ^ c < 256 ∧ 2 ^ n - 1 < 256 ∧ 2 ^ c < 256 := by decide +kernel
section I69
variable {sv : am_V} {h : am_H} {σ τ ρ : am_S} {Q : Option Value → am_H → Prop} {k kd db x : Int32} {a b w o s : Nat} {V W : Nat → Nat → Int32} {v0 v1 v2 v3 : Value} {r : List Value}
theorem x4_27_0 : AW sv 4 27 [v0, v1, v2, v3] (.int 0 :: r) h 0 0 Q = AW sv 4 52 [v0, v1, v2, v3] r h 0 0 Q := e_tin (j := 0) am_h4 dX0_layOn_27 rfl (by decide) rfl rfl
theorem x4_27_1 : AW sv 4 27 [v0, v1, v2, v3] (.int 1 :: r) h 0 0 Q = AW sv 4 78 [v0, v1, v2, v3] r h 0 0 Q := e_tin (j := 1) am_h4 dX0_layOn_27 rfl (by decide) rfl rfl
theorem x4_27_2 : AW sv 4 27 [v0, v1, v2, v3] (.int 2 :: r) h 0 0 Q = AW sv 4 100 [v0, v1, v2, v3] r h 0 0 Q := e_tin (j := 2) am_h4 dX0_layOn_27 rfl (by decide) rfl rfl
theorem x4_27_3 : AW sv 4 27 [v0, v1, v2, v3] (.int 3 :: r) h 0 0 Q = AW sv 4 122 [v0, v1, v2, v3] r h 0 0 Q := e_tout am_h4 dX0_layOn_27 (Or.inr (by decide)) rfl
theorem c4 (hV : cV σ 1 = V) (hT : cV σ 44 = V) (hok : okV V) (hs : s < 256) : ∃ τ : am_S, cV τ 44 = lyF V s (V 9 2).toNatClampNeg ∧ τ.2 = σ.2 ∧ (∀ k, k < 44 ∨ 64 < k → τ.1 k = σ.1 k) ∧ ∀ Q, AM sv 4 [.ref 12, .ref 45, .int (nI s)] (am_toH σ) Q = Q none (am_toH τ) := by
  obtain ⟨m, hm, em, cm, -⟩ := vC hok
  obtain ⟨τ, ⟨v1, v2, v3⟩, e⟩ := am_upE (N := m) (σ := σ) (R := fun i τ => cV τ 44 = lyF V s i ∧ τ.2 = σ.2 ∧ ∀ k, k < 44 ∨ 64 < k → τ.1 k = σ.1 k) (F := fun i τ Q => AW sv 4 2 [.ref 12, .ref 45, .int (nI s), .int (nI i)] [] (am_toH τ) 0 0 Q) ⟨hT, rfl, fun _ _ => rfl⟩ (by
    intro i τ hi R
    obtain ⟨v1, v2, v3⟩ := R
    have hVτ : cV τ 1 = V := (cV_of (fun k q1 q2 => v3 k (by omega)) (by rw [v3 1 (by omega)])).trans hV
    have hi' : i < (V 9 2).toNatClampNeg := by rw [cm]; exact hi
    obtain ⟨p1, p2, p3, p4, p5⟩ := vCv hok hi'
    have h3 : τ.1 12 4 = nI m := (rc hVτ).2.2.1.trans em
    obtain ⟨w10, w11, w12, w13⟩ := rcc hVτ hi'
    have w10 : τ.1 13 i = nI (V 10 i).toNatClampNeg := w10.trans p1
    have w11 : τ.1 14 i = V 11 i := w11
    have w12 : τ.1 15 i = V 12 i := w12
    have e1 : ¬ nI m ≤ nI i := nI_ge hi (by omega)
    have e2 : am_in (nI i) 8 = true := nI_in' (by omega) (by omega)
    have e3 : (nI i).toNatClampNeg = i := nI_clamp (by omega)
    have b2 : am_in (nI (V 10 i).toNatClampNeg) 16 = true := nI_in' p2 (by omega)
    have b3 : (nI (V 10 i).toNatClampNeg).toNatClampNeg = (V 10 i).toNatClampNeg := nI_clamp (by omega)
    have wb := w_bit0 s hs i (by omega)
    simp only [lyF]
    by_cases q : s.testBit i = true
    · have q' : (nI s >>> (nI i &&& 31) &&& 1 = 0) = False := eq_false (fun c => by rw [wb.mp c] at q; cases q)
      have q1 : (s.testBit i = true) = True := eq_true q
      simp only [q1, if_true]
      generalize (V 10 i).toNatClampNeg = bb at *
      rcases p3 with c | c | c | c
      · refine ⟨am_wr τ 46 (upd (τ.1 46) bb (10 * V 12 i + 6)), ⟨?_, v2, fun k q => ?_⟩, fun Q => ?_⟩
        · have g := cV_r0 (σ := τ) (a := 44) (j := bb) (x := 10 * V 12 i + 6) p2
          simp only [Nat.reduceAdd] at g
          rw [g, v1, lyS, if_pos c]
          rw [p1, b3]
        · rw [am_wr_ne (by omega)]
          exact v3 k q
        · rw [x4_2]
          simp only [x4_3, x4_4, x4_7, x4_10, x4_11, x4_12, x4_13, x4_14, x4_15, x4_18, x4_21, x4_22, x4_25, x4_26, x4_52, x4_53, x4_56, x4_57, x4_60, x4_61, x4_62, x4_64, x4_65, x4_68, x4_69, x4_70, x4_71, x4_73, x4_74, x4_75, x4_78, x4_79, x4_82, x4_83, x4_86, x4_87, x4_88, x4_89, x4_90, x4_93, x4_94, x4_95, x4_96, x4_97, x4_100, x4_101, x4_104, x4_105, x4_108, x4_109, x4_110, x4_111, x4_112, x4_115, x4_116, x4_117, x4_118, x4_119, x4_122, x4_123, x4_126, x4_127, x4_130, x4_131, x4_132, x4_133, x4_134, x4_137, x4_27_0, Option.toList_some, Option.toList_none, List.cons_append, List.nil_append, cat_i, cat_r, cat_n, cat_f, cs_n, cs_i, cs_r, cs_l, cs_f, Nat.reduceAdd, Nat.reduceLeDiff, Nat.zero_le, if_true, if_false, true_or, or_true, am_wr_at, Nat.reduceEqDiff, not_true_eq_false, not_false_eq_true, i_one, ite_not, bI_z, bI_nz, bI_t, bI_f, bI_or, Bool.false_eq_true, Bool.true_eq_false, reduceCtorEq, st1, st44, lc13, lc14, lc15, lc46, h3, e1, e2, e3, q', w11, c, w10, w12, b2, b3, nI_1]
      · refine ⟨am_wr τ 48 (upd (τ.1 48) bb (1 + V 12 i)), ⟨?_, v2, fun k q => ?_⟩, fun Q => ?_⟩
        · have g := cV_r2 (σ := τ) (a := 44) (j := bb) (x := 1 + V 12 i) p2
          simp only [Nat.reduceAdd] at g
          rw [g, v1, lyS, if_neg (by rw [c]; decide), if_pos c]
          rw [p1, b3]
        · rw [am_wr_ne (by omega)]
          exact v3 k q
        · rw [x4_2]
          simp only [x4_3, x4_4, x4_7, x4_10, x4_11, x4_12, x4_13, x4_14, x4_15, x4_18, x4_21, x4_22, x4_25, x4_26, x4_52, x4_53, x4_56, x4_57, x4_60, x4_61, x4_62, x4_64, x4_65, x4_68, x4_69, x4_70, x4_71, x4_73, x4_74, x4_75, x4_78, x4_79, x4_82, x4_83, x4_86, x4_87, x4_88, x4_89, x4_90, x4_93, x4_94, x4_95, x4_96, x4_97, x4_100, x4_101, x4_104, x4_105, x4_108, x4_109, x4_110, x4_111, x4_112, x4_115, x4_116, x4_117, x4_118, x4_119, x4_122, x4_123, x4_126, x4_127, x4_130, x4_131, x4_132, x4_133, x4_134, x4_137, x4_27_1, Option.toList_some, Option.toList_none, List.cons_append, List.nil_append, cat_i, cat_r, cat_n, cat_f, cs_n, cs_i, cs_r, cs_l, cs_f, Nat.reduceAdd, Nat.reduceLeDiff, Nat.zero_le, if_true, if_false, true_or, or_true, am_wr_at, Nat.reduceEqDiff, not_true_eq_false, not_false_eq_true, i_one, ite_not, bI_z, bI_nz, bI_t, bI_f, bI_or, Bool.false_eq_true, Bool.true_eq_false, reduceCtorEq, st1, st44, lc13, lc14, lc15, lc48, h3, e1, e2, e3, q', w11, c, w10, w12, b2, b3, nI_1]
      · refine ⟨am_wr τ 49 (upd (τ.1 49) bb (1 + V 12 i)), ⟨?_, v2, fun k q => ?_⟩, fun Q => ?_⟩
        · have g := cV_r3 (σ := τ) (a := 44) (j := bb) (x := 1 + V 12 i) p2
          simp only [Nat.reduceAdd] at g
          rw [g, v1, lyS, if_neg (by rw [c]; decide), if_neg (by rw [c]; decide), if_pos c]
          rw [p1, b3]
        · rw [am_wr_ne (by omega)]
          exact v3 k q
        · rw [x4_2]
          simp only [x4_3, x4_4, x4_7, x4_10, x4_11, x4_12, x4_13, x4_14, x4_15, x4_18, x4_21, x4_22, x4_25, x4_26, x4_52, x4_53, x4_56, x4_57, x4_60, x4_61, x4_62, x4_64, x4_65, x4_68, x4_69, x4_70, x4_71, x4_73, x4_74, x4_75, x4_78, x4_79, x4_82, x4_83, x4_86, x4_87, x4_88, x4_89, x4_90, x4_93, x4_94, x4_95, x4_96, x4_97, x4_100, x4_101, x4_104, x4_105, x4_108, x4_109, x4_110, x4_111, x4_112, x4_115, x4_116, x4_117, x4_118, x4_119, x4_122, x4_123, x4_126, x4_127, x4_130, x4_131, x4_132, x4_133, x4_134, x4_137, x4_27_2, Option.toList_some, Option.toList_none, List.cons_append, List.nil_append, cat_i, cat_r, cat_n, cat_f, cs_n, cs_i, cs_r, cs_l, cs_f, Nat.reduceAdd, Nat.reduceLeDiff, Nat.zero_le, if_true, if_false, true_or, or_true, am_wr_at, Nat.reduceEqDiff, not_true_eq_false, not_false_eq_true, i_one, ite_not, bI_z, bI_nz, bI_t, bI_f, bI_or, Bool.false_eq_true, Bool.true_eq_false, reduceCtorEq, st1, st44, lc13, lc14, lc15, lc49, h3, e1, e2, e3, q', w11, c, w10, w12, b2, b3, nI_1]
      · refine ⟨am_wr τ 50 (upd (τ.1 50) bb 1), ⟨?_, v2, fun k q => ?_⟩, fun Q => ?_⟩
        · have g := cV_r4 (σ := τ) (a := 44) (j := bb) (x := 1) p2
          simp only [Nat.reduceAdd] at g
          rw [g, v1, lyS, if_neg (by rw [c]; decide), if_neg (by rw [c]; decide), if_neg (by rw [c]; decide)]
          rw [p1, b3]
        · rw [am_wr_ne (by omega)]
          exact v3 k q
        · rw [x4_2]
          simp only [x4_3, x4_4, x4_7, x4_10, x4_11, x4_12, x4_13, x4_14, x4_15, x4_18, x4_21, x4_22, x4_25, x4_26, x4_52, x4_53, x4_56, x4_57, x4_60, x4_61, x4_62, x4_64, x4_65, x4_68, x4_69, x4_70, x4_71, x4_73, x4_74, x4_75, x4_78, x4_79, x4_82, x4_83, x4_86, x4_87, x4_88, x4_89, x4_90, x4_93, x4_94, x4_95, x4_96, x4_97, x4_100, x4_101, x4_104, x4_105, x4_108, x4_109, x4_110, x4_111, x4_112, x4_115, x4_116, x4_117, x4_118, x4_119, x4_122, x4_123, x4_126, x4_127, x4_130, x4_131, x4_132, x4_133, x4_134, x4_137, x4_27_3, Option.toList_some, Option.toList_none, List.cons_append, List.nil_append, cat_i, cat_r, cat_n, cat_f, cs_n, cs_i, cs_r, cs_l, cs_f, Nat.reduceAdd, Nat.reduceLeDiff, Nat.zero_le, if_true, if_false, true_or, or_true, am_wr_at, Nat.reduceEqDiff, not_true_eq_false, not_false_eq_true, i_one, ite_not, bI_z, bI_nz, bI_t, bI_f, bI_or, Bool.false_eq_true, Bool.true_eq_false, reduceCtorEq, st1, st44, lc13, lc14, lc15, lc50, h3, e1, e2, e3, q', w11, c, w10, w12, b2, b3, nI_1]
    · have q2 : s.testBit i = false := by simpa using q
      have q' : (nI s >>> (nI i &&& 31) &&& 1 = 0) = True := eq_true (wb.mpr q2)
      have q1 : (s.testBit i = true) = False := eq_false q
      simp only [q1, if_false]
      refine ⟨τ, ⟨v1, v2, v3⟩, fun Q => ?_⟩
      rw [x4_2]
      simp only [x4_3, x4_4, x4_7, x4_10, x4_11, x4_12, x4_13, x4_14, x4_15, x4_18, x4_21, x4_22, x4_25, x4_26, x4_52, x4_53, x4_56, x4_57, x4_60, x4_61, x4_62, x4_64, x4_65, x4_68, x4_69, x4_70, x4_71, x4_73, x4_74, x4_75, x4_78, x4_79, x4_82, x4_83, x4_86, x4_87, x4_88, x4_89, x4_90, x4_93, x4_94, x4_95, x4_96, x4_97, x4_100, x4_101, x4_104, x4_105, x4_108, x4_109, x4_110, x4_111, x4_112, x4_115, x4_116, x4_117, x4_118, x4_119, x4_122, x4_123, x4_126, x4_127, x4_130, x4_131, x4_132, x4_133, x4_134, x4_137, Option.toList_some, Option.toList_none, List.cons_append, List.nil_append, cat_i, cat_r, cat_n, cat_f, cs_n, cs_i, cs_r, cs_l, cs_f, Nat.reduceAdd, Nat.reduceLeDiff, Nat.zero_le, if_true, if_false, true_or, or_true, am_wr_at, Nat.reduceEqDiff, not_true_eq_false, not_false_eq_true, i_one, ite_not, bI_z, bI_nz, bI_t, bI_f, bI_or, Bool.false_eq_true, Bool.true_eq_false, reduceCtorEq, st1, h3, e1, q', nI_1])
  refine ⟨τ, by rw [cm]; exact v1, v2, v3, fun Q => ?_⟩
  have hVτ : cV τ 1 = V := (cV_of (fun k q1 q2 => v3 k (by omega)) (by rw [v3 1 (by omega)])).trans hV
  have h3 : τ.1 12 4 = nI m := (rc hVτ).2.2.1.trans em
  have e1 : nI m ≤ nI m := nI_le (by omega) (by omega)
  rw [n4]
  simp only [x4_0, x4_1, Option.toList_some, Option.toList_none, List.cons_append, List.nil_append, cat_i, cat_r, cat_n, cat_f, cs_n, cs_i, cs_r, cs_l, cs_f, Nat.reduceAdd, Nat.reduceLeDiff, Nat.zero_le, if_true, if_false, true_or, or_true, am_wr_at, Nat.reduceEqDiff, not_true_eq_false, not_false_eq_true, i_one, ite_not, bI_z, bI_nz, bI_t, bI_f, bI_or, Bool.false_eq_true, Bool.true_eq_false, reduceCtorEq]
  refine (e Q).trans ?_
  show AW sv 4 2 [.ref 12, .ref 45, .int (nI s), .int (nI m)] [] (am_toH τ) 0 0 Q = _
  rw [x4_2]
  simp only [x4_3, x4_4, x4_7, x4_140, Option.toList_some, Option.toList_none, List.cons_append, List.nil_append, cat_i, cat_r, cat_n, cat_f, cs_n, cs_i, cs_r, cs_l, cs_f, Nat.reduceAdd, Nat.reduceLeDiff, Nat.zero_le, if_true, if_false, true_or, or_true, am_wr_at, Nat.reduceEqDiff, not_true_eq_false, not_false_eq_true, i_one, ite_not, bI_z, bI_nz, bI_t, bI_f, bI_or, Bool.false_eq_true, Bool.true_eq_false, reduceCtorEq, st1, h3, e1]
theorem c55 (hV : cV σ 1 = V) (hok : okV V) (hs : s < 256) : ∃ τ, Cf σ τ ∧ ∀ Q, AM sv 55 [.ref 43, .ref 1, .int (nI s)] (am_toH σ) Q = Q (some (.int (lyE V s))) (am_toH τ) := by
  obtain ⟨t1, v1, a1, f1, g1, e1⟩ := c28 (sv := sv) pr44 hV hok
  have hV1 : cV t1 1 = V := (cV_of (fun k q1 q2 => f1 k (by omega)) (by rw [f1 1 (by omega)])).trans hV
  obtain ⟨t2, v2, a2, f2, e2⟩ := c4 (sv := sv) hV1 v1 hok hs
  obtain ⟨τ, R, c⟩ := c32 (sv := sv) st44 v2 (okV_ly hok _ (Nat.le_refl _)) rg11
  refine ⟨τ, Cf_trans (Cf_of44 (a2.trans a1) (fun k hk => (f2 k hk).trans (f1 k (by omega)))) (Cf_44 R), fun Q => ?_⟩
  rw [n55]
  simp only [x55_0, x55_1, x55_4, x55_5, x55_8, x55_9, x55_12, x55_13, x55_16, x55_19, x55_20, x55_23, x55_24, x55_27, x55_28, x55_31, Option.toList_some, Option.toList_none, List.cons_append, List.nil_append, cat_i, cat_r, cat_n, cat_f, cs_n, cs_i, cs_r, cs_l, cs_f, Nat.reduceAdd, Nat.reduceLeDiff, Nat.zero_le, if_true, if_false, true_or, or_true, am_wr_at, Nat.reduceEqDiff, not_true_eq_false, not_false_eq_true, i_one, ite_not, bI_z, bI_nz, bI_t, bI_f, bI_or, Bool.false_eq_true, Bool.true_eq_false, reduceCtorEq, st44, st1, e1, e2, c]
  rfl
theorem c3 (hV : cV σ 1 = V) (hok : okV V) (hs : s < 256) : AM sv 3 [.ref 12, .int (nI s)] (am_toH σ) Q = Q (some (.int (csF V s (V 9 2).toNatClampNeg))) (am_toH σ) := by
  obtain ⟨m, hm, em, cm, -⟩ := vC hok
  have h3 : σ.1 12 4 = nI m := (rc hV).2.2.1.trans em
  have key := am_up (N := m) (f := fun i => AW sv 3 4 [.ref 12, .int (nI s), .int (csF V s i), .int (nI i)] [] (am_toH σ) 0 0 Q) (by
    intro i hi
    have hi' : i < (V 9 2).toNatClampNeg := by rw [cm]; exact hi
    have w13 : σ.1 16 i = V 13 i := (rcc hV hi').2.2.2
    have e1 : ¬ nI m ≤ nI i := nI_ge hi (by omega)
    have e2 : am_in (nI i) 8 = true := nI_in' (by omega) (by omega)
    have e3 : (nI i).toNatClampNeg = i := nI_clamp (by omega)
    have wb := w_bit0 s hs i (by omega)
    simp only [csF]
    rw [x3_4]
    by_cases q : s.testBit i = true
    · have q' : (nI s >>> (nI i &&& 31) &&& 1 = 0) = False := eq_false (fun c => by rw [wb.mp c] at q; cases q)
      have q1 : (s.testBit i = true) = True := eq_true q
      simp only [x3_5, x3_6, x3_9, x3_12, x3_13, x3_14, x3_15, x3_16, x3_17, x3_20, x3_21, x3_22, x3_25, x3_26, x3_27, x3_28, x3_29, x3_32, Option.toList_some, Option.toList_none, List.cons_append, List.nil_append, cat_i, cat_r, cat_n, cat_f, cs_n, cs_i, cs_r, cs_l, cs_f, Nat.reduceAdd, Nat.reduceLeDiff, Nat.zero_le, if_true, if_false, true_or, or_true, am_wr_at, Nat.reduceEqDiff, not_true_eq_false, not_false_eq_true, i_one, ite_not, bI_z, bI_nz, bI_t, bI_f, bI_or, Bool.false_eq_true, Bool.true_eq_false, reduceCtorEq, st1, lc16, h3, e1, e2, e3, q', q1, w13, nI_1]
    · have q2 : s.testBit i = false := by simpa using q
      have q' : (nI s >>> (nI i &&& 31) &&& 1 = 0) = True := eq_true (wb.mpr q2)
      have q1 : (s.testBit i = true) = False := eq_false q
      simp only [x3_5, x3_6, x3_9, x3_12, x3_13, x3_14, x3_15, x3_16, x3_17, x3_20, x3_21, x3_22, x3_25, x3_26, x3_27, x3_28, x3_29, x3_32, Option.toList_some, Option.toList_none, List.cons_append, List.nil_append, cat_i, cat_r, cat_n, cat_f, cs_n, cs_i, cs_r, cs_l, cs_f, Nat.reduceAdd, Nat.reduceLeDiff, Nat.zero_le, if_true, if_false, true_or, or_true, am_wr_at, Nat.reduceEqDiff, not_true_eq_false, not_false_eq_true, i_one, ite_not, bI_z, bI_nz, bI_t, bI_f, bI_or, Bool.false_eq_true, Bool.true_eq_false, reduceCtorEq, st1, h3, e1, q', q1, nI_1]) m (Nat.le_refl _)
  have e1 : nI m ≤ nI m := nI_le (by omega) (by omega)
  rw [n3, cm]
  simp only [x3_0, x3_1, x3_2, x3_3, Option.toList_some, Option.toList_none, List.cons_append, List.nil_append, cat_i, cat_r, cat_n, cat_f, cs_n, cs_i, cs_r, cs_l, cs_f, Nat.reduceAdd, Nat.reduceLeDiff, Nat.zero_le, if_true, if_false, true_or, or_true, am_wr_at, Nat.reduceEqDiff, not_true_eq_false, not_false_eq_true, i_one, ite_not, bI_z, bI_nz, bI_t, bI_f, bI_or, Bool.false_eq_true, Bool.true_eq_false, reduceCtorEq]
  refine Eq.trans key ?_
  show AW sv 3 4 [.ref 12, .int (nI s), .int (csF V s m), .int (nI m)] [] (am_toH σ) 0 0 Q = _
  rw [x3_4]
  simp only [x3_5, x3_6, x3_9, x3_35, x3_36, Option.toList_some, Option.toList_none, List.cons_append, List.nil_append, cat_i, cat_r, cat_n, cat_f, cs_n, cs_i, cs_r, cs_l, cs_f, Nat.reduceAdd, Nat.reduceLeDiff, Nat.zero_le, if_true, if_false, true_or, or_true, am_wr_at, Nat.reduceEqDiff, not_true_eq_false, not_false_eq_true, i_one, ite_not, bI_z, bI_nz, bI_t, bI_f, bI_or, Bool.false_eq_true, Bool.true_eq_false, reduceCtorEq, st1, h3, e1]
/-! the reference lays covers on -/
theorem mV_rows (h : ∀ j, j < 16 → τ.1 72 j = σ.1 72 j ∧ τ.1 74 j = σ.1 74 j ∧ τ.1 75 j = σ.1 75 j ∧ τ.1 76 j = σ.1 76 j) (hf : ∀ k, k ≠ 72 → k ≠ 74 → k ≠ 75 → k ≠ 76 → k ≠ 82 → τ.1 k = σ.1 k) : mV τ = mV σ := by
  have e : ∀ (N : Nat) (f g : Nat → Int32) (j : Nat), (j < N → f j = g j) → (if j < N then f j else 0) = (if j < N then g j else 0) := by
    intro N f g j h
    split
    · exact h (by assumption)
    · rfl
  funext i j
  have q0 := e 16 (τ.1 72) (σ.1 72) j (fun q => (h j q).1)
  have q2 := e 16 (fun j => τ.1 74 j + 1) (fun j => σ.1 74 j + 1) j (fun q => by show τ.1 74 j + 1 = σ.1 74 j + 1; rw [(h j q).2.1])
  have q3 := e 16 (fun j => τ.1 75 j + 1) (fun j => σ.1 75 j + 1) j (fun q => by show τ.1 75 j + 1 = σ.1 75 j + 1; rw [(h j q).2.2.1])
  have q4 := e 16 (τ.1 76) (σ.1 76) j (fun q => (h j q).2.2.2)
  have f71 := hf 71 (by decide) (by decide) (by decide) (by decide) (by decide)
  have f73 := hf 73 (by decide) (by decide) (by decide) (by decide) (by decide)
  have f77 := hf 77 (by decide) (by decide) (by decide) (by decide) (by decide)
  have f78 := hf 78 (by decide) (by decide) (by decide) (by decide) (by decide)
  have f81 := hf 81 (by decide) (by decide) (by decide) (by decide) (by decide)
  have f83 := hf 83 (by decide) (by decide) (by decide) (by decide) (by decide)
  have f84 := hf 84 (by decide) (by decide) (by decide) (by decide) (by decide)
  unfold mV
  simp only [f71, f73, f77, f78, f81, f83, f84, q0, q2, q3, q4]
def wr4 (τ : am_S) (b : Nat) (x0 x1 x2 x3 : Int32) : am_S := am_wr (am_wr (am_wr (am_wr τ 72 (upd (τ.1 72) b x0)) 74 (upd (τ.1 74) b x1)) 75 (upd (τ.1 75) b x2)) 76 (upd (τ.1 76) b x3)
theorem mV_wr4 {x0 x1 x2 x3 : Int32} (hb : b < 16) : mV (wr4 τ b x0 x1 x2 x3) = vset (vset (vset (vset (mV τ) 0 b x0) 2 b (x1 + 1)) 3 b (x2 + 1)) 4 b x3 := by
  have h0 := mV_row (σ := τ) (x := x0) hb 0 (by decide)
  have h1 := mV_row (σ := am_wr τ 72 (upd (τ.1 72) b x0)) (x := x1) hb 2 (by decide)
  have h2 := mV_row (σ := am_wr (am_wr τ 72 (upd (τ.1 72) b x0)) 74 (upd (τ.1 74) b x1)) (x := x2) hb 3 (by decide)
  have h3 := mV_row (σ := am_wr (am_wr (am_wr τ 72 (upd (τ.1 72) b x0)) 74 (upd (τ.1 74) b x1)) 75 (upd (τ.1 75) b x2)) (x := x3) hb 4 (by decide)
  simp only [Nat.reduceAdd, Option.toList_some, Option.toList_none, List.cons_append, List.nil_append, cat_i, cat_r, cat_n, cat_f, cs_n, cs_i, cs_r, cs_l, cs_f, Nat.reduceAdd, Nat.reduceLeDiff, Nat.zero_le, if_true, if_false, true_or, or_true, am_wr_at, Nat.reduceEqDiff, not_true_eq_false, not_false_eq_true, i_one, ite_not, bI_z, bI_nz, bI_t, bI_f, bI_or, Bool.false_eq_true, Bool.true_eq_false, reduceCtorEq, or_self, false_or] at h0 h1 h2 h3
  unfold wr4
  rw [h3, h2, h1, h0]
theorem vset_idr {i j : Nat} : vset W i j (W i j) = W := vset_id rfl
theorem vs_ne {i j i' j' : Nat} {x : Int32} (h : i' ≠ i) : vset W i j x i' j' = W i' j' := if_neg h
theorem vset_ne_id {i j i' j' : Nat} {x : Int32} (h : i' ≠ i) : vset (vset W i j x) i' j' (W i' j') = vset W i j x := vset_id (vs_ne h)
theorem m144l (hV : mV σ = V) (hok : okV V) (hs : s < 256) {v3 v4 v5 : Value} : ∃ t : am_S × Value × Value × Value, (mV t.1 = lyF V s (V 9 2).toNatClampNeg ∧ ∀ k, k ≠ 72 → k ≠ 74 → k ≠ 75 → k ≠ 76 → t.1.1 k = σ.1 k) ∧ ∀ Q, AW sv 144 73 [.ref 71, .int (nI s), .int 0, v3, v4, v5] [] (am_toH σ) 0 0 Q = AW sv 144 230 [.ref 71, .int (nI s), .int (V 9 2), t.2.1, t.2.2.1, t.2.2.2] [] (am_toH t.1) 0 0 Q := by
  obtain ⟨m, hm, em, cm, -⟩ := vC hok
  obtain ⟨t, ⟨u1, u2⟩, e⟩ := am_upG (N := m) (s := ((σ, v3, v4, v5) : am_S × Value × Value × Value)) (R := fun i t => mV t.1 = lyF V s i ∧ ∀ k, k ≠ 72 → k ≠ 74 → k ≠ 75 → k ≠ 76 → t.1.1 k = σ.1 k) (F := fun i t Q => AW sv 144 73 [.ref 71, .int (nI s), .int (nI i), t.2.1, t.2.2.1, t.2.2.2] [] (am_toH t.1) 0 0 Q) ⟨hV, fun _ _ _ _ _ => rfl⟩ (by
    intro i t hi R
    obtain ⟨τ, v3, v4, v5⟩ := t
    obtain ⟨u1, u2⟩ := R
    have hi' : i < (V 9 2).toNatClampNeg := by rw [cm]; exact hi
    obtain ⟨p1, p2, p3, p4, p5⟩ := vCv hok hi'
    have h3 : τ.1 71 16 = nI m := by
      rw [u2 71 (by decide) (by decide) (by decide) (by decide)]
      exact (rm hV).2.2.1.trans em
    obtain ⟨w10, w11, w12, w13⟩ := rmc hV hi'
    have g81 : τ.1 81 = σ.1 81 := u2 81 (by decide) (by decide) (by decide) (by decide)
    rw [← g81] at w10 w11 w12
    have w10 : τ.1 81 (4 * i) = nI (V 10 i).toNatClampNeg := w10.trans p1
    have e1 : ¬ nI m ≤ nI i := nI_ge hi (by omega)
    have m0 : am_in (nI (4 * i)) 32 = true := nI_in' (by omega) (by omega)
    have m1 : am_in (nI (4 * i + 1)) 32 = true := nI_in' (by omega) (by omega)
    have m2 : am_in (nI (4 * i + 2)) 32 = true := nI_in' (by omega) (by omega)
    have d0 : (nI (4 * i)).toNatClampNeg = 4 * i := nI_clamp (by omega)
    have d1 : (nI (4 * i + 1)).toNatClampNeg = 4 * i + 1 := nI_clamp (by omega)
    have d2 : (nI (4 * i + 2)).toNatClampNeg = 4 * i + 2 := nI_clamp (by omega)
    have b2 : am_in (nI (V 10 i).toNatClampNeg) 16 = true := nI_in' p2 (by omega)
    have b3 : (nI (V 10 i).toNatClampNeg).toNatClampNeg = (V 10 i).toNatClampNeg := nI_clamp (by omega)
    have rr : τ.1 72 (V 10 i).toNatClampNeg = lyF V s i 0 (V 10 i).toNatClampNeg ∧ τ.1 74 (V 10 i).toNatClampNeg + 1 = lyF V s i 2 (V 10 i).toNatClampNeg ∧ τ.1 75 (V 10 i).toNatClampNeg + 1 = lyF V s i 3 (V 10 i).toNatClampNeg ∧ τ.1 76 (V 10 i).toNatClampNeg = lyF V s i 4 (V 10 i).toNatClampNeg := by
      rw [← u1]
      exact ⟨(if_pos p2).symm, (if_pos p2).symm, (if_pos p2).symm, (if_pos p2).symm⟩
    obtain ⟨r0, r2, r3, r4⟩ := rr
    have fr : ∀ x0 x1 x2 x3 : Int32, ∀ k, k ≠ 72 → k ≠ 74 → k ≠ 75 → k ≠ 76 → (wr4 τ (V 10 i).toNatClampNeg x0 x1 x2 x3).1 k = σ.1 k := by
      intro x0 x1 x2 x3 k q1 q2 q3 q4
      unfold wr4
      rw [am_wr_ne q4, am_wr_ne q3, am_wr_ne q2, am_wr_ne q1]
      exact u2 k q1 q2 q3 q4
    have wb := w_bit s hs i (by omega)
    have y10 : ((1 : Int32) = 0) = False := eq_false (by decide)
    have y20 : ((2 : Int32) = 0) = False := eq_false (by decide)
    have y21 : ((2 : Int32) = 1) = False := eq_false (by decide)
    have y30 : ((3 : Int32) = 0) = False := eq_false (by decide)
    have y31 : ((3 : Int32) = 1) = False := eq_false (by decide)
    have y32 : ((3 : Int32) = 2) = False := eq_false (by decide)
    have y01 : ((0 : Int32) = 1) = False := eq_false (by decide)
    have y02 : ((0 : Int32) = 2) = False := eq_false (by decide)
    have y03 : ((0 : Int32) = 3) = False := eq_false (by decide)
    have y12 : ((1 : Int32) = 2) = False := eq_false (by decide)
    have y13 : ((1 : Int32) = 3) = False := eq_false (by decide)
    have y23 : ((2 : Int32) = 3) = False := eq_false (by decide)
    have n0 : ((-4 : Int32) = 0) = False := eq_false (by decide)
    have n1 : ((-4 : Int32) = 1) = False := eq_false (by decide)
    have n2 : ((-4 : Int32) = 2) = False := eq_false (by decide)
    have n3 : ((-4 : Int32) = 3) = False := eq_false (by decide)
    simp only [lyF]
    generalize (V 10 i).toNatClampNeg = bb at *
    by_cases q : s.testBit i = true
    · have q' : (nI s >>> (nI i &&& 31) &&& 1 = 1) = True := eq_true (wb.mpr q)
      have q1 : (s.testBit i = true) = True := eq_true q
      simp only [q1, if_true]
      rcases p3 with c | c | c | c
      · refine ⟨(wr4 τ bb (10 * V 12 i + 6) (τ.1 74 bb) (τ.1 75 bb) (τ.1 76 bb), .int (nI bb), .int 0, .int (V 12 i)), ⟨?_, fr _ _ _ _⟩, fun Q => ?_⟩
        · show mV (wr4 τ bb (10 * V 12 i + 6) (τ.1 74 bb) (τ.1 75 bb) (τ.1 76 bb)) = _
          rw [mV_wr4 p2, u1, r2, r3, r4, vset_ne_id (by decide), vset_ne_id (by decide), vset_ne_id (by decide), lyS, if_pos c, p1, b3]
        · rw [x144_73]
          simp only [x144_74, x144_75, x144_78, x144_81, x144_82, x144_85, x144_86, x144_87, x144_88, x144_89, x144_90, x144_91, x144_92, x144_93, x144_94, x144_95, x144_96, x144_99, x144_100, x144_103, x144_104, x144_105, x144_106, x144_107, x144_108, x144_109, x144_112, x144_114, x144_116, x144_117, x144_120, x144_121, x144_122, x144_123, x144_124, x144_125, x144_126, x144_128, x144_129, x144_132, x144_133, x144_135, x144_138, x144_140, x144_142, x144_143, x144_145, x144_146, x144_149, x144_150, x144_153, x144_154, x144_155, x144_156, x144_157, x144_160, x144_161, x144_163, x144_164, x144_167, x144_169, x144_172, x144_173, x144_176, x144_177, x144_178, x144_179, x144_180, x144_183, x144_184, x144_186, x144_187, x144_190, x144_192, x144_195, x144_196, x144_199, x144_200, x144_201, x144_202, x144_203, x144_206, x144_207, x144_209, x144_210, x144_213, x144_214, x144_217, x144_218, x144_221, x144_222, x144_223, x144_224, x144_227, Option.toList_some, Option.toList_none, List.cons_append, List.nil_append, cat_i, cat_r, cat_n, cat_f, cs_n, cs_i, cs_r, cs_l, cs_f, Nat.reduceAdd, Nat.reduceLeDiff, Nat.zero_le, if_true, if_false, true_or, or_true, am_wr_at, Nat.reduceEqDiff, not_true_eq_false, not_false_eq_true, i_one, ite_not, bI_z, bI_nz, bI_t, bI_f, bI_or, Bool.false_eq_true, Bool.true_eq_false, reduceCtorEq, lc81, lc72, lc74, lc75, lc76, h3, e1, ix40, nI_p2, m0, m1, m2, d0, d1, d2, w10, w11, w12, c, q', b2, b3, y01, y02, y03, y12, y13, y23, y10, y20, y21, y30, y31, y32, n0, n1, n2, n3, nI_1, wr4]
      · refine ⟨(wr4 τ bb (τ.1 72 bb) (V 12 i) (τ.1 75 bb) (τ.1 76 bb), .int (nI bb), .int 1, .int (V 12 i)), ⟨?_, fr _ _ _ _⟩, fun Q => ?_⟩
        · show mV (wr4 τ bb (τ.1 72 bb) (V 12 i) (τ.1 75 bb) (τ.1 76 bb)) = _
          rw [mV_wr4 p2, u1, r0, r3, r4, vset_idr, vset_ne_id (by decide), vset_ne_id (by decide), lyS, if_neg (by rw [c]; decide), if_pos c, p1, b3, Int32.add_comm]
        · rw [x144_73]
          simp only [x144_74, x144_75, x144_78, x144_81, x144_82, x144_85, x144_86, x144_87, x144_88, x144_89, x144_90, x144_91, x144_92, x144_93, x144_94, x144_95, x144_96, x144_99, x144_100, x144_103, x144_104, x144_105, x144_106, x144_107, x144_108, x144_109, x144_112, x144_114, x144_116, x144_117, x144_120, x144_121, x144_122, x144_123, x144_124, x144_125, x144_126, x144_128, x144_129, x144_132, x144_133, x144_135, x144_138, x144_140, x144_142, x144_143, x144_145, x144_146, x144_149, x144_150, x144_153, x144_154, x144_155, x144_156, x144_157, x144_160, x144_161, x144_163, x144_164, x144_167, x144_169, x144_172, x144_173, x144_176, x144_177, x144_178, x144_179, x144_180, x144_183, x144_184, x144_186, x144_187, x144_190, x144_192, x144_195, x144_196, x144_199, x144_200, x144_201, x144_202, x144_203, x144_206, x144_207, x144_209, x144_210, x144_213, x144_214, x144_217, x144_218, x144_221, x144_222, x144_223, x144_224, x144_227, Option.toList_some, Option.toList_none, List.cons_append, List.nil_append, cat_i, cat_r, cat_n, cat_f, cs_n, cs_i, cs_r, cs_l, cs_f, Nat.reduceAdd, Nat.reduceLeDiff, Nat.zero_le, if_true, if_false, true_or, or_true, am_wr_at, Nat.reduceEqDiff, not_true_eq_false, not_false_eq_true, i_one, ite_not, bI_z, bI_nz, bI_t, bI_f, bI_or, Bool.false_eq_true, Bool.true_eq_false, reduceCtorEq, lc81, lc72, lc74, lc75, lc76, h3, e1, ix40, nI_p2, m0, m1, m2, d0, d1, d2, w10, w11, w12, c, q', b2, b3, y01, y02, y03, y12, y13, y23, y10, y20, y21, y30, y31, y32, n0, n1, n2, n3, nI_1, wr4]
      · refine ⟨(wr4 τ bb (τ.1 72 bb) (τ.1 74 bb) (V 12 i) (τ.1 76 bb), .int (nI bb), .int 2, .int (V 12 i)), ⟨?_, fr _ _ _ _⟩, fun Q => ?_⟩
        · show mV (wr4 τ bb (τ.1 72 bb) (τ.1 74 bb) (V 12 i) (τ.1 76 bb)) = _
          rw [mV_wr4 p2, u1, r0, r2, r4, vset_idr, vset_idr, vset_ne_id (by decide), lyS, if_neg (by rw [c]; decide), if_neg (by rw [c]; decide), if_pos c, p1, b3, Int32.add_comm]
        · rw [x144_73]
          simp only [x144_74, x144_75, x144_78, x144_81, x144_82, x144_85, x144_86, x144_87, x144_88, x144_89, x144_90, x144_91, x144_92, x144_93, x144_94, x144_95, x144_96, x144_99, x144_100, x144_103, x144_104, x144_105, x144_106, x144_107, x144_108, x144_109, x144_112, x144_114, x144_116, x144_117, x144_120, x144_121, x144_122, x144_123, x144_124, x144_125, x144_126, x144_128, x144_129, x144_132, x144_133, x144_135, x144_138, x144_140, x144_142, x144_143, x144_145, x144_146, x144_149, x144_150, x144_153, x144_154, x144_155, x144_156, x144_157, x144_160, x144_161, x144_163, x144_164, x144_167, x144_169, x144_172, x144_173, x144_176, x144_177, x144_178, x144_179, x144_180, x144_183, x144_184, x144_186, x144_187, x144_190, x144_192, x144_195, x144_196, x144_199, x144_200, x144_201, x144_202, x144_203, x144_206, x144_207, x144_209, x144_210, x144_213, x144_214, x144_217, x144_218, x144_221, x144_222, x144_223, x144_224, x144_227, Option.toList_some, Option.toList_none, List.cons_append, List.nil_append, cat_i, cat_r, cat_n, cat_f, cs_n, cs_i, cs_r, cs_l, cs_f, Nat.reduceAdd, Nat.reduceLeDiff, Nat.zero_le, if_true, if_false, true_or, or_true, am_wr_at, Nat.reduceEqDiff, not_true_eq_false, not_false_eq_true, i_one, ite_not, bI_z, bI_nz, bI_t, bI_f, bI_or, Bool.false_eq_true, Bool.true_eq_false, reduceCtorEq, lc81, lc72, lc74, lc75, lc76, h3, e1, ix40, nI_p2, m0, m1, m2, d0, d1, d2, w10, w11, w12, c, q', b2, b3, y01, y02, y03, y12, y13, y23, y10, y20, y21, y30, y31, y32, n0, n1, n2, n3, nI_1, wr4]
      · refine ⟨(wr4 τ bb (τ.1 72 bb) (τ.1 74 bb) (τ.1 75 bb) 1, .int (nI bb), .int 3, .int (V 12 i)), ⟨?_, fr _ _ _ _⟩, fun Q => ?_⟩
        · show mV (wr4 τ bb (τ.1 72 bb) (τ.1 74 bb) (τ.1 75 bb) 1) = _
          rw [mV_wr4 p2, u1, r0, r2, r3, vset_idr, vset_idr, vset_idr, lyS, if_neg (by rw [c]; decide), if_neg (by rw [c]; decide), if_neg (by rw [c]; decide), p1, b3]
        · rw [x144_73]
          simp only [x144_74, x144_75, x144_78, x144_81, x144_82, x144_85, x144_86, x144_87, x144_88, x144_89, x144_90, x144_91, x144_92, x144_93, x144_94, x144_95, x144_96, x144_99, x144_100, x144_103, x144_104, x144_105, x144_106, x144_107, x144_108, x144_109, x144_112, x144_114, x144_116, x144_117, x144_120, x144_121, x144_122, x144_123, x144_124, x144_125, x144_126, x144_128, x144_129, x144_132, x144_133, x144_135, x144_138, x144_140, x144_142, x144_143, x144_145, x144_146, x144_149, x144_150, x144_153, x144_154, x144_155, x144_156, x144_157, x144_160, x144_161, x144_163, x144_164, x144_167, x144_169, x144_172, x144_173, x144_176, x144_177, x144_178, x144_179, x144_180, x144_183, x144_184, x144_186, x144_187, x144_190, x144_192, x144_195, x144_196, x144_199, x144_200, x144_201, x144_202, x144_203, x144_206, x144_207, x144_209, x144_210, x144_213, x144_214, x144_217, x144_218, x144_221, x144_222, x144_223, x144_224, x144_227, Option.toList_some, Option.toList_none, List.cons_append, List.nil_append, cat_i, cat_r, cat_n, cat_f, cs_n, cs_i, cs_r, cs_l, cs_f, Nat.reduceAdd, Nat.reduceLeDiff, Nat.zero_le, if_true, if_false, true_or, or_true, am_wr_at, Nat.reduceEqDiff, not_true_eq_false, not_false_eq_true, i_one, ite_not, bI_z, bI_nz, bI_t, bI_f, bI_or, Bool.false_eq_true, Bool.true_eq_false, reduceCtorEq, lc81, lc72, lc74, lc75, lc76, h3, e1, ix40, nI_p2, m0, m1, m2, d0, d1, d2, w10, w11, w12, c, q', b2, b3, y01, y02, y03, y12, y13, y23, y10, y20, y21, y30, y31, y32, n0, n1, n2, n3, nI_1, wr4]
    · have q' : (nI s >>> (nI i &&& 31) &&& 1 = 1) = False := eq_false (fun c => q (wb.mp c))
      have q1 : (s.testBit i = true) = False := eq_false q
      simp only [q1, if_false]
      refine ⟨(wr4 τ bb (τ.1 72 bb) (τ.1 74 bb) (τ.1 75 bb) (τ.1 76 bb), .int (nI bb), .int (-4), .int (V 12 i)), ⟨?_, fr _ _ _ _⟩, fun Q => ?_⟩
      · show mV (wr4 τ bb (τ.1 72 bb) (τ.1 74 bb) (τ.1 75 bb) (τ.1 76 bb)) = _
        rw [mV_wr4 p2, u1, r0, r2, r3, r4, vset_idr, vset_idr, vset_idr, vset_idr]
      · rw [x144_73]
        simp only [x144_74, x144_75, x144_78, x144_81, x144_82, x144_85, x144_86, x144_87, x144_88, x144_89, x144_90, x144_91, x144_92, x144_93, x144_94, x144_95, x144_96, x144_99, x144_100, x144_103, x144_104, x144_105, x144_106, x144_107, x144_108, x144_109, x144_112, x144_114, x144_116, x144_117, x144_120, x144_121, x144_122, x144_123, x144_124, x144_125, x144_126, x144_128, x144_129, x144_132, x144_133, x144_135, x144_138, x144_140, x144_142, x144_143, x144_145, x144_146, x144_149, x144_150, x144_153, x144_154, x144_155, x144_156, x144_157, x144_160, x144_161, x144_163, x144_164, x144_167, x144_169, x144_172, x144_173, x144_176, x144_177, x144_178, x144_179, x144_180, x144_183, x144_184, x144_186, x144_187, x144_190, x144_192, x144_195, x144_196, x144_199, x144_200, x144_201, x144_202, x144_203, x144_206, x144_207, x144_209, x144_210, x144_213, x144_214, x144_217, x144_218, x144_221, x144_222, x144_223, x144_224, x144_227, Option.toList_some, Option.toList_none, List.cons_append, List.nil_append, cat_i, cat_r, cat_n, cat_f, cs_n, cs_i, cs_r, cs_l, cs_f, Nat.reduceAdd, Nat.reduceLeDiff, Nat.zero_le, if_true, if_false, true_or, or_true, am_wr_at, Nat.reduceEqDiff, not_true_eq_false, not_false_eq_true, i_one, ite_not, bI_z, bI_nz, bI_t, bI_f, bI_or, Bool.false_eq_true, Bool.true_eq_false, reduceCtorEq, lc81, lc72, lc74, lc75, lc76, h3, e1, ix40, nI_p2, m0, m1, m2, d0, d1, d2, w10, w11, w12, q', b2, b3, y01, y02, y03, y12, y13, y23, y10, y20, y21, y30, y31, y32, n0, n1, n2, n3, nI_1, wr4])
  have e1 : nI m ≤ nI m := nI_le (by omega) (by omega)
  have h3 : t.1.1 71 16 = nI m := by
    rw [u2 71 (by decide) (by decide) (by decide) (by decide)]
    exact (rm hV).2.2.1.trans em
  refine ⟨t, ⟨by rw [cm]; exact u1, u2⟩, fun Q => ?_⟩
  refine (e Q).trans ?_
  show AW sv 144 73 [.ref 71, .int (nI s), .int (nI m), t.2.1, t.2.2.1, t.2.2.2] [] (am_toH t.1) 0 0 Q = _
  rw [x144_73, em]
  simp only [x144_74, x144_75, x144_78, Option.toList_some, Option.toList_none, List.cons_append, List.nil_append, cat_i, cat_r, cat_n, cat_f, cs_n, cs_i, cs_r, cs_l, cs_f, Nat.reduceAdd, Nat.reduceLeDiff, Nat.zero_le, if_true, if_false, true_or, or_true, am_wr_at, Nat.reduceEqDiff, not_true_eq_false, not_false_eq_true, i_one, ite_not, bI_z, bI_nz, bI_t, bI_f, bI_or, Bool.false_eq_true, Bool.true_eq_false, reduceCtorEq, h3, e1]
def kpR (σ τ : am_S) (i : Nat) : Prop := (∀ k, k ≠ 82 → τ.1 k = σ.1 k) ∧ ∀ j, j < i → τ.1 82 j = σ.1 72 j ∧ τ.1 82 (16 + j) = σ.1 74 j ∧ τ.1 82 (32 + j) = σ.1 75 j ∧ τ.1 82 (48 + j) = σ.1 76 j
theorem i16 {i : Nat} : 16 + nI i = nI (16 + i) := nI_add 16 i
theorem i32 {i : Nat} : 32 + nI i = nI (32 + i) := nI_add 32 i
theorem i48 {i : Nat} : 48 + nI i = nI (48 + i) := nI_add 48 i
theorem m144 (hV : mV σ = V) (hok : okV V) (hs : s < 256) : ∃ τ : am_S, Mf σ τ ∧ mV τ = V ∧ ∀ Q, AM sv 144 [.ref 71, .int (nI s)] (am_toH σ) Q = Q (some (.int (lyE V s))) (am_toH τ) := by
  have z16 : (16 : Int32) ≤ nI 16 := by decide
  obtain ⟨t0, ⟨k1, k2⟩, e0⟩ := am_upE (N := 16) (σ := σ) (R := fun i τ => kpR σ τ i) (F := fun i τ Q => AW sv 144 2 [.ref 71, .int (nI s), .int (nI i), .null, .null, .null] [] (am_toH τ) 0 0 Q) ⟨fun _ _ => rfl, fun j hj => by omega⟩ (by
    intro i τ hi R
    obtain ⟨k1, k2⟩ := R
    have g72 := k1 72 (by decide)
    have g74 := k1 74 (by decide)
    have g75 := k1 75 (by decide)
    have g76 := k1 76 (by decide)
    have e1 : ¬ 16 ≤ nI i := by
      show ¬ nI 16 ≤ nI i
      exact nI_ge (by omega) (by decide)
    have a0 : am_in (nI i) 64 = true := nI_in' (by omega) (by omega)
    have a1 : am_in (nI (16 + i)) 64 = true := nI_in' (by omega) (by omega)
    have a2 : am_in (nI (32 + i)) 64 = true := nI_in' (by omega) (by omega)
    have a3 : am_in (nI (48 + i)) 64 = true := nI_in' (by omega) (by omega)
    have c1 : (nI (16 + i)).toNatClampNeg = 16 + i := nI_clamp (by omega)
    have c2 : (nI (32 + i)).toNatClampNeg = 32 + i := nI_clamp (by omega)
    have c3 : (nI (48 + i)).toNatClampNeg = 48 + i := nI_clamp (by omega)
    have e2 : am_in (nI i) 16 = true := nI_in' (by omega) (by omega)
    have e3 : (nI i).toNatClampNeg = i := nI_clamp (by omega)
    refine ⟨am_wr τ 82 (upd (upd (upd (upd (τ.1 82) i (σ.1 72 i)) (16 + i) (σ.1 74 i)) (32 + i) (σ.1 75 i)) (48 + i) (σ.1 76 i)), ⟨fun k q => ?_, fun j hj => ?_⟩, fun Q => ?_⟩
    · rw [am_wr_ne q]
      exact k1 k q
    · rw [am_wr_eq]
      simp only [upd_at]
      by_cases q : j = i
      · subst q
        simp (disch := omega) only [if_pos, if_neg, if_true, and_self]
      · have g := k2 j (by omega)
        simp (disch := omega) only [if_pos, if_neg]
        exact g
    · rw [x144_2]
      simp only [x144_3, x144_5, x144_8, x144_9, x144_12, x144_13, x144_14, x144_17, x144_18, x144_19, x144_20, x144_21, x144_24, x144_26, x144_27, x144_28, x144_29, x144_32, x144_33, x144_34, x144_35, x144_36, x144_39, x144_41, x144_42, x144_43, x144_44, x144_47, x144_48, x144_49, x144_50, x144_51, x144_54, x144_56, x144_57, x144_58, x144_59, x144_62, x144_63, x144_64, x144_65, x144_68, Option.toList_some, Option.toList_none, List.cons_append, List.nil_append, cat_i, cat_r, cat_n, cat_f, cs_n, cs_i, cs_r, cs_l, cs_f, Nat.reduceAdd, Nat.reduceLeDiff, Nat.zero_le, if_true, if_false, true_or, or_true, am_wr_at, Nat.reduceEqDiff, not_true_eq_false, not_false_eq_true, i_one, ite_not, bI_z, bI_nz, bI_t, bI_f, bI_or, Bool.false_eq_true, Bool.true_eq_false, reduceCtorEq, lc72, lc74, lc75, lc76, lc82, e1, e2, e3, a0, a1, a2, a3, c1, c2, c3, i16, i32, i48, g72, g74, g75, g76, am_wr_wr, nI_1])
  have hV0 : mV t0 = V := (mV_rows (fun j hj => by rw [k1 72 (by decide), k1 74 (by decide), k1 75 (by decide), k1 76 (by decide)]; exact ⟨rfl, rfl, rfl, rfl⟩) (fun k _ _ _ _ q => k1 k q)).trans hV
  obtain ⟨⟨t1, v3, v4, v5⟩, ⟨u1, u2⟩, e1⟩ := m144l (sv := sv) (v3 := .null) (v4 := .null) (v5 := .null) hV0 hok hs
  obtain ⟨t2, R2, c2⟩ := m140 (sv := sv) u1 (okV_ly hok _ (Nat.le_refl _)) rg11
  have f2 : ∀ k, k ≠ 72 → k ≠ 74 → k ≠ 75 → k ≠ 76 → t2.1 k = t0.1 k := fun k q1 q2 q3 q4 => by rw [R2]; exact u2 k q1 q2 q3 q4
  have s82 : t2.1 82 = t0.1 82 := f2 82 (by decide) (by decide) (by decide) (by decide)
  obtain ⟨t3, ⟨r1, r2⟩, e3⟩ := am_upE (N := 16) (σ := t2) (R := fun i τ => (∀ k, k ≠ 72 → k ≠ 74 → k ≠ 75 → k ≠ 76 → τ.1 k = t2.1 k) ∧ ∀ j, j < i → τ.1 72 j = σ.1 72 j ∧ τ.1 74 j = σ.1 74 j ∧ τ.1 75 j = σ.1 75 j ∧ τ.1 76 j = σ.1 76 j) (F := fun i τ Q => AW sv 144 238 [.ref 71, .int (nI s), .int (lyE V s), .int (nI i), v4, v5] [] (am_toH τ) 0 0 Q) ⟨fun _ _ _ _ _ => rfl, fun j hj => by omega⟩ (by
    intro i τ hi R
    obtain ⟨r1, r2⟩ := R
    have g82 : τ.1 82 = t0.1 82 := (r1 82 (by decide) (by decide) (by decide) (by decide)).trans s82
    obtain ⟨q1, q2, q3, q4⟩ := k2 i hi
    rw [← g82] at q1 q2 q3 q4
    have e1 : ¬ 16 ≤ nI i := by
      show ¬ nI 16 ≤ nI i
      exact nI_ge (by omega) (by decide)
    have a0 : am_in (nI i) 64 = true := nI_in' (by omega) (by omega)
    have a1 : am_in (nI (16 + i)) 64 = true := nI_in' (by omega) (by omega)
    have a2 : am_in (nI (32 + i)) 64 = true := nI_in' (by omega) (by omega)
    have a3 : am_in (nI (48 + i)) 64 = true := nI_in' (by omega) (by omega)
    have c1 : (nI (16 + i)).toNatClampNeg = 16 + i := nI_clamp (by omega)
    have c2 : (nI (32 + i)).toNatClampNeg = 32 + i := nI_clamp (by omega)
    have c3 : (nI (48 + i)).toNatClampNeg = 48 + i := nI_clamp (by omega)
    have e2 : am_in (nI i) 16 = true := nI_in' (by omega) (by omega)
    have e3 : (nI i).toNatClampNeg = i := nI_clamp (by omega)
    refine ⟨wr4 τ i (σ.1 72 i) (σ.1 74 i) (σ.1 75 i) (σ.1 76 i), ⟨fun k q1 q2 q3 q4 => ?_, fun j hj => ?_⟩, fun Q => ?_⟩
    · unfold wr4
      rw [am_wr_ne q4, am_wr_ne q3, am_wr_ne q2, am_wr_ne q1]
      exact r1 k q1 q2 q3 q4
    · unfold wr4
      simp only [Option.toList_some, Option.toList_none, List.cons_append, List.nil_append, cat_i, cat_r, cat_n, cat_f, cs_n, cs_i, cs_r, cs_l, cs_f, Nat.reduceAdd, Nat.reduceLeDiff, Nat.zero_le, if_true, if_false, true_or, or_true, am_wr_at, Nat.reduceEqDiff, not_true_eq_false, not_false_eq_true, i_one, ite_not, bI_z, bI_nz, bI_t, bI_f, bI_or, Bool.false_eq_true, Bool.true_eq_false, reduceCtorEq, upd_at]
      by_cases q : j = i
      · subst q
        simp only [if_true, and_self]
      · simp only [q, if_false]
        exact r2 j (by omega)
    · rw [x144_238]
      simp only [x144_239, x144_241, x144_244, x144_245, x144_248, x144_249, x144_250, x144_253, x144_254, x144_255, x144_256, x144_257, x144_260, x144_261, x144_262, x144_265, x144_267, x144_268, x144_269, x144_270, x144_271, x144_272, x144_275, x144_276, x144_277, x144_280, x144_282, x144_283, x144_284, x144_285, x144_286, x144_287, x144_290, x144_291, x144_292, x144_295, x144_297, x144_298, x144_299, x144_300, x144_301, x144_304, Option.toList_some, Option.toList_none, List.cons_append, List.nil_append, cat_i, cat_r, cat_n, cat_f, cs_n, cs_i, cs_r, cs_l, cs_f, Nat.reduceAdd, Nat.reduceLeDiff, Nat.zero_le, if_true, if_false, true_or, or_true, am_wr_at, Nat.reduceEqDiff, not_true_eq_false, not_false_eq_true, i_one, ite_not, bI_z, bI_nz, bI_t, bI_f, bI_or, Bool.false_eq_true, Bool.true_eq_false, reduceCtorEq, lc72, lc74, lc75, lc76, lc82, e1, e2, e3, a0, a1, a2, a3, c1, c2, c3, i16, i32, i48, q1, q2, q3, q4, nI_1, wr4])
  have fin : ∀ k, k ≠ 72 → k ≠ 74 → k ≠ 75 → k ≠ 76 → k ≠ 82 → t3.1 k = σ.1 k := fun k q1 q2 q3 q4 q5 => ((r1 k q1 q2 q3 q4).trans (f2 k q1 q2 q3 q4)).trans (k1 k q5)
  refine ⟨t3, ⟨fun k q => fin k (by omega) (by omega) (by omega) (by omega) (by omega), fun k q1 q2 => fin k (by omega) (by omega) (by omega) (by omega) q2, fin 71 (by decide) (by decide) (by decide) (by decide) (by decide)⟩, (mV_rows (fun j hj => r2 j hj) fin).trans hV, fun Q => ?_⟩
  rw [n144]
  simp only [x144_0, x144_1, Option.toList_some, Option.toList_none, List.cons_append, List.nil_append, cat_i, cat_r, cat_n, cat_f, cs_n, cs_i, cs_r, cs_l, cs_f, Nat.reduceAdd, Nat.reduceLeDiff, Nat.zero_le, if_true, if_false, true_or, or_true, am_wr_at, Nat.reduceEqDiff, not_true_eq_false, not_false_eq_true, i_one, ite_not, bI_z, bI_nz, bI_t, bI_f, bI_or, Bool.false_eq_true, Bool.true_eq_false, reduceCtorEq]
  refine (e0 Q).trans ?_
  show AW sv 144 2 [.ref 71, .int (nI s), .int (nI 16), .null, .null, .null] [] (am_toH t0) 0 0 Q = _
  rw [x144_2]
  simp only [x144_3, x144_5, x144_71, x144_72, Option.toList_some, Option.toList_none, List.cons_append, List.nil_append, cat_i, cat_r, cat_n, cat_f, cs_n, cs_i, cs_r, cs_l, cs_f, Nat.reduceAdd, Nat.reduceLeDiff, Nat.zero_le, if_true, if_false, true_or, or_true, am_wr_at, Nat.reduceEqDiff, not_true_eq_false, not_false_eq_true, i_one, ite_not, bI_z, bI_nz, bI_t, bI_f, bI_or, Bool.false_eq_true, Bool.true_eq_false, reduceCtorEq, z16]
  refine (e1 Q).trans ?_
  show AW sv 144 230 [.ref 71, .int (nI s), .int (V 9 2), v3, v4, v5] [] (am_toH t1) 0 0 Q = _
  have c2' : ∀ Q, AM sv 140 [.ref 71, .int 1] (am_toH t1) Q = Q (some (.int (lyE V s))) (am_toH t2) := c2
  simp only [x144_230, x144_231, x144_232, x144_235, x144_236, x144_237, Option.toList_some, Option.toList_none, List.cons_append, List.nil_append, cat_i, cat_r, cat_n, cat_f, cs_n, cs_i, cs_r, cs_l, cs_f, Nat.reduceAdd, Nat.reduceLeDiff, Nat.zero_le, if_true, if_false, true_or, or_true, am_wr_at, Nat.reduceEqDiff, not_true_eq_false, not_false_eq_true, i_one, ite_not, bI_z, bI_nz, bI_t, bI_f, bI_or, Bool.false_eq_true, Bool.true_eq_false, reduceCtorEq, c2']
  refine (e3 Q).trans ?_
  show AW sv 144 238 [.ref 71, .int (nI s), .int (lyE V s), .int (nI 16), v4, v5] [] (am_toH t3) 0 0 Q = _
  rw [x144_238]
  simp only [x144_239, x144_241, x144_307, x144_308, Option.toList_some, Option.toList_none, List.cons_append, List.nil_append, cat_i, cat_r, cat_n, cat_f, cs_n, cs_i, cs_r, cs_l, cs_f, Nat.reduceAdd, Nat.reduceLeDiff, Nat.zero_le, if_true, if_false, true_or, or_true, am_wr_at, Nat.reduceEqDiff, not_true_eq_false, not_false_eq_true, i_one, ite_not, bI_z, bI_nz, bI_t, bI_f, bI_or, Bool.false_eq_true, Bool.true_eq_false, reduceCtorEq, z16]
end I69
