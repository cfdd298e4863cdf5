/-! QUIET, WARNING -/
theorem am_upG {α : Type} {R : Nat → α → Prop} {F : Nat → α → (Option Value → am_H → Prop) → Prop} {N : Nat} {s : α} (h0 : R 0 s) (hs : ∀ i t, i < N → R i t → ∃ t', R (i + 1) t' ∧ ∀ Q, F i t Q = F (i + 1) t' Q) : ∃ t, R N t ∧ ∀ Q, F 0 s Q = F N t Q := by
  have key : ∀ i, i ≤ N → ∃ t, R i t ∧ ∀ Q, F 0 s Q = F i t Q := by
    intro i
    induction i with
    | zero => intro _; exact ⟨s, h0, fun _ => rfl⟩
    | succ i ih =>
      intro hi
      obtain ⟨t, r, e⟩ := ih (by omega)
      obtain ⟨t', r', e'⟩ := hs i t (by omega) r
      exact ⟨t', r', fun Q => (e Q).trans (e' Q)⟩
  exact key N (Nat.le_refl _)
def wqV (V : Nat → Nat → Int32) (b o : Nat) : Nat → Nat → Int32 := vset (vset V 1 b 0) 1 o (V 1 b)
def owF (V : Nat → Nat → Int32) (b o : Nat) : Int32 := sbF (wqV V b o) o 1
def qN (i : Nat) (x : Int32) : Option (Nat × Int32) → Option (Nat × Int32)
  | none => some (i, x)
  | some p => if p.2 ≤ x then some p else some (i, x)
def qF (V : Nat → Nat → Int32) (b : Nat) : Nat → Option (Nat × Int32)
  | 0 => none
  | i + 1 => if i = b ∨ V 1 i = 0 then qN i (owF V b i) (qF V b i) else qF V b i
def qB (d : Int32) : Option (Nat × Int32) → Int32
  | none => d
  | some p => nI p.1
def qL : Option (Nat × Int32) → Int32
  | none => 0
  | some p => p.2
theorem q_inv {V : Nat → Nat → Int32} {b : Nat} : ∀ i p, qF V b i = some p → p.1 < i ∧ p.2 = owF V b p.1 := by
  intro i
  induction i with
  | zero => intro p h; cases h
  | succ i ih =>
    intro p h
    simp only [qF] at h
    split at h
    · cases hq : qF V b i with
      | none =>
        rw [hq] at h
        cases h
        exact ⟨by simp, rfl⟩
      | some r =>
        rw [hq] at h
        simp only [qN] at h
        split at h
        · have e : r = p := Option.some.inj h
          have e2 := ih r hq
          rw [← e]
          exact ⟨by omega, e2.2⟩
        · cases h
          exact ⟨by simp, rfl⟩
    · have := ih p h
      exact ⟨by omega, this.2⟩
theorem q_some {V : Nat → Nat → Int32} {b : Nat} : ∀ i, b < i → ∃ p, qF V b i = some p := by
  intro i
  induction i with
  | zero => intro h; omega
  | succ i ih =>
    intro h
    simp only [qF]
    split
    · cases qF V b i with
      | none => exact ⟨_, rfl⟩
      | some r =>
        simp only [qN]
        split <;> exact ⟨_, rfl⟩
    · rename_i hn
      exact ih (by
        have : ¬ i = b := fun c => hn (Or.inl c)
        omega)
theorem wq_at {V : Nat → Nat → Int32} {b o : Nat} : wqV V b o 1 o = V 1 b := by simp [wqV, vset]
theorem okV_wq {V : Nat → Nat → Int32} {b o : Nat} (hok : okV V) (hb : b < 16) : okV (wqV V b o) := okV_set (okV_set hok (Or.inr (Or.inl ⟨rfl, Or.inl rfl⟩))) (Or.inr (Or.inl ⟨rfl, (hok.1 b hb).2.1⟩))
section I66
variable {sv : am_V} {σ τ ρ : am_S} {Q : Option Value → am_H → Prop} {k hd : Int32} {a b w o : Nat} {V : Nat → Nat → Int32}
theorem Cf_of44 (h2 : τ.2 = σ.2) (h : ∀ k, k < 44 ∨ 64 < k → τ.1 k = σ.1 k) : Cf σ τ := ⟨h2, fun k _ _ q => h k q, fun j _ _ => by rw [h 1 (by omega)]⟩
theorem c53 (hV : cV σ 1 = V) (hok : okV V) (hb : b < 16) (ho : o < 16) : ∃ τ, Cf σ τ ∧ ∀ Q, AM sv 53 [.ref 43, .ref 1, .int (nI b), .int (nI o)] (am_toH σ) Q = Q (some (.int (owF V b o))) (am_toH τ) := by
  obtain ⟨t1, v1, a1, f1, g1, e1⟩ := c28 (sv := sv) pr44 hV hok
  have b2 : am_in (nI b) 16 = true := nI_in' (by omega) (by omega)
  have b3 : (nI b).toNatClampNeg = b := nI_clamp (by omega)
  have o2 : am_in (nI o) 16 = true := nI_in' (by omega) (by omega)
  have o3 : (nI o).toNatClampNeg = o := nI_clamp (by omega)
  have r1 : t1.1 4 b = V 1 b := by
    rw [f1 4 (by omega)]
    exact (rcb hV hb).2.1
  have h1 := cV_r1 (σ := t1) (a := 44) (j := b) (x := 0) hb
  have h2 := cV_r1 (σ := am_wr t1 47 (upd (t1.1 47) b 0)) (a := 44) (j := o) (x := V 1 b) ho
  simp only [Nat.reduceAdd] at h1 h2
  rw [am_wr_eq, h1, v1] at h2
  obtain ⟨τ, R, c⟩ := c31 (sv := sv) st44 h2 (okV_wq (o := o) hok hb) ho rg11
  have e3 : wqV V b o = vset (vset V 1 b 0) 1 o (V 1 b) := rfl
  refine ⟨τ, Cf_trans (Cf_of44 ?_ (fun k hk => ?_)) (Cf_44 R), fun Q => ?_⟩
  · exact a1
  · rw [am_wr_ne (by omega), am_wr_ne (by omega)]
    exact f1 k (by omega)
  · rw [n53]
    simp only [x53_0, x53_1, x53_4, x53_5, x53_8, x53_9, x53_12, x53_15, x53_18, x53_19, x53_20, x53_21, x53_22, x53_25, x53_28, x53_31, x53_32, x53_33, x53_36, x53_39, x53_40, x53_41, x53_42, x53_43, x53_46, x53_47, x53_48, x53_51, Option.toList_some, Option.toList_none, List.cons_append, List.nil_append, cat_i, cat_r, cat_n, cat_f, cs_n, cs_i, cs_r, cs_l, cs_f, Nat.reduceAdd, Nat.reduceLeDiff, Nat.zero_le, if_true, if_false, true_or, or_true, am_wr_at, Nat.reduceEqDiff, not_true_eq_false, not_false_eq_true, i_one, ite_not, bI_z, bI_nz, bI_t, bI_f, bI_or, Bool.false_eq_true, Bool.true_eq_false, reduceCtorEq, st44, st1, e1, lc47, lc4, b2, b3, o2, o3, r1, c]
    rfl
theorem c54t {v6 : Value} {x : Option (Nat × Int32)} (hV : cV σ 1 = V) (hok : okV V) (hb : b < 16) (ho : o < 16) (hx : ∀ p, x = some p → p.1 < 16) : ∃ τ, Cf σ τ ∧ ∀ Q, AW sv 54 37 [.ref 43, .ref 1, .int (nI b), .int (qB (-1) x), .int (qL x), .int (nI o), v6] [] (am_toH σ) 0 0 Q = AW sv 54 8 [.ref 43, .ref 1, .int (nI b), .int (qB (-1) (qN o (owF V b o) x)), .int (qL (qN o (owF V b o) x)), .int (nI (o + 1)), .int (owF V b o)] [] (am_toH τ) 0 0 Q := by
  obtain ⟨τ, R, c⟩ := c53 (sv := sv) hV hok hb ho
  refine ⟨τ, R, fun Q => ?_⟩
  cases x with
  | none => simp only [x54_37, x54_38, x54_39, x54_40, x54_42, x54_45, x54_47, x54_48, x54_49, x54_52, x54_54, x54_56, x54_59, x54_61, x54_62, x54_64, x54_66, x54_69, Option.toList_some, Option.toList_none, List.cons_append, List.nil_append, cat_i, cat_r, cat_n, cat_f, cs_n, cs_i, cs_r, cs_l, cs_f, Nat.reduceAdd, Nat.reduceLeDiff, Nat.zero_le, if_true, if_false, true_or, or_true, am_wr_at, Nat.reduceEqDiff, not_true_eq_false, not_false_eq_true, i_one, ite_not, bI_z, bI_nz, bI_t, bI_f, bI_or, Bool.false_eq_true, Bool.true_eq_false, reduceCtorEq, c, qB, qL, qN, nI_1]
  | some p =>
    have y : (nI p.1 = -1) = False := eq_false (fb_b p.1 (hx p rfl)).2.2.1
    by_cases q : p.2 ≤ owF V b o
    · have q' : (p.2 ≤ owF V b o) = True := eq_true q
      simp only [x54_37, x54_38, x54_39, x54_40, x54_42, x54_45, x54_47, x54_48, x54_49, x54_52, x54_54, x54_56, x54_59, x54_61, x54_62, x54_64, x54_66, x54_69, Option.toList_some, Option.toList_none, List.cons_append, List.nil_append, cat_i, cat_r, cat_n, cat_f, cs_n, cs_i, cs_r, cs_l, cs_f, Nat.reduceAdd, Nat.reduceLeDiff, Nat.zero_le, if_true, if_false, true_or, or_true, am_wr_at, Nat.reduceEqDiff, not_true_eq_false, not_false_eq_true, i_one, ite_not, bI_z, bI_nz, bI_t, bI_f, bI_or, Bool.false_eq_true, Bool.true_eq_false, reduceCtorEq, c, qB, qL, qN, y, q', nI_1]
    · have q' : (p.2 ≤ owF V b o) = False := eq_false q
      simp only [x54_37, x54_38, x54_39, x54_40, x54_42, x54_45, x54_47, x54_48, x54_49, x54_52, x54_54, x54_56, x54_59, x54_61, x54_62, x54_64, x54_66, x54_69, Option.toList_some, Option.toList_none, List.cons_append, List.nil_append, cat_i, cat_r, cat_n, cat_f, cs_n, cs_i, cs_r, cs_l, cs_f, Nat.reduceAdd, Nat.reduceLeDiff, Nat.zero_le, if_true, if_false, true_or, or_true, am_wr_at, Nat.reduceEqDiff, not_true_eq_false, not_false_eq_true, i_one, ite_not, bI_z, bI_nz, bI_t, bI_f, bI_or, Bool.false_eq_true, Bool.true_eq_false, reduceCtorEq, c, qB, qL, qN, y, q', nI_1]
theorem c54 (hV : cV σ 1 = V) (hok : okV V) (hb : b < 16) : ∃ τ, Cf σ τ ∧ ∀ Q, AM sv 54 [.ref 43, .ref 1, .int (nI b)] (am_toH σ) Q = Q (some (.int (qB (-1) (qF V b 16)))) (am_toH τ) := by
  obtain ⟨⟨τ, v6⟩, R, e⟩ := am_upG (N := 16) (s := ((σ, .null) : am_S × Value)) (R := fun _ t => Cf σ t.1) (F := fun i t Q => AW sv 54 8 [.ref 43, .ref 1, .int (nI b), .int (qB (-1) (qF V b i)), .int (qL (qF V b i)), .int (nI i), t.2] [] (am_toH t.1) 0 0 Q) Cf_refl (by
    intro i t hi R
    obtain ⟨τ, v6⟩ := t
    have hVτ : cV τ 1 = V := (Cf_cV R).trans hV
    have r1 : τ.1 4 i = V 1 i := (rcb hVτ hi).2.1
    have e1 : ¬ 16 ≤ nI i := by
      show ¬ nI 16 ≤ nI i
      exact nI_ge (by omega) (by decide)
    have e2 : am_in (nI i) 16 = true := nI_in' (by omega) (by omega)
    have e3 : (nI i).toNatClampNeg = i := nI_clamp (by omega)
    have hq : (nI i = nI b) = (i = b) := propext (nI_eq (by omega) (by omega))
    by_cases q : i = b ∨ V 1 i = 0
    · obtain ⟨τ', R', c⟩ := c54t (sv := sv) (v6 := v6) (x := qF V b i) hVτ hok hb hi (fun p hp => by have := (q_inv i p hp).1; omega)
      refine ⟨(τ', .int (owF V b i)), Cf_trans R R', fun Q => ?_⟩
      have q' : (i = b ∨ V 1 i = 0) = True := eq_true q
      simp only [qF, q', if_true]
      rw [← c Q, x54_8]
      by_cases q1 : i = b
      · have q1' : (i = b) = True := eq_true q1
        simp only [x54_10, x54_12, x54_15, x54_17, x54_18, x54_21, x54_22, x54_25, x54_28, x54_30, x54_31, x54_34, Option.toList_some, Option.toList_none, List.cons_append, List.nil_append, cat_i, cat_r, cat_n, cat_f, cs_n, cs_i, cs_r, cs_l, cs_f, Nat.reduceAdd, Nat.reduceLeDiff, Nat.zero_le, if_true, if_false, true_or, or_true, am_wr_at, Nat.reduceEqDiff, not_true_eq_false, not_false_eq_true, i_one, ite_not, bI_z, bI_nz, bI_t, bI_f, bI_or, Bool.false_eq_true, Bool.true_eq_false, reduceCtorEq, e1, hq, q1']
      · have q1' : (i = b) = False := eq_false q1
        have q2' : (V 1 i = 0) = True := eq_true (q.resolve_left q1)
        simp only [x54_10, x54_12, x54_15, x54_17, x54_18, x54_21, x54_22, x54_25, x54_28, x54_30, x54_31, x54_34, Option.toList_some, Option.toList_none, List.cons_append, List.nil_append, cat_i, cat_r, cat_n, cat_f, cs_n, cs_i, cs_r, cs_l, cs_f, Nat.reduceAdd, Nat.reduceLeDiff, Nat.zero_le, if_true, if_false, true_or, or_true, am_wr_at, Nat.reduceEqDiff, not_true_eq_false, not_false_eq_true, i_one, ite_not, bI_z, bI_nz, bI_t, bI_f, bI_or, Bool.false_eq_true, Bool.true_eq_false, reduceCtorEq, st1, lc4, e1, e2, e3, hq, q1', r1, q2']
    · refine ⟨(τ, v6), R, fun Q => ?_⟩
      have q' : (i = b ∨ V 1 i = 0) = False := eq_false q
      have q1' : (i = b) = False := eq_false (fun c => q (Or.inl c))
      have q2' : (V 1 i = 0) = False := eq_false (fun c => q (Or.inr c))
      simp only [qF, q', if_false]
      rw [x54_8]
      simp only [x54_10, x54_12, x54_15, x54_17, x54_18, x54_21, x54_22, x54_25, x54_28, x54_30, x54_31, x54_34, x54_66, x54_69, Option.toList_some, Option.toList_none, List.cons_append, List.nil_append, cat_i, cat_r, cat_n, cat_f, cs_n, cs_i, cs_r, cs_l, cs_f, Nat.reduceAdd, Nat.reduceLeDiff, Nat.zero_le, if_true, if_false, true_or, or_true, am_wr_at, Nat.reduceEqDiff, not_true_eq_false, not_false_eq_true, i_one, ite_not, bI_z, bI_nz, bI_t, bI_f, bI_or, Bool.false_eq_true, Bool.true_eq_false, reduceCtorEq, st1, lc4, e1, e2, e3, hq, q1', r1, q2', nI_1])
  refine ⟨τ, R, fun Q => ?_⟩
  have e16 : (16 : Int32) ≤ nI 16 := by decide
  rw [n54]
  simp only [x54_0, x54_1, x54_2, x54_3, x54_5, x54_6, Option.toList_some, Option.toList_none, List.cons_append, List.nil_append, cat_i, cat_r, cat_n, cat_f, cs_n, cs_i, cs_r, cs_l, cs_f, Nat.reduceAdd, Nat.reduceLeDiff, Nat.zero_le, if_true, if_false, true_or, or_true, am_wr_at, Nat.reduceEqDiff, not_true_eq_false, not_false_eq_true, i_one, ite_not, bI_z, bI_nz, bI_t, bI_f, bI_or, Bool.false_eq_true, Bool.true_eq_false, reduceCtorEq]
  refine (e Q).trans ?_
  show AW sv 54 8 [.ref 43, .ref 1, .int (nI b), .int (qB (-1) (qF V b 16)), .int (qL (qF V b 16)), .int (nI 16), v6] [] (am_toH τ) 0 0 Q = _
  generalize qF V b 16 = z
  rw [x54_8]
  simp only [x54_10, x54_12, x54_72, x54_73, Option.toList_some, Option.toList_none, List.cons_append, List.nil_append, cat_i, cat_r, cat_n, cat_f, cs_n, cs_i, cs_r, cs_l, cs_f, Nat.reduceAdd, Nat.reduceLeDiff, Nat.zero_le, if_true, if_false, true_or, or_true, am_wr_at, Nat.reduceEqDiff, not_true_eq_false, not_false_eq_true, i_one, ite_not, bI_z, bI_nz, bI_t, bI_f, bI_or, Bool.false_eq_true, Bool.true_eq_false, reduceCtorEq, e16]
theorem mV_s {x : Int32} (hb : b < 16) : mV (am_wr σ 73 (upd (σ.1 73) b x)) = vset (mV σ) 1 b x := by
  have h := mV_row (σ := σ) (x := x) hb 1 (by decide)
  simpa using h
theorem m142t {v7 v8 : Value} {wh : Int32} {x : Option (Nat × Int32)} (hU : mV σ = vset V 1 b 0) (hok : okV V) (hb : b < 16) (ho : o < 16) (hs : ¬ V 1 b = 0) (h0 : σ.1 73 o = 0) (hx : ∀ p, x = some p → p.1 < 16) : ∃ τ : am_S, ∃ v8' : Value, τ.1 = σ.1 ∧ ∀ Q, AW sv 142 67 [.ref 71, .int (nI b), .int wh, .int (V 1 b), .int (qB (-4) x), .int (qL x), .int (nI o), v7, v8] [] (am_toH σ) 0 0 Q = AW sv 142 50 [.ref 71, .int (nI b), .int wh, .int (V 1 b), .int (qB (-4) (qN o (owF V b o) x)), .int (qL (qN o (owF V b o) x)), .int (nI (o + 1)), .int (owF V b o), v8'] [] (am_toH τ) 0 0 Q := by
  have o2 : am_in (nI o) 16 = true := nI_in' (by omega) (by omega)
  have o3 : (nI o).toNatClampNeg = o := nI_clamp (by omega)
  have h1 : mV (am_wr σ 73 (upd (σ.1 73) o (V 1 b))) = wqV V b o := by rw [mV_s ho, hU]; rfl
  obtain ⟨t1, R1, c⟩ := m139 (sv := sv) h1 (okV_wq (o := o) hok hb) ho rg11
  rw [wq_at] at c
  have hs' : (V 1 b = 0) = False := eq_false hs
  simp only [hs', if_false] at c
  have g73 : t1.1 73 = upd (σ.1 73) o (V 1 b) := by rw [R1, am_wr_eq]
  have c2 : ∀ Q, AM sv 139 [.ref 71, .int (nI o), .int 1] (am_toH (am_wr σ 73 (upd (σ.1 73) o (V 1 b)))) Q = Q (some (.int (owF V b o))) (am_toH t1) := c
  have fin : (am_wr t1 73 (upd (upd (σ.1 73) o (V 1 b)) o 0)).1 = σ.1 := by
    funext k
    by_cases q : k = 73
    · subst q
      rw [am_wr_eq]
      funext j
      rw [upd_at, upd_at]
      by_cases q2 : j = o
      · subst q2; rw [if_pos rfl, h0]
      · rw [if_neg q2, if_neg q2]
    · rw [am_wr_ne q, R1, am_wr_ne q]
  cases x with
  | none =>
    have y4 : (-4 : Int32) < 0 := by decide
    refine ⟨_, .int 1, fin, fun Q => ?_⟩
    simp only [x142_67, x142_68, x142_71, x142_73, x142_74, x142_75, x142_76, x142_78, x142_79, x142_82, x142_84, x142_85, x142_88, x142_90, x142_91, x142_92, x142_94, x142_97, x142_99, x142_101, x142_104, x142_105, x142_108, x142_109, x142_111, x142_113, x142_116, x142_118, x142_121, x142_123, x142_125, x142_127, x142_130, x142_132, x142_135, x142_137, x142_139, x142_142, Option.toList_some, Option.toList_none, List.cons_append, List.nil_append, cat_i, cat_r, cat_n, cat_f, cs_n, cs_i, cs_r, cs_l, cs_f, Nat.reduceAdd, Nat.reduceLeDiff, Nat.zero_le, if_true, if_false, true_or, or_true, am_wr_at, Nat.reduceEqDiff, not_true_eq_false, not_false_eq_true, i_one, ite_not, bI_z, bI_nz, bI_t, bI_f, bI_or, Bool.false_eq_true, Bool.true_eq_false, reduceCtorEq, lc73, o2, o3, c2, g73, qB, qL, qN, y4, nI_1]
  | some p =>
    have y : ¬ nI p.1 < 0 := nI_pos (by have := hx p rfl; omega)
    by_cases q : p.2 ≤ owF V b o
    · have q' : (p.2 ≤ owF V b o) = True := eq_true q
      refine ⟨_, .int 0, fin, fun Q => ?_⟩
      simp only [x142_67, x142_68, x142_71, x142_73, x142_74, x142_75, x142_76, x142_78, x142_79, x142_82, x142_84, x142_85, x142_88, x142_90, x142_91, x142_92, x142_94, x142_97, x142_99, x142_101, x142_104, x142_105, x142_108, x142_109, x142_111, x142_113, x142_116, x142_118, x142_121, x142_123, x142_125, x142_127, x142_130, x142_132, x142_135, x142_137, x142_139, x142_142, Option.toList_some, Option.toList_none, List.cons_append, List.nil_append, cat_i, cat_r, cat_n, cat_f, cs_n, cs_i, cs_r, cs_l, cs_f, Nat.reduceAdd, Nat.reduceLeDiff, Nat.zero_le, if_true, if_false, true_or, or_true, am_wr_at, Nat.reduceEqDiff, not_true_eq_false, not_false_eq_true, i_one, ite_not, bI_z, bI_nz, bI_t, bI_f, bI_or, Bool.false_eq_true, Bool.true_eq_false, reduceCtorEq, lc73, o2, o3, c2, g73, qB, qL, qN, y, q', nI_1]
    · have q' : (p.2 ≤ owF V b o) = False := eq_false q
      refine ⟨_, .int 1, fin, fun Q => ?_⟩
      simp only [x142_67, x142_68, x142_71, x142_73, x142_74, x142_75, x142_76, x142_78, x142_79, x142_82, x142_84, x142_85, x142_88, x142_90, x142_91, x142_92, x142_94, x142_97, x142_99, x142_101, x142_104, x142_105, x142_108, x142_109, x142_111, x142_113, x142_116, x142_118, x142_121, x142_123, x142_125, x142_127, x142_130, x142_132, x142_135, x142_137, x142_139, x142_142, Option.toList_some, Option.toList_none, List.cons_append, List.nil_append, cat_i, cat_r, cat_n, cat_f, cs_n, cs_i, cs_r, cs_l, cs_f, Nat.reduceAdd, Nat.reduceLeDiff, Nat.zero_le, if_true, if_false, true_or, or_true, am_wr_at, Nat.reduceEqDiff, not_true_eq_false, not_false_eq_true, i_one, ite_not, bI_z, bI_nz, bI_t, bI_f, bI_or, Bool.false_eq_true, Bool.true_eq_false, reduceCtorEq, lc73, o2, o3, c2, g73, qB, qL, qN, y, q', nI_1]
theorem m142 {wh : Int32} (hV : mV σ = V) (hok : okV V) (hb : b < 16) (hs : ¬ V 1 b = 0) : ∃ τ : am_S, τ.1 = σ.1 ∧ ∀ Q, AW sv 142 33 [.ref 71, .int (nI b), .int wh, .int (V 1 b), .null, .null, .null, .null, .null] [] (am_toH σ) 0 0 Q = Q (some (.int (if wh = 0 then qB (-4) (qF V b 16) else qL (qF V b 16)))) (am_toH τ) := by
  have b2 : am_in (nI b) 16 = true := nI_in' (by omega) (by omega)
  have b3 : (nI b).toNatClampNeg = b := nI_clamp (by omega)
  have rb : σ.1 73 b = V 1 b := (rmb hV hb).2.1
  have hU0 : mV (am_wr σ 73 (upd (σ.1 73) b 0)) = vset V 1 b 0 := by rw [mV_s hb, hV]
  obtain ⟨⟨τ, v7, v8⟩, R, e⟩ := am_upG (N := 16) (s := ((am_wr σ 73 (upd (σ.1 73) b 0), .null, .null) : am_S × Value × Value)) (R := fun _ t => t.1.1 = (am_wr σ 73 (upd (σ.1 73) b 0)).1) (F := fun i t Q => AW sv 142 50 [.ref 71, .int (nI b), .int wh, .int (V 1 b), .int (qB (-4) (qF V b i)), .int (qL (qF V b i)), .int (nI i), t.2.1, t.2.2] [] (am_toH t.1) 0 0 Q) rfl (by
    intro i t hi R
    obtain ⟨τ, v7, v8⟩ := t
    have R : τ.1 = (am_wr σ 73 (upd (σ.1 73) b 0)).1 := R
    have hU : mV τ = vset V 1 b 0 := (mV_1 R).trans hU0
    have r1 : τ.1 73 i = vset V 1 b 0 1 i := (rmb hU hi).2.1
    have r2 : vset V 1 b 0 1 i = if i = b then 0 else V 1 i := by simp [vset]
    rw [r2] at r1
    have e1 : ¬ 16 ≤ nI i := by
      show ¬ nI 16 ≤ nI i
      exact nI_ge (by omega) (by decide)
    have e2 : am_in (nI i) 16 = true := nI_in' (by omega) (by omega)
    have e3 : (nI i).toNatClampNeg = i := nI_clamp (by omega)
    by_cases q : i = b ∨ V 1 i = 0
    · have r0 : τ.1 73 i = 0 := by
        rw [r1]
        rcases q with q | q
        · rw [if_pos q]
        · rw [q, ite_self]
      obtain ⟨τ', v8', R', c⟩ := m142t (sv := sv) (v7 := v7) (v8 := v8) (wh := wh) (x := qF V b i) hU hok hb hi hs r0 (fun p hp => by have := (q_inv i p hp).1; omega)
      refine ⟨(τ', .int (owF V b i), v8'), R'.trans R, fun Q => ?_⟩
      have q' : (i = b ∨ V 1 i = 0) = True := eq_true q
      simp only [qF, q', if_true]
      rw [← c Q, x142_50]
      simp only [x142_52, x142_54, x142_57, x142_58, x142_61, x142_63, x142_64, Option.toList_some, Option.toList_none, List.cons_append, List.nil_append, cat_i, cat_r, cat_n, cat_f, cs_n, cs_i, cs_r, cs_l, cs_f, Nat.reduceAdd, Nat.reduceLeDiff, Nat.zero_le, if_true, if_false, true_or, or_true, am_wr_at, Nat.reduceEqDiff, not_true_eq_false, not_false_eq_true, i_one, ite_not, bI_z, bI_nz, bI_t, bI_f, bI_or, Bool.false_eq_true, Bool.true_eq_false, reduceCtorEq, lc73, e1, e2, e3, r0]
    · have r0 : (τ.1 73 i = 0) = False := by
        rw [r1, if_neg (fun c => q (Or.inl c))]
        exact eq_false (fun c => q (Or.inr c))
      refine ⟨(τ, v7, v8), R, fun Q => ?_⟩
      have q' : (i = b ∨ V 1 i = 0) = False := eq_false q
      simp only [qF, q', if_false]
      rw [x142_50]
      simp only [x142_52, x142_54, x142_57, x142_58, x142_61, x142_63, x142_64, x142_139, x142_142, Option.toList_some, Option.toList_none, List.cons_append, List.nil_append, cat_i, cat_r, cat_n, cat_f, cs_n, cs_i, cs_r, cs_l, cs_f, Nat.reduceAdd, Nat.reduceLeDiff, Nat.zero_le, if_true, if_false, true_or, or_true, am_wr_at, Nat.reduceEqDiff, not_true_eq_false, not_false_eq_true, i_one, ite_not, bI_z, bI_nz, bI_t, bI_f, bI_or, Bool.false_eq_true, Bool.true_eq_false, reduceCtorEq, lc73, e1, e2, e3, r0, nI_1])
  have R : τ.1 = (am_wr σ 73 (upd (σ.1 73) b 0)).1 := R
  have e16 : (16 : Int32) ≤ nI 16 := by decide
  refine ⟨am_wr τ 73 (upd (τ.1 73) b (V 1 b)), ?_, fun Q => ?_⟩
  · funext k
    by_cases q : k = 73
    · subst q
      rw [am_wr_eq, R, am_wr_eq]
      funext j
      rw [upd_at, upd_at]
      by_cases q2 : j = b
      · subst q2; rw [if_pos rfl, rb]
      · rw [if_neg q2, if_neg q2]
    · rw [am_wr_ne q, R, am_wr_ne q]
  · simp only [x142_33, x142_35, x142_37, x142_38, x142_40, x142_41, x142_44, x142_45, x142_46, x142_47, x142_48, Option.toList_some, Option.toList_none, List.cons_append, List.nil_append, cat_i, cat_r, cat_n, cat_f, cs_n, cs_i, cs_r, cs_l, cs_f, Nat.reduceAdd, Nat.reduceLeDiff, Nat.zero_le, if_true, if_false, true_or, or_true, am_wr_at, Nat.reduceEqDiff, not_true_eq_false, not_false_eq_true, i_one, ite_not, bI_z, bI_nz, bI_t, bI_f, bI_or, Bool.false_eq_true, Bool.true_eq_false, reduceCtorEq, lc73, b2, b3]
    refine (e Q).trans ?_
    show AW sv 142 50 [.ref 71, .int (nI b), .int wh, .int (V 1 b), .int (qB (-4) (qF V b 16)), .int (qL (qF V b 16)), .int (nI 16), v7, v8] [] (am_toH τ) 0 0 Q = _
    generalize qF V b 16 = z
    rw [x142_50]
    by_cases q : wh = 0
    · have q' : (wh = 0) = True := eq_true q
      simp only [x142_52, x142_54, x142_145, x142_146, x142_149, x142_150, x142_151, x142_152, x142_153, x142_156, x142_158, x142_161, x142_163, Option.toList_some, Option.toList_none, List.cons_append, List.nil_append, cat_i, cat_r, cat_n, cat_f, cs_n, cs_i, cs_r, cs_l, cs_f, Nat.reduceAdd, Nat.reduceLeDiff, Nat.zero_le, if_true, if_false, true_or, or_true, am_wr_at, Nat.reduceEqDiff, not_true_eq_false, not_false_eq_true, i_one, ite_not, bI_z, bI_nz, bI_t, bI_f, bI_or, Bool.false_eq_true, Bool.true_eq_false, reduceCtorEq, lc73, b2, b3, e16, q']
    · have q' : (wh = 0) = False := eq_false q
      simp only [x142_52, x142_54, x142_145, x142_146, x142_149, x142_150, x142_151, x142_152, x142_153, x142_156, x142_158, x142_161, x142_163, Option.toList_some, Option.toList_none, List.cons_append, List.nil_append, cat_i, cat_r, cat_n, cat_f, cs_n, cs_i, cs_r, cs_l, cs_f, Nat.reduceAdd, Nat.reduceLeDiff, Nat.zero_le, if_true, if_false, true_or, or_true, am_wr_at, Nat.reduceEqDiff, not_true_eq_false, not_false_eq_true, i_one, ite_not, bI_z, bI_nz, bI_t, bI_f, bI_or, Bool.false_eq_true, Bool.true_eq_false, reduceCtorEq, lc73, b2, b3, e16, q']
/-- quiet -/
theorem sim17 : ∀ x0 x1 : Int32, SimOK sv Inv 78 142 [.int x0, .int x1] := by
  intro b wh
  refine sim_q (fun V hok => ?_)
  by_cases h0 : am_in b 16 = true
  · by_cases h1 : am_in wh 2 = true
    · obtain ⟨b, hb, rfl⟩ := in_nI h0 (by decide)
      have b3 : (nI b).toNatClampNeg = b := nI_clamp (by omega)
      by_cases hs : V 1 b = 0
      · have hs2 : (V 1 b = 0) = True := eq_true hs
        refine ⟨-2, fun σ hV => ⟨σ, Cf_refl, fun Q => ?_⟩, fun σ hV => ⟨σ, Mf_refl, hV, fun Q => ?_⟩⟩
        · have r1 : σ.1 4 b = V 1 b := (rcb hV hb).2.1
          rw [n78]
          simp only [x78_0, x78_1, x78_3, x78_6, x78_9, x78_10, x78_11, x78_14, x78_17, x78_18, x78_19, x78_20, x78_23, x78_26, x78_29, x78_30, x78_31, x78_34, x78_36, x78_37, x78_38, x78_41, x78_42, x78_45, x78_46, x78_49, x78_50, x78_51, x78_54, x78_55, x78_58, x78_59, x78_62, x78_63, x78_66, x78_67, x78_68, x78_71, Option.toList_some, Option.toList_none, List.cons_append, List.nil_append, cat_i, cat_r, cat_n, cat_f, cs_n, cs_i, cs_r, cs_l, cs_f, Nat.reduceAdd, Nat.reduceLeDiff, Nat.zero_le, if_true, if_false, true_or, or_true, am_wr_at, Nat.reduceEqDiff, not_true_eq_false, not_false_eq_true, i_one, ite_not, bI_z, bI_nz, bI_t, bI_f, bI_or, Bool.false_eq_true, Bool.true_eq_false, reduceCtorEq, lt1, lt2, lt3, lt4, lt5, lt10, lt12, lt16, lt100, lt1000, bt1, bt2, bt3, bt4, bt5, bt10, bt12, bt16, bt100, bt1000, bt6, bt25, bt100000, st1, s97, h0, h1, lc4, b3, r1, hs2]
        · have r1 : σ.1 73 b = V 1 b := (rmb hV hb).2.1
          rw [n142]
          simp only [x142_0, x142_1, x142_4, x142_7, x142_8, x142_9, x142_10, x142_11, x142_14, x142_17, x142_18, x142_19, x142_20, x142_23, x142_24, x142_25, x142_26, x142_27, x142_30, x142_32, Option.toList_some, Option.toList_none, List.cons_append, List.nil_append, cat_i, cat_r, cat_n, cat_f, cs_n, cs_i, cs_r, cs_l, cs_f, Nat.reduceAdd, Nat.reduceLeDiff, Nat.zero_le, if_true, if_false, true_or, or_true, am_wr_at, Nat.reduceEqDiff, not_true_eq_false, not_false_eq_true, i_one, ite_not, bI_z, bI_nz, bI_t, bI_f, bI_or, Bool.false_eq_true, Bool.true_eq_false, reduceCtorEq, lt1, lt2, lt3, lt4, lt5, lt10, lt12, lt16, lt100, lt1000, bt1, bt2, bt3, bt4, bt5, bt10, bt12, bt16, bt100, bt1000, bt6, bt25, bt100000, s104, s106, h0, h1, lc73, b3, r1, hs2]
      · have hs2 : (V 1 b = 0) = False := eq_false hs
        obtain ⟨p, hp⟩ := q_some (V := V) (b := b) 16 hb
        obtain ⟨p1, p2⟩ := q_inv 16 p hp
        refine ⟨if wh = 0 then nI p.1 else p.2, fun σ hV => ?_, fun σ hV => ?_⟩
        · have r1 : σ.1 4 b = V 1 b := (rcb hV hb).2.1
          obtain ⟨t1, R1, c1⟩ := c54 (sv := sv) hV hok hb
          rw [hp] at c1
          by_cases q : wh = 0
          · have q' : (wh = 0) = True := eq_true q
            refine ⟨t1, R1, fun Q => ?_⟩
            rw [n78]
            simp only [x78_0, x78_1, x78_3, x78_6, x78_9, x78_10, x78_11, x78_14, x78_17, x78_18, x78_19, x78_20, x78_23, x78_26, x78_29, x78_30, x78_31, x78_34, x78_36, x78_37, x78_38, x78_41, x78_42, x78_45, x78_46, x78_49, x78_50, x78_51, x78_54, x78_55, x78_58, x78_59, x78_62, x78_63, x78_66, x78_67, x78_68, x78_71, Option.toList_some, Option.toList_none, List.cons_append, List.nil_append, cat_i, cat_r, cat_n, cat_f, cs_n, cs_i, cs_r, cs_l, cs_f, Nat.reduceAdd, Nat.reduceLeDiff, Nat.zero_le, if_true, if_false, true_or, or_true, am_wr_at, Nat.reduceEqDiff, not_true_eq_false, not_false_eq_true, i_one, ite_not, bI_z, bI_nz, bI_t, bI_f, bI_or, Bool.false_eq_true, Bool.true_eq_false, reduceCtorEq, lt1, lt2, lt3, lt4, lt5, lt10, lt12, lt16, lt100, lt1000, bt1, bt2, bt3, bt4, bt5, bt10, bt12, bt16, bt100, bt1000, bt6, bt25, bt100000, st1, s97, h0, h1, lc4, b3, r1, hs2, c1, q', qB]
          · have q' : (wh = 0) = False := eq_false q
            obtain ⟨t2, R2, c2⟩ := c53 (sv := sv) ((Cf_cV R1).trans hV) hok hb p1
            refine ⟨t2, Cf_trans R1 R2, fun Q => ?_⟩
            rw [n78]
            simp only [x78_0, x78_1, x78_3, x78_6, x78_9, x78_10, x78_11, x78_14, x78_17, x78_18, x78_19, x78_20, x78_23, x78_26, x78_29, x78_30, x78_31, x78_34, x78_36, x78_37, x78_38, x78_41, x78_42, x78_45, x78_46, x78_49, x78_50, x78_51, x78_54, x78_55, x78_58, x78_59, x78_62, x78_63, x78_66, x78_67, x78_68, x78_71, Option.toList_some, Option.toList_none, List.cons_append, List.nil_append, cat_i, cat_r, cat_n, cat_f, cs_n, cs_i, cs_r, cs_l, cs_f, Nat.reduceAdd, Nat.reduceLeDiff, Nat.zero_le, if_true, if_false, true_or, or_true, am_wr_at, Nat.reduceEqDiff, not_true_eq_false, not_false_eq_true, i_one, ite_not, bI_z, bI_nz, bI_t, bI_f, bI_or, Bool.false_eq_true, Bool.true_eq_false, reduceCtorEq, lt1, lt2, lt3, lt4, lt5, lt10, lt12, lt16, lt100, lt1000, bt1, bt2, bt3, bt4, bt5, bt10, bt12, bt16, bt100, bt1000, bt6, bt25, bt100000, st1, s97, h0, h1, lc4, b3, r1, hs2, c1, q', qB, c2, p2]
        · have r1 : σ.1 73 b = V 1 b := (rmb hV hb).2.1
          obtain ⟨τ, R, c⟩ := m142 (sv := sv) (wh := wh) hV hok hb hs
          refine ⟨τ, Mf_1 R, (mV_1 R).trans hV, fun Q => ?_⟩
          rw [hp] at c
          refine Eq.trans ?_ (c Q)
          rw [n142]
          simp only [x142_0, x142_1, x142_4, x142_7, x142_8, x142_9, x142_10, x142_11, x142_14, x142_17, x142_18, x142_19, x142_20, x142_23, x142_24, x142_25, x142_26, x142_27, x142_30, x142_32, Option.toList_some, Option.toList_none, List.cons_append, List.nil_append, cat_i, cat_r, cat_n, cat_f, cs_n, cs_i, cs_r, cs_l, cs_f, Nat.reduceAdd, Nat.reduceLeDiff, Nat.zero_le, if_true, if_false, true_or, or_true, am_wr_at, Nat.reduceEqDiff, not_true_eq_false, not_false_eq_true, i_one, ite_not, bI_z, bI_nz, bI_t, bI_f, bI_or, Bool.false_eq_true, Bool.true_eq_false, reduceCtorEq, lt1, lt2, lt3, lt4, lt5, lt10, lt12, lt16, lt100, lt1000, bt1, bt2, bt3, bt4, bt5, bt10, bt12, bt16, bt100, bt1000, bt6, bt25, bt100000, s104, s106, h0, h1, lc73, b3, r1, hs2]
    · have h1 : am_in wh 2 = false := by simpa using h1
      exact ⟨-1, fun σ hV => ⟨σ, Cf_refl, fun Q => by rw [n78]; simp only [x78_0, x78_1, x78_3, x78_6, x78_9, x78_10, x78_11, x78_14, x78_17, x78_18, x78_19, x78_20, x78_23, x78_26, x78_29, x78_30, x78_31, x78_34, x78_36, x78_37, x78_38, x78_41, x78_42, x78_45, x78_46, x78_49, x78_50, x78_51, x78_54, x78_55, x78_58, x78_59, x78_62, x78_63, x78_66, x78_67, x78_68, x78_71, Option.toList_some, Option.toList_none, List.cons_append, List.nil_append, cat_i, cat_r, cat_n, cat_f, cs_n, cs_i, cs_r, cs_l, cs_f, Nat.reduceAdd, Nat.reduceLeDiff, Nat.zero_le, if_true, if_false, true_or, or_true, am_wr_at, Nat.reduceEqDiff, not_true_eq_false, not_false_eq_true, i_one, ite_not, bI_z, bI_nz, bI_t, bI_f, bI_or, Bool.false_eq_true, Bool.true_eq_false, reduceCtorEq, lt1, lt2, lt3, lt4, lt5, lt10, lt12, lt16, lt100, lt1000, bt1, bt2, bt3, bt4, bt5, bt10, bt12, bt16, bt100, bt1000, bt6, bt25, bt100000, s97, h0, h1]⟩, fun σ hV => ⟨σ, Mf_refl, hV, fun Q => by rw [n142]; simp only [x142_0, x142_1, x142_4, x142_7, x142_8, x142_9, x142_10, x142_11, x142_14, x142_17, x142_18, x142_19, x142_20, x142_23, x142_24, x142_25, x142_26, x142_27, x142_30, x142_32, Option.toList_some, Option.toList_none, List.cons_append, List.nil_append, cat_i, cat_r, cat_n, cat_f, cs_n, cs_i, cs_r, cs_l, cs_f, Nat.reduceAdd, Nat.reduceLeDiff, Nat.zero_le, if_true, if_false, true_or, or_true, am_wr_at, Nat.reduceEqDiff, not_true_eq_false, not_false_eq_true, i_one, ite_not, bI_z, bI_nz, bI_t, bI_f, bI_or, Bool.false_eq_true, Bool.true_eq_false, reduceCtorEq, lt1, lt2, lt3, lt4, lt5, lt10, lt12, lt16, lt100, lt1000, bt1, bt2, bt3, bt4, bt5, bt10, bt12, bt16, bt100, bt1000, bt6, bt25, bt100000, s104, s106, h0, h1]⟩⟩
  · have h0 : am_in b 16 = false := by simpa using h0
    exact ⟨-1, fun σ hV => ⟨σ, Cf_refl, fun Q => by rw [n78]; simp only [x78_0, x78_1, x78_3, x78_6, x78_9, x78_10, x78_11, x78_14, x78_17, x78_18, x78_19, x78_20, x78_23, x78_26, x78_29, x78_30, x78_31, x78_34, x78_36, x78_37, x78_38, x78_41, x78_42, x78_45, x78_46, x78_49, x78_50, x78_51, x78_54, x78_55, x78_58, x78_59, x78_62, x78_63, x78_66, x78_67, x78_68, x78_71, Option.toList_some, Option.toList_none, List.cons_append, List.nil_append, cat_i, cat_r, cat_n, cat_f, cs_n, cs_i, cs_r, cs_l, cs_f, Nat.reduceAdd, Nat.reduceLeDiff, Nat.zero_le, if_true, if_false, true_or, or_true, am_wr_at, Nat.reduceEqDiff, not_true_eq_false, not_false_eq_true, i_one, ite_not, bI_z, bI_nz, bI_t, bI_f, bI_or, Bool.false_eq_true, Bool.true_eq_false, reduceCtorEq, lt1, lt2, lt3, lt4, lt5, lt10, lt12, lt16, lt100, lt1000, bt1, bt2, bt3, bt4, bt5, bt10, bt12, bt16, bt100, bt1000, bt6, bt25, bt100000, s97, h0]⟩, fun σ hV => ⟨σ, Mf_refl, hV, fun Q => by rw [n142]; simp only [x142_0, x142_1, x142_4, x142_7, x142_8, x142_9, x142_10, x142_11, x142_14, x142_17, x142_18, x142_19, x142_20, x142_23, x142_24, x142_25, x142_26, x142_27, x142_30, x142_32, Option.toList_some, Option.toList_none, List.cons_append, List.nil_append, cat_i, cat_r, cat_n, cat_f, cs_n, cs_i, cs_r, cs_l, cs_f, Nat.reduceAdd, Nat.reduceLeDiff, Nat.zero_le, if_true, if_false, true_or, or_true, am_wr_at, Nat.reduceEqDiff, not_true_eq_false, not_false_eq_true, i_one, ite_not, bI_z, bI_nz, bI_t, bI_f, bI_or, Bool.false_eq_true, Bool.true_eq_false, reduceCtorEq, lt1, lt2, lt3, lt4, lt5, lt10, lt12, lt16, lt100, lt1000, bt1, bt2, bt3, bt4, bt5, bt10, bt12, bt16, bt100, bt1000, bt6, bt25, bt100000, s104, s106, h0]⟩⟩
end I66
