/-! FITS -/
def fiB (V : Nat → Nat → Int32) (p : Nat) : Nat := (V 14 p).toNatClampNeg
def fiP (V : Nat → Nat → Int32) (p : Nat) : Nat := (V 15 p).toNatClampNeg
def fiF (V : Nat → Nat → Int32) (p j : Nat) : Nat := pN V (fiB V p) 0 0 1 j
def isB (f : Nat → Nat) (o : Nat) : Nat → Bool
  | 0 => true
  | j + 1 => isB f o j && decide (f j ≤ o)
def gM (f : Nat → Nat) : Nat → Nat
  | 0 => 0
  | j + 1 => max (gM f j) (f j)
def ftN (V : Nat → Nat → Int32) : Nat → Nat
  | 0 => 0
  | p + 1 => if isB (fiF V p) (fiF V p (fiP V p)) 4 = true then ftN V p + 1 else ftN V p
def fiN (V : Nat → Nat → Int32) (l : Nat) : Nat := ftN (vset V 5 0 (nI l)) (V 9 3).toNatClampNeg
def lkF (V : Nat → Nat → Int32) : Nat → Nat × Nat
  | 0 => (0, fiN V 0)
  | i + 1 => if fiN V (i + 1) ≤ (lkF V i).2 then lkF V i else (i + 1, fiN V (i + 1))
def lkM (V : Nat → Nat → Int32) : Nat → Int32 × Int32
  | 0 => (0, -1)
  | i + 1 => (nI (lkF V i).1, nI (lkF V i).2)
theorem ft_le {V : Nat → Nat → Int32} : ∀ p, ftN V p ≤ p := by
  intro p
  induction p with
  | zero => exact Nat.le_refl _
  | succ p ih =>
    simp only [ftN]
    split <;> omega
theorem lk_inv {V : Nat → Nat → Int32} : ∀ i, (lkF V i).1 ≤ i ∧ (lkF V i).2 = fiN V (lkF V i).1 := by
  intro i
  induction i with
  | zero => exact ⟨Nat.le_refl _, rfl⟩
  | succ i ih =>
    simp only [lkF]
    split
    · exact ⟨by omega, ih.2⟩
    · exact ⟨Nat.le_refl _, rfl⟩
theorem gM_is {f : Nat → Nat} {p : Nat} (hp : p < 4) : (f p = gM f 4) ↔ isB f (f p) 4 = true := by
  have e : gM f 4 = max (max (max (max 0 (f 0)) (f 1)) (f 2)) (f 3) := rfl
  have e2 : isB f (f p) 4 = ((((true && decide (f 0 ≤ f p)) && decide (f 1 ≤ f p)) && decide (f 2 ≤ f p)) && decide (f 3 ≤ f p)) := rfl
  rw [e, e2]
  simp only [Bool.true_and, Bool.and_eq_true, decide_eq_true_eq]
  rcases (show p = 0 ∨ p = 1 ∨ p = 2 ∨ p = 3 by omega) with rfl | rfl | rfl | rfl <;> omega
theorem mxn {g p : Nat} (hg : g ≤ 109) (hp : p ≤ 109) : (if nI g < nI p then nI p else nI g) = nI (max g p) := by
  by_cases q : g < p
  · rw [if_pos (nI_lt q (by omega)), show max g p = p by omega]
  · rw [if_neg (nI_nlt (by omega) (by omega)), show max g p = g by omega]
theorem gM_le {f : Nat → Nat} (h : ∀ j, f j ≤ 109) : ∀ j, gM f j ≤ 109 := by
  intro j
  induction j with
  | zero => exact Nat.zero_le _
  | succ j ih =>
    have := h j
    simp only [gM]
    omega
theorem rg00 : rg 0 0 9 := ⟨by decide, by decide⟩
theorem vP {V : Nat → Nat → Int32} (hok : okV V) : ∃ m, m ≤ 24 ∧ V 9 3 = nI m ∧ (V 9 3).toNatClampNeg = m := by
  obtain ⟨n, hn, en⟩ := rg_nI (n := 24) (by decide) hok.2.2.2.2.2.1
  exact ⟨n, hn, en, by rw [en, nI_clamp (by omega)]⟩
theorem vPt {V : Nat → Nat → Int32} (hok : okV V) {p : Nat} (hp : p < (V 9 3).toNatClampNeg) : V 14 p = nI (fiB V p) ∧ fiB V p < 16 ∧ V 15 p = nI (fiP V p) ∧ fiP V p < 4 := by
  obtain ⟨q1, q2⟩ := hok.2.2.2.2.2.2.2.2 p hp
  obtain ⟨x, hx, ex⟩ := rg_nI (n := 15) (by decide) q1
  obtain ⟨y, hy, ey⟩ := rg_nI (n := 3) (by decide) q2
  unfold fiB fiP
  rw [ex, ey, nI_clamp (by omega), nI_clamp (by omega)]
  exact ⟨rfl, by omega, rfl, by omega⟩
section I68
variable {sv : am_V} {σ τ ρ : am_S} {Q : Option Value → am_H → Prop} {k kd db x : Int32} {a b w o : Nat} {V : Nat → Nat → Int32}
theorem m131 (hV : mV σ = V) (hb : b < 16) : AM sv 131 [.ref 71, .int kd, .int db, .int (nI b), .int x, .int k] (am_toH σ) Q = Q (some (.int (pV V b kd db k x))) (am_toH σ) := by
  obtain ⟨r0, r1, r2, r3, r4⟩ := rmb hV hb
  have c := s131 (sv := sv) (Q := Q) (σ := σ) (kd := kd) (db := db) (k := k) (p := x) hb
  simp only [r0, r1, r2, r3, rml hV (show 0 < 5 by decide), rml hV (show 1 < 5 by decide), rml hV (show 3 < 5 by decide)] at c
  exact c
theorem c36 (hV : cV σ 44 = V) (hok : okV V) : ∃ τ, Cx 44 σ τ ∧ ∀ Q, AM sv 36 [.ref 44] (am_toH σ) Q = Q (some (.int (nI (ftN V (V 9 3).toNatClampNeg)))) (am_toH τ) := by
  obtain ⟨m, hm, em, cm⟩ := vP hok
  obtain ⟨⟨τ, v3, v4⟩, R, e⟩ := am_upG (N := m) (s := ((σ, .null, .null) : am_S × Value × Value)) (R := fun _ t => Cx 44 σ t.1) (F := fun i t Q => AW sv 36 4 [.ref 44, .int (nI (ftN V i)), .int (nI i), t.2.1, t.2.2] [] (am_toH t.1) 0 0 Q) Cx_refl (by
    intro i t hi R
    obtain ⟨τ, v3, v4⟩ := t
    have hVτ : cV τ 44 = V := (Cx_cV R).trans hV
    have hi' : i < (V 9 3).toNatClampNeg := by rw [cm]; exact hi
    obtain ⟨p1, p2, p3, p4⟩ := vPt hok hi'
    obtain ⟨o1, o2, o3, o4, -⟩ := hok.1 (fiB V i) p2
    obtain ⟨r0, r1, r2, r3, r4⟩ := rcb hVτ p2
    have l0 := rcl hVτ (show 0 < 5 by decide)
    have l1 := rcl hVτ (show 1 < 5 by decide)
    have l3 := rcl hVτ (show 3 < 5 by decide)
    have g14 : τ.1 61 i = nI (fiB V i) := (rcp hVτ hi').1.trans p1
    have g15 : τ.1 62 i = nI (fiP V i) := (rcp hVτ hi').2.trans p3
    have h3 : τ.1 60 2 = nI m := (rc hVτ).2.2.2.trans em
    have c29 := fun Q => s29 (sv := sv) (Q := Q) (σ := τ) (kd := 0) (db := 0) (k := 1) st44 p2 (by rw [r0, r1, r2, r3]; exact ⟨o1, o2, o3, o4⟩)
    have hP : ∀ j, j < 4 → puF (τ.1 (44 + 20)) (V 2 (fiB V i)) (V 3 (fiB V i)) (V 0 (fiB V i)) (V 1 (fiB V i)) (V 5 0) (V 5 1) (V 5 3) 0 0 1 j = nI (fiF V i j) := fun j hj => (puF_at o1 o2 o3 o4 hj).trans (pN_eq hok p2 rg00 rg11 j).1
    rw [r0, r1, r2, r3, l0, l1, l3] at c29
    generalize puF (τ.1 (44 + 20)) (V 2 (fiB V i)) (V 3 (fiB V i)) (V 0 (fiB V i)) (V 1 (fiB V i)) (V 5 0) (V 5 1) (V 5 3) 0 0 1 = P at c29 hP
    simp only [Nat.reduceAdd] at c29
    have fl : ∀ j, fiF V i j ≤ 109 := fun j => (pN_eq hok p2 rg00 rg11 j).2.2
    have e0 : ¬ nI m ≤ nI i := nI_ge hi (by omega)
    have e2 : am_in (nI i) 24 = true := nI_in' (by omega) (by omega)
    have e3 : (nI i).toNatClampNeg = i := nI_clamp (by omega)
    have inn := fun Q => am_up (N := 4) (f := fun j => AW sv 36 36 [.ref 44, .int (nI (ftN V i)), .int (nI i), .int (nI (gM (fiF V i) j)), .int (nI j)] [] (am_toH (am_wr τ 64 P)) 0 0 Q) (by
      intro j hj
      have y1 : ¬ 4 ≤ nI j := by
        show ¬ nI 4 ≤ nI j
        exact nI_ge (by omega) (by decide)
      have y2 : am_in (nI j) 4 = true := nI_in' (by omega) (by omega)
      have y3 : (nI j).toNatClampNeg = j := nI_clamp (by omega)
      have y4 := mxn (gM_le fl j) (fl j)
      simp only [gM]
      rw [x36_36]
      simp only [x36_38, x36_39, x36_42, x36_43, x36_44, x36_47, x36_49, x36_50, x36_53, x36_54, x36_57, Option.toList_some, Option.toList_none, List.cons_append, List.nil_append, cat_i, cat_r, cat_n, cat_f, cs_n, cs_i, cs_r, cs_l, cs_f, Nat.reduceAdd, Nat.reduceLeDiff, Nat.zero_le, if_true, if_false, true_or, or_true, am_wr_at, Nat.reduceEqDiff, not_true_eq_false, not_false_eq_true, i_one, ite_not, bI_z, bI_nz, bI_t, bI_f, bI_or, Bool.false_eq_true, Bool.true_eq_false, reduceCtorEq, st44, lc64, y1, y2, y3, hP j hj, y4, nI_1]) 4 (Nat.le_refl _)
    have z4 : (4 : Int32) ≤ nI 4 := by decide
    have q2 : am_in (nI (fiP V i)) 4 = true := nI_in' (by omega) (by omega)
    have q3 : (nI (fiP V i)).toNatClampNeg = fiP V i := nI_clamp (by omega)
    have q4 := hP (fiP V i) p4
    have q5 : (nI (fiF V i (fiP V i)) = nI (gM (fiF V i) 4)) = (isB (fiF V i) (fiF V i (fiP V i)) 4 = true) := propext ((nI_eq (by have := fl (fiP V i); omega) (by have := gM_le fl 4; omega)).trans (gM_is p4))
    refine ⟨(am_wr τ 64 P, .int (nI (gM (fiF V i) 4)), .int (nI 4)), Cx_trans R ⟨rfl, fun k q1 q2 => am_wr_ne q2, fun j _ _ => by rw [am_wr_ne (by decide)]⟩, fun Q => ?_⟩
    have st : AW sv 36 4 [.ref 44, .int (nI (ftN V i)), .int (nI i), v3, v4] [] (am_toH τ) 0 0 Q = AW sv 36 36 [.ref 44, .int (nI (ftN V i)), .int (nI i), .int 0, .int 0] [] (am_toH (am_wr τ 64 P)) 0 0 Q := by
      rw [x36_4]
      simp only [x36_5, x36_6, x36_9, x36_12, x36_15, x36_16, x36_17, x36_18, x36_19, x36_22, x36_25, x36_26, x36_27, x36_28, x36_31, x36_32, x36_33, x36_34, Option.toList_some, Option.toList_none, List.cons_append, List.nil_append, cat_i, cat_r, cat_n, cat_f, cs_n, cs_i, cs_r, cs_l, cs_f, Nat.reduceAdd, Nat.reduceLeDiff, Nat.zero_le, if_true, if_false, true_or, or_true, am_wr_at, Nat.reduceEqDiff, not_true_eq_false, not_false_eq_true, i_one, ite_not, bI_z, bI_nz, bI_t, bI_f, bI_or, Bool.false_eq_true, Bool.true_eq_false, reduceCtorEq, st44, lc61, h3, e0, e2, e3, g14, c29]
    refine st.trans ((inn Q).trans ?_)
    show AW sv 36 36 [.ref 44, .int (nI (ftN V i)), .int (nI i), .int (nI (gM (fiF V i) 4)), .int (nI 4)] [] (am_toH (am_wr τ 64 P)) 0 0 Q = _
    simp only [ftN]
    by_cases q : isB (fiF V i) (fiF V i (fiP V i)) 4 = true
    · have q' : (isB (fiF V i) (fiF V i (fiP V i)) 4 = true) = True := eq_true q
      rw [q'] at q5
      simp only [q', if_true]
      generalize gM (fiF V i) 4 = g at q5 ⊢
      rw [x36_36]
      simp only [x36_38, x36_39, x36_60, x36_61, x36_64, x36_65, x36_68, x36_71, x36_72, x36_73, x36_74, x36_75, x36_78, x36_81, x36_84, Option.toList_some, Option.toList_none, List.cons_append, List.nil_append, cat_i, cat_r, cat_n, cat_f, cs_n, cs_i, cs_r, cs_l, cs_f, Nat.reduceAdd, Nat.reduceLeDiff, Nat.zero_le, if_true, if_false, true_or, or_true, am_wr_at, Nat.reduceEqDiff, not_true_eq_false, not_false_eq_true, i_one, ite_not, bI_z, bI_nz, bI_t, bI_f, bI_or, Bool.false_eq_true, Bool.true_eq_false, reduceCtorEq, st44, lc64, lc62, z4, e2, e3, g15, q2, q3, q4, q5, nI_1]
    · have q' : (isB (fiF V i) (fiF V i (fiP V i)) 4 = true) = False := eq_false q
      rw [q'] at q5
      simp only [q', if_false]
      generalize gM (fiF V i) 4 = g at q5 ⊢
      rw [x36_36]
      simp only [x36_38, x36_39, x36_60, x36_61, x36_64, x36_65, x36_68, x36_71, x36_72, x36_73, x36_74, x36_75, x36_78, x36_81, x36_84, Option.toList_some, Option.toList_none, List.cons_append, List.nil_append, cat_i, cat_r, cat_n, cat_f, cs_n, cs_i, cs_r, cs_l, cs_f, Nat.reduceAdd, Nat.reduceLeDiff, Nat.zero_le, if_true, if_false, true_or, or_true, am_wr_at, Nat.reduceEqDiff, not_true_eq_false, not_false_eq_true, i_one, ite_not, bI_z, bI_nz, bI_t, bI_f, bI_or, Bool.false_eq_true, Bool.true_eq_false, reduceCtorEq, st44, lc64, lc62, z4, e2, e3, g15, q2, q3, q4, q5, nI_1])
  refine ⟨τ, R, fun Q => ?_⟩
  have h3 : τ.1 60 2 = nI m := (rc ((Cx_cV R).trans hV)).2.2.2.trans em
  have e1 : nI m ≤ nI m := nI_le (by omega) (by omega)
  rw [n36, cm]
  simp only [x36_0, x36_1, x36_2, x36_3, Option.toList_some, Option.toList_none, List.cons_append, List.nil_append, cat_i, cat_r, cat_n, cat_f, cs_n, cs_i, cs_r, cs_l, cs_f, Nat.reduceAdd, Nat.reduceLeDiff, Nat.zero_le, if_true, if_false, true_or, or_true, am_wr_at, Nat.reduceEqDiff, not_true_eq_false, not_false_eq_true, i_one, ite_not, bI_z, bI_nz, bI_t, bI_f, bI_or, Bool.false_eq_true, Bool.true_eq_false, reduceCtorEq]
  refine (e Q).trans ?_
  show AW sv 36 4 [.ref 44, .int (nI (ftN V m)), .int (nI m), v3, v4] [] (am_toH τ) 0 0 Q = _
  rw [x36_4]
  simp only [x36_5, x36_6, x36_9, x36_12, x36_87, x36_88, Option.toList_some, Option.toList_none, List.cons_append, List.nil_append, cat_i, cat_r, cat_n, cat_f, cs_n, cs_i, cs_r, cs_l, cs_f, Nat.reduceAdd, Nat.reduceLeDiff, Nat.zero_le, if_true, if_false, true_or, or_true, am_wr_at, Nat.reduceEqDiff, not_true_eq_false, not_false_eq_true, i_one, ite_not, bI_z, bI_nz, bI_t, bI_f, bI_or, Bool.false_eq_true, Bool.true_eq_false, reduceCtorEq, st44, h3, e1]
theorem okV_lk {l : Nat} (hok : okV V) (hl : l ≤ 9) : okV (vset V 5 0 (nI l)) := okV_set hok (by
  simp
  rw [rg, nI_toInt (by omega)]
  omega)
theorem c58 {l : Nat} (hV : cV σ 1 = V) (hok : okV V) (hl : l ≤ 9) : ∃ τ, Cf σ τ ∧ ∀ Q, AM sv 58 [.ref 43, .ref 1, .int (nI l)] (am_toH σ) Q = Q (some (.int (nI (fiN V l)))) (am_toH τ) := by
  obtain ⟨t1, v1, a1, f1, g1, e1⟩ := c28 (sv := sv) pr44 hV hok
  have h1 := cV_law (σ := t1) (a := 44) (j := 0) (x := nI l) (by decide)
  simp only [Nat.reduceAdd] at h1
  rw [v1] at h1
  obtain ⟨τ, R, c⟩ := c36 (sv := sv) h1 (okV_lk hok hl)
  have c2 : ∀ Q, AM sv 36 [.ref 44] (am_toH (am_wr t1 63 (upd (t1.1 63) 0 (nI l)))) Q = Q (some (.int (nI (fiN V l)))) (am_toH τ) := c
  refine ⟨τ, Cf_trans (Cf_of44 (τ := am_wr t1 63 (upd (t1.1 63) 0 (nI l))) a1 (fun k hk => ?_)) (Cf_44 R), fun Q => ?_⟩
  · rw [am_wr_ne (by omega)]
    exact f1 k (by omega)
  · rw [n58]
    simp only [x58_0, x58_1, x58_4, x58_5, x58_8, x58_9, x58_12, x58_15, x58_16, x58_17, x58_18, x58_19, x58_22, x58_25, Option.toList_some, Option.toList_none, List.cons_append, List.nil_append, cat_i, cat_r, cat_n, cat_f, cs_n, cs_i, cs_r, cs_l, cs_f, Nat.reduceAdd, Nat.reduceLeDiff, Nat.zero_le, if_true, if_false, true_or, or_true, am_wr_at, Nat.reduceEqDiff, not_true_eq_false, not_false_eq_true, i_one, ite_not, bI_z, bI_nz, bI_t, bI_f, bI_or, Bool.false_eq_true, Bool.true_eq_false, reduceCtorEq, st44, st1, e1, lc63, z05, z0c, c2]
theorem c59 (h50 : (sv 0).1 = 5) (h5 : ∀ j, j < 5 → (sv 0).2 j = if j = 4 then 10 else 9) (hV : cV σ 1 = V) (hok : okV V) : ∃ τ, Cf σ τ ∧ ∀ Q, AM sv 59 [.ref 43, .ref 1] (am_toH σ) Q = Q (some (.int (nI (lkF V 9).1))) (am_toH τ) := by
  have g0 : (sv 0).2 0 = 9 := h5 0 (by decide)
  obtain ⟨t0, R0, c0⟩ := c58 (sv := sv) hV hok (Nat.zero_le 9)
  rw [nI_0] at c0
  obtain ⟨⟨τ, v5⟩, R, e⟩ := am_upG (N := 9) (s := ((t0, .null) : am_S × Value)) (R := fun _ t => Cf σ t.1) (F := fun i t Q => AW sv 59 12 [.ref 43, .ref 1, .int (nI (lkF V i).1), .int (nI (lkF V i).2), .int (nI (i + 1)), t.2] [] (am_toH t.1) 0 0 Q) R0 (by
    intro i t hi R
    obtain ⟨τ, v5⟩ := t
    have hVτ : cV τ 1 = V := (Cf_cV R).trans hV
    obtain ⟨τ', R', c⟩ := c58 (sv := sv) hVτ hok (show i + 1 ≤ 9 by omega)
    have y1 : ¬ 9 < nI (i + 1) := nI_nlt (a := 9) (by omega) (by omega)
    have fl : fiN V (i + 1) ≤ 24 := by
      obtain ⟨m, hm, em, cm⟩ := vP hok
      have := ft_le (V := vset V 5 0 (nI (i + 1))) (V 9 3).toNatClampNeg
      unfold fiN
      omega
    have fl2 : (lkF V i).2 ≤ 24 := by
      obtain ⟨m, hm, em, cm⟩ := vP hok
      have := ft_le (V := vset V 5 0 (nI (lkF V i).1)) (V 9 3).toNatClampNeg
      rw [(lk_inv i).2]
      unfold fiN
      omega
    have y2 : (nI (fiN V (i + 1)) ≤ nI (lkF V i).2) = (fiN V (i + 1) ≤ (lkF V i).2) := propext (nI_leI (by omega) (by omega))
    refine ⟨(τ', .int (nI (fiN V (i + 1)))), Cf_trans R R', fun Q => ?_⟩
    simp only [lkF]
    rw [x59_12]
    by_cases q : fiN V (i + 1) ≤ (lkF V i).2
    · have q' : (fiN V (i + 1) ≤ (lkF V i).2) = True := eq_true q
      simp only [x59_14, x59_17, x59_18, x59_18s, x59_19, x59_22, x59_23, x59_24, x59_26, x59_29, x59_31, x59_33, x59_34, x59_37, x59_39, x59_40, x59_42, x59_43, x59_46, Option.toList_some, Option.toList_none, List.cons_append, List.nil_append, cat_i, cat_r, cat_n, cat_f, cs_n, cs_i, cs_r, cs_l, cs_f, Nat.reduceAdd, Nat.reduceLeDiff, Nat.zero_le, if_true, if_false, true_or, or_true, am_wr_at, Nat.reduceEqDiff, not_true_eq_false, not_false_eq_true, i_one, ite_not, bI_z, bI_nz, bI_t, bI_f, bI_or, Bool.false_eq_true, Bool.true_eq_false, reduceCtorEq, h50, z05, z0c, g0, y1, c, y2, q', nI_1]
    · have q' : (fiN V (i + 1) ≤ (lkF V i).2) = False := eq_false q
      simp only [x59_14, x59_17, x59_18, x59_18s, x59_19, x59_22, x59_23, x59_24, x59_26, x59_29, x59_31, x59_33, x59_34, x59_37, x59_39, x59_40, x59_42, x59_43, x59_46, Option.toList_some, Option.toList_none, List.cons_append, List.nil_append, cat_i, cat_r, cat_n, cat_f, cs_n, cs_i, cs_r, cs_l, cs_f, Nat.reduceAdd, Nat.reduceLeDiff, Nat.zero_le, if_true, if_false, true_or, or_true, am_wr_at, Nat.reduceEqDiff, not_true_eq_false, not_false_eq_true, i_one, ite_not, bI_z, bI_nz, bI_t, bI_f, bI_or, Bool.false_eq_true, Bool.true_eq_false, reduceCtorEq, h50, z05, z0c, g0, y1, c, y2, q', nI_1])
  refine ⟨τ, R, fun Q => ?_⟩
  have y1 : (9 : Int32) < nI (9 + 1) := by decide
  rw [n59]
  simp only [x59_0, x59_1, x59_2, x59_3, x59_4, x59_5, x59_8, x59_9, x59_10, Option.toList_some, Option.toList_none, List.cons_append, List.nil_append, cat_i, cat_r, cat_n, cat_f, cs_n, cs_i, cs_r, cs_l, cs_f, Nat.reduceAdd, Nat.reduceLeDiff, Nat.zero_le, if_true, if_false, true_or, or_true, am_wr_at, Nat.reduceEqDiff, not_true_eq_false, not_false_eq_true, i_one, ite_not, bI_z, bI_nz, bI_t, bI_f, bI_or, Bool.false_eq_true, Bool.true_eq_false, reduceCtorEq, c0]
  refine (e Q).trans ?_
  show AW sv 59 12 [.ref 43, .ref 1, .int (nI (lkF V 9).1), .int (nI (lkF V 9).2), .int (nI (9 + 1)), v5] [] (am_toH τ) 0 0 Q = _
  generalize lkF V 9 = z
  rw [x59_12]
  simp only [x59_14, x59_17, x59_18, x59_18s, x59_19, x59_49, x59_50, Option.toList_some, Option.toList_none, List.cons_append, List.nil_append, cat_i, cat_r, cat_n, cat_f, cs_n, cs_i, cs_r, cs_l, cs_f, Nat.reduceAdd, Nat.reduceLeDiff, Nat.zero_le, if_true, if_false, true_or, or_true, am_wr_at, Nat.reduceEqDiff, not_true_eq_false, not_false_eq_true, i_one, ite_not, bI_z, bI_nz, bI_t, bI_f, bI_or, Bool.false_eq_true, Bool.true_eq_false, reduceCtorEq, h50, z05, z0c, g0, y1]
/-- one look in the reference -/
theorem m154m {y1 y2 y3 y4 y5 : Int32} {v8 v9 v10 : Value} (hV : mV σ = V) (hok : okV V) : ∃ t : Value × Value × Value, ∀ Q, AW sv 154 58 [.ref 71, .int y1, .int y2, .int y3, .int y4, .int y5, .int 0, .int 0, v8, v9, v10] [] (am_toH σ) 0 0 Q = AW sv 154 162 [.ref 71, .int y1, .int y2, .int y3, .int y4, .int y5, .int (nI (ftN V (V 9 3).toNatClampNeg)), .int (V 9 3), t.1, t.2.1, t.2.2] [] (am_toH σ) 0 0 Q := by
  obtain ⟨m, hm, em, cm⟩ := vP hok
  have h3 : σ.1 71 19 = nI m := (rm hV).2.2.2.trans em
  obtain ⟨t, -, e⟩ := am_upG (N := m) (s := ((v8, v9, v10) : Value × Value × Value)) (R := fun _ _ => True) (F := fun i t Q => AW sv 154 58 [.ref 71, .int y1, .int y2, .int y3, .int y4, .int y5, .int (nI (ftN V i)), .int (nI i), t.1, t.2.1, t.2.2] [] (am_toH σ) 0 0 Q) trivial (by
    intro i t hi _
    obtain ⟨v8, v9, v10⟩ := t
    have hi' : i < (V 9 3).toNatClampNeg := by rw [cm]; exact hi
    obtain ⟨p1, p2, p3, p4⟩ := vPt hok hi'
    have g14 : σ.1 83 i = nI (fiB V i) := (rmp hV hi').1.trans p1
    have g15 : σ.1 84 i = nI (fiP V i) := (rmp hV hi').2.trans p3
    have c131 := fun x Q => m131 (sv := sv) (Q := Q) (kd := 0) (db := 0) (k := 1) (x := x) hV p2
    have hP : ∀ j, pV V (fiB V i) 0 0 1 (nI j) = nI (fiF V i j) := fun j => (pN_eq hok p2 rg00 rg11 j).1
    have fl : ∀ j, fiF V i j ≤ 109 := fun j => (pN_eq hok p2 rg00 rg11 j).2.2
    have e0 : ¬ nI m ≤ nI i := nI_ge hi (by omega)
    have e2 : am_in (nI i) 24 = true := nI_in' (by omega) (by omega)
    have e3 : (nI i).toNatClampNeg = i := nI_clamp (by omega)
    have inn := fun Q => am_up (N := 4) (f := fun j => AW sv 154 96 [.ref 71, .int y1, .int y2, .int y3, .int y4, .int y5, .int (nI (ftN V i)), .int (nI i), .int (bI (isB (fiF V i) (fiF V i (fiP V i)) j)), .int (nI (fiF V i (fiP V i))), .int (nI j)] [] (am_toH σ) 0 0 Q) (by
      intro j hj
      have z1 : ¬ 4 ≤ nI j := by
        show ¬ nI 4 ≤ nI j
        exact nI_ge (by omega) (by decide)
      have z2 : (nI (fiF V i (fiP V i)) < nI (fiF V i j)) = (fiF V i (fiP V i) < fiF V i j) := propext (nI_ltI (by have := fl (fiP V i); omega) (by have := fl j; omega))
      simp only [isB]
      rw [x154_96]
      cases hb : isB (fiF V i) (fiF V i (fiP V i)) j with
      | false => simp only [x154_98, x154_99, x154_102, x154_104, x154_107, x154_108, x154_109, x154_110, x154_111, x154_114, x154_116, x154_117, x154_119, x154_120, x154_123, x154_125, x154_128, x154_129, x154_132, x154_133, x154_135, x154_138, Option.toList_some, Option.toList_none, List.cons_append, List.nil_append, cat_i, cat_r, cat_n, cat_f, cs_n, cs_i, cs_r, cs_l, cs_f, Nat.reduceAdd, Nat.reduceLeDiff, Nat.zero_le, if_true, if_false, true_or, or_true, am_wr_at, Nat.reduceEqDiff, not_true_eq_false, not_false_eq_true, i_one, ite_not, bI_z, bI_nz, bI_t, bI_f, bI_or, Bool.false_eq_true, Bool.true_eq_false, reduceCtorEq, z1, Bool.false_and, nI_1]
      | true =>
        by_cases q : fiF V i (fiP V i) < fiF V i j
        · have q' : (fiF V i (fiP V i) < fiF V i j) = True := eq_true q
          have q2 : decide (fiF V i j ≤ fiF V i (fiP V i)) = false := decide_eq_false (by omega)
          simp only [x154_98, x154_99, x154_102, x154_104, x154_107, x154_108, x154_109, x154_110, x154_111, x154_114, x154_116, x154_117, x154_119, x154_120, x154_123, x154_125, x154_128, x154_129, x154_132, x154_133, x154_135, x154_138, Option.toList_some, Option.toList_none, List.cons_append, List.nil_append, cat_i, cat_r, cat_n, cat_f, cs_n, cs_i, cs_r, cs_l, cs_f, Nat.reduceAdd, Nat.reduceLeDiff, Nat.zero_le, if_true, if_false, true_or, or_true, am_wr_at, Nat.reduceEqDiff, not_true_eq_false, not_false_eq_true, i_one, ite_not, bI_z, bI_nz, bI_t, bI_f, bI_or, Bool.false_eq_true, Bool.true_eq_false, reduceCtorEq, z1, lc83, e2, e3, g14, c131, hP, z2, q', q2, Bool.and_false, nI_1]
        · have q' : (fiF V i (fiP V i) < fiF V i j) = False := eq_false q
          have q2 : decide (fiF V i j ≤ fiF V i (fiP V i)) = true := decide_eq_true (by omega)
          simp only [x154_98, x154_99, x154_102, x154_104, x154_107, x154_108, x154_109, x154_110, x154_111, x154_114, x154_116, x154_117, x154_119, x154_120, x154_123, x154_125, x154_128, x154_129, x154_132, x154_133, x154_135, x154_138, Option.toList_some, Option.toList_none, List.cons_append, List.nil_append, cat_i, cat_r, cat_n, cat_f, cs_n, cs_i, cs_r, cs_l, cs_f, Nat.reduceAdd, Nat.reduceLeDiff, Nat.zero_le, if_true, if_false, true_or, or_true, am_wr_at, Nat.reduceEqDiff, not_true_eq_false, not_false_eq_true, i_one, ite_not, bI_z, bI_nz, bI_t, bI_f, bI_or, Bool.false_eq_true, Bool.true_eq_false, reduceCtorEq, z1, lc83, e2, e3, g14, c131, hP, z2, q', q2, Bool.and_true, nI_1]) 4 (Nat.le_refl _)
    have z4 : (4 : Int32) ≤ nI 4 := by decide
    refine ⟨(.int (bI (isB (fiF V i) (fiF V i (fiP V i)) 4)), .int (nI (fiF V i (fiP V i))), .int (nI 4)), trivial, fun Q => ?_⟩
    have st : AW sv 154 58 [.ref 71, .int y1, .int y2, .int y3, .int y4, .int y5, .int (nI (ftN V i)), .int (nI i), v8, v9, v10] [] (am_toH σ) 0 0 Q = AW sv 154 96 [.ref 71, .int y1, .int y2, .int y3, .int y4, .int y5, .int (nI (ftN V i)), .int (nI i), .int 1, .int (nI (fiF V i (fiP V i))), .int 0] [] (am_toH σ) 0 0 Q := by
      rw [x154_58]
      simp only [x154_60, x154_61, x154_64, x154_67, x154_68, x154_70, x154_71, x154_72, x154_73, x154_74, x154_77, x154_79, x154_80, x154_81, x154_84, x154_86, x154_87, x154_88, x154_91, x154_93, x154_94, Option.toList_some, Option.toList_none, List.cons_append, List.nil_append, cat_i, cat_r, cat_n, cat_f, cs_n, cs_i, cs_r, cs_l, cs_f, Nat.reduceAdd, Nat.reduceLeDiff, Nat.zero_le, if_true, if_false, true_or, or_true, am_wr_at, Nat.reduceEqDiff, not_true_eq_false, not_false_eq_true, i_one, ite_not, bI_z, bI_nz, bI_t, bI_f, bI_or, Bool.false_eq_true, Bool.true_eq_false, reduceCtorEq, lc83, lc84, h3, e0, e2, e3, g14, g15, c131, hP]
    refine st.trans ((inn Q).trans ?_)
    show AW sv 154 96 [.ref 71, .int y1, .int y2, .int y3, .int y4, .int y5, .int (nI (ftN V i)), .int (nI i), .int (bI (isB (fiF V i) (fiF V i (fiP V i)) 4)), .int (nI (fiF V i (fiP V i))), .int (nI 4)] [] (am_toH σ) 0 0 Q = _
    simp only [ftN]
    rw [x154_96]
    cases hb : isB (fiF V i) (fiF V i (fiP V i)) 4 with
    | false => simp only [x154_98, x154_99, x154_141, x154_143, x154_145, x154_148, x154_149, x154_152, x154_153, x154_154, x154_156, x154_159, Option.toList_some, Option.toList_none, List.cons_append, List.nil_append, cat_i, cat_r, cat_n, cat_f, cs_n, cs_i, cs_r, cs_l, cs_f, Nat.reduceAdd, Nat.reduceLeDiff, Nat.zero_le, if_true, if_false, true_or, or_true, am_wr_at, Nat.reduceEqDiff, not_true_eq_false, not_false_eq_true, i_one, ite_not, bI_z, bI_nz, bI_t, bI_f, bI_or, Bool.false_eq_true, Bool.true_eq_false, reduceCtorEq, z4, Int32.add_zero, nI_1]
    | true => simp only [x154_98, x154_99, x154_141, x154_143, x154_145, x154_148, x154_149, x154_152, x154_153, x154_154, x154_156, x154_159, Option.toList_some, Option.toList_none, List.cons_append, List.nil_append, cat_i, cat_r, cat_n, cat_f, cs_n, cs_i, cs_r, cs_l, cs_f, Nat.reduceAdd, Nat.reduceLeDiff, Nat.zero_le, if_true, if_false, true_or, or_true, am_wr_at, Nat.reduceEqDiff, not_true_eq_false, not_false_eq_true, i_one, ite_not, bI_z, bI_nz, bI_t, bI_f, bI_or, Bool.false_eq_true, Bool.true_eq_false, reduceCtorEq, z4, nI_1])
  refine ⟨t, fun Q => ?_⟩
  have e1 : nI m ≤ nI m := nI_le (by omega) (by omega)
  refine (e Q).trans ?_
  show AW sv 154 58 [.ref 71, .int y1, .int y2, .int y3, .int y4, .int y5, .int (nI (ftN V m)), .int (nI m), t.1, t.2.1, t.2.2] [] (am_toH σ) 0 0 Q = _
  rw [x154_58, cm, em]
  simp only [x154_60, x154_61, x154_64, Option.toList_some, Option.toList_none, List.cons_append, List.nil_append, cat_i, cat_r, cat_n, cat_f, cs_n, cs_i, cs_r, cs_l, cs_f, Nat.reduceAdd, Nat.reduceLeDiff, Nat.zero_le, if_true, if_false, true_or, or_true, am_wr_at, Nat.reduceEqDiff, not_true_eq_false, not_false_eq_true, i_one, ite_not, bI_z, bI_nz, bI_t, bI_f, bI_or, Bool.false_eq_true, Bool.true_eq_false, reduceCtorEq, h3, e1]
theorem mV_lw {x : Int32} (hV : mV σ = V) (h1 : ∀ k, k ≠ 77 → τ.1 k = σ.1 k) (h2 : ∀ j, j ≠ 0 → τ.1 77 j = σ.1 77 j) : mV (am_wr τ 77 (upd (τ.1 77) 0 x)) = vset V 5 0 x := by
  have e : (am_wr τ 77 (upd (τ.1 77) 0 x)).1 = (am_wr σ 77 (upd (σ.1 77) 0 x)).1 := by
    funext k
    by_cases q : k = 77
    · subst q
      rw [am_wr_eq, am_wr_eq]
      funext j
      rw [upd_at, upd_at]
      by_cases q2 : j = 0
      · rw [if_pos q2, if_pos q2]
      · rw [if_neg q2, if_neg q2, h2 j q2]
    · rw [am_wr_ne q, am_wr_ne q, h1 k q]
  rw [mV_1 e, mV_law (by decide), hV]
theorem m154 {wh : Int32} (hV : mV σ = V) (hok : okV V) : ∃ τ : am_S, τ.1 = σ.1 ∧ ∀ Q, AW sv 154 22 [.ref 71, .int wh, .null, .null, .null, .null, .null, .null, .null, .null, .null] [] (am_toH σ) 0 0 Q = Q (some (.int (if wh = 0 then nI (lkF V 9).1 else nI (lkF V 9).2))) (am_toH τ) := by
  have l0 : σ.1 77 0 = V 5 0 := rml hV (by decide)
  obtain ⟨m, hm, em, cm⟩ := vP hok
  obtain ⟨⟨τ, v6, v7, v8, v9, v10⟩, ⟨f1, f2⟩, e⟩ := am_upG (N := 10) (s := ((σ, .null, .null, .null, .null, .null) : am_S × Value × Value × Value × Value × Value)) (R := fun _ t => (∀ k, k ≠ 77 → t.1.1 k = σ.1 k) ∧ ∀ j, j ≠ 0 → t.1.1 77 j = σ.1 77 j) (F := fun i t Q => AW sv 154 37 [.ref 71, .int wh, .int (V 5 0), .int (lkM V i).1, .int (lkM V i).2, .int (nI i), t.2.1, t.2.2.1, t.2.2.2.1, t.2.2.2.2.1, t.2.2.2.2.2] [] (am_toH t.1) 0 0 Q) ⟨fun _ _ => rfl, fun _ _ => rfl⟩ (by
    intro i t hi R
    obtain ⟨τ, v6, v7, v8, v9, v10⟩ := t
    obtain ⟨f1, f2⟩ := R
    have hW := mV_lw (x := nI i) hV f1 f2
    obtain ⟨t, c⟩ := m154m (sv := sv) (y1 := wh) (y2 := V 5 0) (y3 := (lkM V i).1) (y4 := (lkM V i).2) (y5 := nI i) (v8 := v8) (v9 := v9) (v10 := v10) hW (okV_lk hok (show i ≤ 9 by omega))
    have e9 : vset V 5 0 (nI i) 9 3 = V 9 3 := rfl
    rw [e9] at c
    have c : ∀ Q, AW sv 154 58 [.ref 71, .int wh, .int (V 5 0), .int (lkM V i).1, .int (lkM V i).2, .int (nI i), .int 0, .int 0, v8, v9, v10] [] (am_toH (am_wr τ 77 (upd (τ.1 77) 0 (nI i)))) 0 0 Q = AW sv 154 162 [.ref 71, .int wh, .int (V 5 0), .int (lkM V i).1, .int (lkM V i).2, .int (nI i), .int (nI (fiN V i)), .int (V 9 3), t.1, t.2.1, t.2.2] [] (am_toH (am_wr τ 77 (upd (τ.1 77) 0 (nI i)))) 0 0 Q := c
    have y1 : ¬ 10 ≤ nI i := by
      show ¬ nI 10 ≤ nI i
      exact nI_ge (by omega) (by decide)
    refine ⟨(am_wr τ 77 (upd (τ.1 77) 0 (nI i)), .int (nI (fiN V i)), .int (V 9 3), t.1, t.2.1, t.2.2), ⟨fun k q => ?_, fun j q => ?_⟩, fun Q => ?_⟩
    · rw [am_wr_ne q]
      exact f1 k q
    · rw [am_wr_eq, upd_at, if_neg q]
      exact f2 j q
    · have st : AW sv 154 37 [.ref 71, .int wh, .int (V 5 0), .int (lkM V i).1, .int (lkM V i).2, .int (nI i), v6, v7, v8, v9, v10] [] (am_toH τ) 0 0 Q = AW sv 154 58 [.ref 71, .int wh, .int (V 5 0), .int (lkM V i).1, .int (lkM V i).2, .int (nI i), .int 0, .int 0, v8, v9, v10] [] (am_toH (am_wr τ 77 (upd (τ.1 77) 0 (nI i)))) 0 0 Q := by
        rw [x154_37]
        simp only [x154_39, x154_41, x154_44, x154_45, x154_48, x154_49, x154_51, x154_52, x154_53, x154_55, x154_56, Option.toList_some, Option.toList_none, List.cons_append, List.nil_append, cat_i, cat_r, cat_n, cat_f, cs_n, cs_i, cs_r, cs_l, cs_f, Nat.reduceAdd, Nat.reduceLeDiff, Nat.zero_le, if_true, if_false, true_or, or_true, am_wr_at, Nat.reduceEqDiff, not_true_eq_false, not_false_eq_true, i_one, ite_not, bI_z, bI_nz, bI_t, bI_f, bI_or, Bool.false_eq_true, Bool.true_eq_false, reduceCtorEq, lc77, z05, z0c, y1]
      have fl : ∀ l, fiN V l ≤ 24 := by
        intro l
        have := ft_le (V := vset V 5 0 (nI l)) (V 9 3).toNatClampNeg
        unfold fiN
        omega
      refine st.trans ((c Q).trans ?_)
      cases i with
      | zero =>
        have q' : (nI (fiN V 0) ≤ -1) = False := eq_false (by
          intro c
          have h1 := Int32.le_iff_toInt_le.mp c
          rw [nI_toInt (by have := fl 0; omega), show (-1 : Int32).toInt = -1 by decide] at h1
          omega)
        simp only [lkM, lkF, x154_162, x154_164, x154_166, x154_169, x154_171, x154_174, x154_175, x154_176, x154_178, x154_180, x154_183, x154_185, x154_188, x154_190, x154_192, x154_195, Option.toList_some, Option.toList_none, List.cons_append, List.nil_append, cat_i, cat_r, cat_n, cat_f, cs_n, cs_i, cs_r, cs_l, cs_f, Nat.reduceAdd, Nat.reduceLeDiff, Nat.zero_le, if_true, if_false, true_or, or_true, am_wr_at, Nat.reduceEqDiff, not_true_eq_false, not_false_eq_true, i_one, ite_not, bI_z, bI_nz, bI_t, bI_f, bI_or, Bool.false_eq_true, Bool.true_eq_false, reduceCtorEq, q', nI_1]
      | succ i =>
        have y2 : (nI (fiN V (i + 1)) ≤ nI (lkF V i).2) = (fiN V (i + 1) ≤ (lkF V i).2) := propext (nI_leI (by have := fl (i + 1); omega) (by rw [(lk_inv i).2]; have := fl (lkF V i).1; omega))
        by_cases q : fiN V (i + 1) ≤ (lkF V i).2
        · have q' : (fiN V (i + 1) ≤ (lkF V i).2) = True := eq_true q
          simp only [lkM, lkF, x154_162, x154_164, x154_166, x154_169, x154_171, x154_174, x154_175, x154_176, x154_178, x154_180, x154_183, x154_185, x154_188, x154_190, x154_192, x154_195, Option.toList_some, Option.toList_none, List.cons_append, List.nil_append, cat_i, cat_r, cat_n, cat_f, cs_n, cs_i, cs_r, cs_l, cs_f, Nat.reduceAdd, Nat.reduceLeDiff, Nat.zero_le, if_true, if_false, true_or, or_true, am_wr_at, Nat.reduceEqDiff, not_true_eq_false, not_false_eq_true, i_one, ite_not, bI_z, bI_nz, bI_t, bI_f, bI_or, Bool.false_eq_true, Bool.true_eq_false, reduceCtorEq, y2, q', nI_1]
        · have q' : (fiN V (i + 1) ≤ (lkF V i).2) = False := eq_false q
          simp only [lkM, lkF, x154_162, x154_164, x154_166, x154_169, x154_171, x154_174, x154_175, x154_176, x154_178, x154_180, x154_183, x154_185, x154_188, x154_190, x154_192, x154_195, Option.toList_some, Option.toList_none, List.cons_append, List.nil_append, cat_i, cat_r, cat_n, cat_f, cs_n, cs_i, cs_r, cs_l, cs_f, Nat.reduceAdd, Nat.reduceLeDiff, Nat.zero_le, if_true, if_false, true_or, or_true, am_wr_at, Nat.reduceEqDiff, not_true_eq_false, not_false_eq_true, i_one, ite_not, bI_z, bI_nz, bI_t, bI_f, bI_or, Bool.false_eq_true, Bool.true_eq_false, reduceCtorEq, y2, q', nI_1])
  refine ⟨am_wr τ 77 (upd (τ.1 77) 0 (V 5 0)), ?_, fun Q => ?_⟩
  · funext k
    by_cases q : k = 77
    · subst q
      rw [am_wr_eq]
      funext j
      rw [upd_at]
      by_cases q2 : j = 0
      · subst q2; rw [if_pos rfl, l0]
      · rw [if_neg q2]
        exact f2 j q2
    · rw [am_wr_ne q]
      exact f1 k q
  · have z : (10 : Int32) ≤ nI 10 := by decide
    simp only [x154_22, x154_23, x154_26, x154_27, x154_28, x154_29, x154_30, x154_31, x154_32, x154_34, x154_35, Option.toList_some, Option.toList_none, List.cons_append, List.nil_append, cat_i, cat_r, cat_n, cat_f, cs_n, cs_i, cs_r, cs_l, cs_f, Nat.reduceAdd, Nat.reduceLeDiff, Nat.zero_le, if_true, if_false, true_or, or_true, am_wr_at, Nat.reduceEqDiff, not_true_eq_false, not_false_eq_true, i_one, ite_not, bI_z, bI_nz, bI_t, bI_f, bI_or, Bool.false_eq_true, Bool.true_eq_false, reduceCtorEq, lc77, z05, z0c, l0]
    refine (e Q).trans ?_
    show AW sv 154 37 [.ref 71, .int wh, .int (V 5 0), .int (nI (lkF V 9).1), .int (nI (lkF V 9).2), .int (nI 10), v6, v7, v8, v9, v10] [] (am_toH τ) 0 0 Q = _
    generalize lkF V 9 = z9
    rw [x154_37]
    by_cases q : wh = 0
    · have q' : (wh = 0) = True := eq_true q
      simp only [x154_39, x154_41, x154_198, x154_199, x154_202, x154_203, x154_204, x154_205, x154_206, x154_209, x154_210, x154_213, x154_215, Option.toList_some, Option.toList_none, List.cons_append, List.nil_append, cat_i, cat_r, cat_n, cat_f, cs_n, cs_i, cs_r, cs_l, cs_f, Nat.reduceAdd, Nat.reduceLeDiff, Nat.zero_le, if_true, if_false, true_or, or_true, am_wr_at, Nat.reduceEqDiff, not_true_eq_false, not_false_eq_true, i_one, ite_not, bI_z, bI_nz, bI_t, bI_f, bI_or, Bool.false_eq_true, Bool.true_eq_false, reduceCtorEq, lc77, z05, z0c, z, q']
    · have q' : (wh = 0) = False := eq_false q
      simp only [x154_39, x154_41, x154_198, x154_199, x154_202, x154_203, x154_204, x154_205, x154_206, x154_209, x154_210, x154_213, x154_215, Option.toList_some, Option.toList_none, List.cons_append, List.nil_append, cat_i, cat_r, cat_n, cat_f, cs_n, cs_i, cs_r, cs_l, cs_f, Nat.reduceAdd, Nat.reduceLeDiff, Nat.zero_le, if_true, if_false, true_or, or_true, am_wr_at, Nat.reduceEqDiff, not_true_eq_false, not_false_eq_true, i_one, ite_not, bI_z, bI_nz, bI_t, bI_f, bI_or, Bool.false_eq_true, Bool.true_eq_false, reduceCtorEq, lc77, z05, z0c, z, q']
/-- fits -/
theorem sim26 (h50 : (sv 0).1 = 5) (h5 : ∀ j, j < 5 → (sv 0).2 j = if j = 4 then 10 else 9) : ∀ x0 : Int32, SimOK sv Inv 87 154 [.int x0] := by
  intro wh
  refine sim_q (fun V hok => ?_)
  by_cases h1 : am_in wh 2 = true
  · by_cases hs : V 9 3 = 0
    · have hs2 : (V 9 3 = 0) = True := eq_true hs
      refine ⟨-2, fun σ hV => ⟨σ, Cf_refl, fun Q => ?_⟩, fun σ hV => ⟨σ, Mf_refl, hV, fun Q => ?_⟩⟩
      · have r1 : σ.1 17 2 = V 9 3 := (rc hV).2.2.2
        rw [n87]
        simp only [x87_0, x87_1, x87_2, x87_5, x87_8, x87_9, x87_10, x87_11, x87_14, x87_17, x87_20, x87_23, x87_25, x87_26, x87_27, x87_30, x87_31, x87_34, x87_37, x87_38, x87_39, x87_42, x87_43, x87_46, x87_47, x87_50, x87_51, x87_54, x87_55, x87_58, Option.toList_some, Option.toList_none, List.cons_append, List.nil_append, cat_i, cat_r, cat_n, cat_f, cs_n, cs_i, cs_r, cs_l, cs_f, Nat.reduceAdd, Nat.reduceLeDiff, Nat.zero_le, if_true, if_false, true_or, or_true, am_wr_at, Nat.reduceEqDiff, not_true_eq_false, not_false_eq_true, i_one, ite_not, bI_z, bI_nz, bI_t, bI_f, bI_or, Bool.false_eq_true, Bool.true_eq_false, reduceCtorEq, lt1, lt2, lt3, lt4, lt5, lt10, lt12, lt16, lt100, lt1000, bt1, bt2, bt3, bt4, bt5, bt10, bt12, bt16, bt100, bt1000, bt6, bt25, bt100000, st1, s97, h1, r1, hs2]
      · have r1 : σ.1 71 19 = V 9 3 := (rm hV).2.2.2
        rw [n154]
        simp only [x154_0, x154_1, x154_2, x154_3, x154_4, x154_7, x154_10, x154_11, x154_12, x154_13, x154_16, x154_19, x154_21, Option.toList_some, Option.toList_none, List.cons_append, List.nil_append, cat_i, cat_r, cat_n, cat_f, cs_n, cs_i, cs_r, cs_l, cs_f, Nat.reduceAdd, Nat.reduceLeDiff, Nat.zero_le, if_true, if_false, true_or, or_true, am_wr_at, Nat.reduceEqDiff, not_true_eq_false, not_false_eq_true, i_one, ite_not, bI_z, bI_nz, bI_t, bI_f, bI_or, Bool.false_eq_true, Bool.true_eq_false, reduceCtorEq, lt1, lt2, lt3, lt4, lt5, lt10, lt12, lt16, lt100, lt1000, bt1, bt2, bt3, bt4, bt5, bt10, bt12, bt16, bt100, bt1000, bt6, bt25, bt100000, s104, h1, r1, hs2]
    · have hs2 : (V 9 3 = 0) = False := eq_false hs
      obtain ⟨p1, p2⟩ := lk_inv (V := V) 9
      refine ⟨if wh = 0 then nI (lkF V 9).1 else nI (lkF V 9).2, fun σ hV => ?_, fun σ hV => ?_⟩
      · have r1 : σ.1 17 2 = V 9 3 := (rc hV).2.2.2
        obtain ⟨t1, R1, c1⟩ := c59 h50 h5 hV hok
        by_cases q : wh = 0
        · have q' : (wh = 0) = True := eq_true q
          refine ⟨t1, R1, fun Q => ?_⟩
          rw [n87]
          simp only [x87_0, x87_1, x87_2, x87_5, x87_8, x87_9, x87_10, x87_11, x87_14, x87_17, x87_20, x87_23, x87_25, x87_26, x87_27, x87_30, x87_31, x87_34, x87_37, x87_38, x87_39, x87_42, x87_43, x87_46, x87_47, x87_50, x87_51, x87_54, x87_55, x87_58, Option.toList_some, Option.toList_none, List.cons_append, List.nil_append, cat_i, cat_r, cat_n, cat_f, cs_n, cs_i, cs_r, cs_l, cs_f, Nat.reduceAdd, Nat.reduceLeDiff, Nat.zero_le, if_true, if_false, true_or, or_true, am_wr_at, Nat.reduceEqDiff, not_true_eq_false, not_false_eq_true, i_one, ite_not, bI_z, bI_nz, bI_t, bI_f, bI_or, Bool.false_eq_true, Bool.true_eq_false, reduceCtorEq, lt1, lt2, lt3, lt4, lt5, lt10, lt12, lt16, lt100, lt1000, bt1, bt2, bt3, bt4, bt5, bt10, bt12, bt16, bt100, bt1000, bt6, bt25, bt100000, st1, s97, h1, r1, hs2, c1, q']
        · have q' : (wh = 0) = False := eq_false q
          obtain ⟨t2, R2, c2⟩ := c58 (sv := sv) ((Cf_cV R1).trans hV) hok p1
          refine ⟨t2, Cf_trans R1 R2, fun Q => ?_⟩
          rw [n87]
          simp only [x87_0, x87_1, x87_2, x87_5, x87_8, x87_9, x87_10, x87_11, x87_14, x87_17, x87_20, x87_23, x87_25, x87_26, x87_27, x87_30, x87_31, x87_34, x87_37, x87_38, x87_39, x87_42, x87_43, x87_46, x87_47, x87_50, x87_51, x87_54, x87_55, x87_58, Option.toList_some, Option.toList_none, List.cons_append, List.nil_append, cat_i, cat_r, cat_n, cat_f, cs_n, cs_i, cs_r, cs_l, cs_f, Nat.reduceAdd, Nat.reduceLeDiff, Nat.zero_le, if_true, if_false, true_or, or_true, am_wr_at, Nat.reduceEqDiff, not_true_eq_false, not_false_eq_true, i_one, ite_not, bI_z, bI_nz, bI_t, bI_f, bI_or, Bool.false_eq_true, Bool.true_eq_false, reduceCtorEq, lt1, lt2, lt3, lt4, lt5, lt10, lt12, lt16, lt100, lt1000, bt1, bt2, bt3, bt4, bt5, bt10, bt12, bt16, bt100, bt1000, bt6, bt25, bt100000, st1, s97, h1, r1, hs2, c1, q', c2, p2]
      · have r1 : σ.1 71 19 = V 9 3 := (rm hV).2.2.2
        obtain ⟨τ, R, c⟩ := m154 (sv := sv) (wh := wh) hV hok
        refine ⟨τ, Mf_1 R, (mV_1 R).trans hV, fun Q => ?_⟩
        rw [← c Q, n154]
        simp only [x154_0, x154_1, x154_2, x154_3, x154_4, x154_7, x154_10, x154_11, x154_12, x154_13, x154_16, x154_19, x154_21, Option.toList_some, Option.toList_none, List.cons_append, List.nil_append, cat_i, cat_r, cat_n, cat_f, cs_n, cs_i, cs_r, cs_l, cs_f, Nat.reduceAdd, Nat.reduceLeDiff, Nat.zero_le, if_true, if_false, true_or, or_true, am_wr_at, Nat.reduceEqDiff, not_true_eq_false, not_false_eq_true, i_one, ite_not, bI_z, bI_nz, bI_t, bI_f, bI_or, Bool.false_eq_true, Bool.true_eq_false, reduceCtorEq, lt1, lt2, lt3, lt4, lt5, lt10, lt12, lt16, lt100, lt1000, bt1, bt2, bt3, bt4, bt5, bt10, bt12, bt16, bt100, bt1000, bt6, bt25, bt100000, s104, h1, r1, hs2]
  · have h1 : am_in wh 2 = false := by simpa using h1
    exact ⟨-1, fun σ hV => ⟨σ, Cf_refl, fun Q => by rw [n87]; simp only [x87_0, x87_1, x87_2, x87_5, x87_8, x87_9, x87_10, x87_11, x87_14, x87_17, x87_20, x87_23, x87_25, x87_26, x87_27, x87_30, x87_31, x87_34, x87_37, x87_38, x87_39, x87_42, x87_43, x87_46, x87_47, x87_50, x87_51, x87_54, x87_55, x87_58, Option.toList_some, Option.toList_none, List.cons_append, List.nil_append, cat_i, cat_r, cat_n, cat_f, cs_n, cs_i, cs_r, cs_l, cs_f, Nat.reduceAdd, Nat.reduceLeDiff, Nat.zero_le, if_true, if_false, true_or, or_true, am_wr_at, Nat.reduceEqDiff, not_true_eq_false, not_false_eq_true, i_one, ite_not, bI_z, bI_nz, bI_t, bI_f, bI_or, Bool.false_eq_true, Bool.true_eq_false, reduceCtorEq, lt1, lt2, lt3, lt4, lt5, lt10, lt12, lt16, lt100, lt1000, bt1, bt2, bt3, bt4, bt5, bt10, bt12, bt16, bt100, bt1000, bt6, bt25, bt100000, s97, h1]⟩, fun σ hV => ⟨σ, Mf_refl, hV, fun Q => by rw [n154]; simp only [x154_0, x154_1, x154_2, x154_3, x154_4, x154_7, x154_10, x154_11, x154_12, x154_13, x154_16, x154_19, x154_21, Option.toList_some, Option.toList_none, List.cons_append, List.nil_append, cat_i, cat_r, cat_n, cat_f, cs_n, cs_i, cs_r, cs_l, cs_f, Nat.reduceAdd, Nat.reduceLeDiff, Nat.zero_le, if_true, if_false, true_or, or_true, am_wr_at, Nat.reduceEqDiff, not_true_eq_false, not_false_eq_true, i_one, ite_not, bI_z, bI_nz, bI_t, bI_f, bI_or, Bool.false_eq_true, Bool.true_eq_false, reduceCtorEq, lt1, lt2, lt3, lt4, lt5, lt10, lt12, lt16, lt100, lt1000, bt1, bt2, bt3, bt4, bt5, bt10, bt12, bt16, bt100, bt1000, bt6, bt25, bt100000, s104, h1]⟩⟩
end I68
