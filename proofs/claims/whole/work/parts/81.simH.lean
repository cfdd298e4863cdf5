/-! SIMULATION: house -/
def hsR (n0 c n : Nat) (S' K : Nat → Nat) (σ σ' : am_S) : Prop := σ'.1 51 3 = nI (n0 + n) ∧ (∀ i, i < n0 + n → σ'.1 52 i = nI (S' i)) ∧ (∀ i, c ≤ i → i < n → σ'.1 53 (n0 + i) = nI (K i) ∧ σ'.1 54 (n0 + i) = 3) ∧ ∀ i, i < n0 + c → σ'.1 53 i = σ.1 53 i ∧ σ'.1 54 i = σ.1 54 i
theorem adm_k {σ : am_S} {m kd : Nat} {s : Int32} : (∀ k, k < 51 ∨ 54 < k → (adm σ m s kd).1 k = σ.1 k) ∧ (adm σ m s kd).1 51 3 = nI (m + 1) ∧ (adm σ m s kd).1 52 = upd (σ.1 52) m s ∧ (adm σ m s kd).1 53 = upd (σ.1 53) m (nI kd) ∧ (adm σ m s kd).1 54 = upd (σ.1 54) m 3 := by
  unfold adm
  refine ⟨fun k q => ?_, ?_, ?_, ?_, ?_⟩
  · rw [am_wr_ne (by omega), am_wr_ne (by omega), am_wr_ne (by omega), am_wr_ne (by omega)]
  · rw [am_wr_eq, upd_at, if_pos rfl]
  · rw [am_wr_ne (by decide), am_wr_ne (by decide), am_wr_ne (by decide), am_wr_eq]
  · rw [am_wr_ne (by decide), am_wr_ne (by decide), am_wr_eq]
  · rw [am_wr_ne (by decide), am_wr_eq]
section I81
variable {sv : am_V} {h : am_H} {σ τ ρ : am_S} {Q : Option Value → am_H → Prop} {a b k n0 : Nat} {st st' : Bool} {g : Nat → Nat} {L : Nat} {x y : Int32}
theorem TC_fr (hT : TC g L σ) (h1 : τ.1 65 = σ.1 65) (h2 : τ.1 66 = σ.1 66) : TC g L τ := by
  unfold TC
  rw [h1, h2]
  exact hT
theorem TM_fr (hT : TM g L σ) (h1 : τ.1 71 = σ.1 71) (h2 : τ.1 79 = σ.1 79) : TM g L τ := by
  unfold TM
  rw [h1, h2]
  exact hT
theorem jQ (hG : okG g L) (hl1 : (sv 1).1 = 4) (hlt : ∀ t, t < 4 → (sv 1).2 t = nI (ltr t)) (hn : n0 ≤ 8) : ∀ r c a S, c + r = 8 → 1 ≤ r → a ≤ L → dsS S (n0 + c) → ∃ (ok : Bool) (n : Nat) (S' K : Nat → Nat) (a' : Nat), c < n ∧ n ≤ 8 ∧ a' ≤ L ∧ (∀ i, i < n0 + c → S' i = S i) ∧ (ok = true → dsS S' (n0 + n) ∧ ∀ i, c ≤ i → i < n → K i < 4) ∧ (∀ σ, TC g L σ → HC S (n0 + c) σ → ∃ (σ' : am_S) (s' : Bool), σ'.2 = σ.2 ∧ (∀ k, k < 51 ∨ 54 < k → σ'.1 k = σ.1 k) ∧ (ok = true → hsR n0 c n S' K σ σ') ∧ ∀ Q, AW sv 42 6 [.ref 65, .ref 51, .int (nI c)] [] (am_toH (cT σ a false)) 0 0 Q = Q (some (.int (if ok = true then nI n else -20 - nI a'))) (am_toH (cT σ' a' s'))) ∧ (∀ σ, TM g L σ → HM S n0 c σ → ∃ τ' : am_S, (∀ k, k ≠ 71 → k ≠ 80 → τ'.1 k = σ.1 k) ∧ (∀ j, j ≠ 10 → j ≠ 11 → j ≠ 12 → τ'.1 71 j = σ.1 71 j) ∧ τ'.1 71 10 = 0 ∧ (∀ j, j < 6 * c → τ'.1 80 j = σ.1 80 j) ∧ (ok = true → ∀ i, c ≤ i → i < n → τ'.1 80 (6 * i) = nI (S' (n0 + i)) ∧ τ'.1 80 (6 * i + 1) = nI (K i)) ∧ ∀ Q, AW sv 127 14 [.ref 71, .int 0, .int (nI c), .int 1] [] (am_toH (mT σ a false)) 0 0 Q = Q (some (.int (if ok = true then nI n else -20 - nI a'))) (am_toH τ')) := by
  intro r
  induction r with
  | zero => intro c a S _ h; omega
  | succ r ih =>
    intro c a S hc _ ha hS
    obtain ⟨sN, kd, a1, s1, l1, o1, cc, cm⟩ := jW (sv := sv) hG hl1 hlt hn (show c < 8 by omega) hS ha
    have e6 : 6 * nI c = nI (6 * c) := oN_mul 6 c
    have S1lt : ∀ i, i < n0 + c → (fun i => if i = n0 + c then sN else S i) i = S i := fun i hi => if_neg (by omega)
    have S1at : (fun i => if i = n0 + c then sN else S i) (n0 + c) = sN := if_pos rfl
    have S1ds : s1 = false → dsS (fun i => if i = n0 + c then sN else S i) (n0 + (c + 1)) := by
      intro q
      obtain ⟨p1, p2, p3, p4⟩ := o1 q
      refine ⟨fun i hi => ?_, fun i j hij hj => ?_⟩
      · show (if i = n0 + c then sN else S i) < 12
        by_cases q : i = n0 + c
        · rw [if_pos q]; exact p1
        · rw [if_neg q]; exact hS.1 i (by omega)
      · show ¬ (if i = n0 + c then sN else S i) = (if j = n0 + c then sN else S j)
        rw [if_neg (by omega)]
        by_cases q : j = n0 + c
        · rw [if_pos q]; exact p3 i (by omega)
        · rw [if_neg q]; exact hS.2 i j hij (by omega)
    -- what this watcher gives
    have give : ∀ σ, HC S (n0 + c) σ → hsR n0 c (c + 1) (fun i => if i = n0 + c then sN else S i) (fun _ => kd) σ (adm σ (n0 + c) (nI sN) kd) := by
      intro σ hH
      obtain ⟨k1, k2, k3, k4, k5⟩ := adm_k (σ := σ) (m := n0 + c) (s := nI sN) (kd := kd)
      refine ⟨k2, fun i hi => ?_, fun i h1 h2 => ?_, fun i hi => ?_⟩
      · rw [k3, upd_at]
        show (if i = n0 + c then nI sN else σ.1 52 i) = nI (if i = n0 + c then sN else S i)
        by_cases q : i = n0 + c
        · rw [if_pos q, if_pos q]
        · rw [if_neg q, if_neg q]; exact hH.2 i (by omega)
      · have : i = c := by omega
        subst this
        rw [k4, k5, upd_at, if_pos rfl, upd_at, if_pos rfl]
        exact ⟨rfl, rfl⟩
      · rw [k4, k5, upd_at, if_neg (by omega), upd_at, if_neg (by omega)]
        exact ⟨rfl, rfl⟩
    have ending : ∀ a2 s2, a2 ≤ L → (∀ σ Q, TC g L σ → AW sv 42 11 [.ref 65, .ref 51, .int (nI c)] [] (am_toH (cT σ a1 s1)) 0 0 Q = AW sv 42 29 [.ref 65, .ref 51, .int (nI (c + 1))] [] (am_toH (cT σ a2 s2)) 0 0 Q) → (∀ σ Q, TM g L σ → AW sv 127 41 [.ref 71, .int 0, .int (nI c), .int 1] [] (am_toH (mT σ a1 s1)) 0 0 Q = AW sv 127 68 [.ref 71, .int 0, .int (nI (c + 1)), .int 0] [] (am_toH (mT σ a2 s2)) 0 0 Q) → (s2 = false → s1 = false) → ∃ (ok : Bool) (n : Nat) (S' K : Nat → Nat) (a' : Nat), c < n ∧ n ≤ 8 ∧ a' ≤ L ∧ (∀ i, i < n0 + c → S' i = S i) ∧ (ok = true → dsS S' (n0 + n) ∧ ∀ i, c ≤ i → i < n → K i < 4) ∧ (∀ σ, TC g L σ → HC S (n0 + c) σ → ∃ (σ' : am_S) (s' : Bool), σ'.2 = σ.2 ∧ (∀ k, k < 51 ∨ 54 < k → σ'.1 k = σ.1 k) ∧ (ok = true → hsR n0 c n S' K σ σ') ∧ ∀ Q, AW sv 42 6 [.ref 65, .ref 51, .int (nI c)] [] (am_toH (cT σ a false)) 0 0 Q = Q (some (.int (if ok = true then nI n else -20 - nI a'))) (am_toH (cT σ' a' s'))) ∧ (∀ σ, TM g L σ → HM S n0 c σ → ∃ τ' : am_S, (∀ k, k ≠ 71 → k ≠ 80 → τ'.1 k = σ.1 k) ∧ (∀ j, j ≠ 10 → j ≠ 11 → j ≠ 12 → τ'.1 71 j = σ.1 71 j) ∧ τ'.1 71 10 = 0 ∧ (∀ j, j < 6 * c → τ'.1 80 j = σ.1 80 j) ∧ (ok = true → ∀ i, c ≤ i → i < n → τ'.1 80 (6 * i) = nI (S' (n0 + i)) ∧ τ'.1 80 (6 * i + 1) = nI (K i)) ∧ ∀ Q, AW sv 127 14 [.ref 71, .int 0, .int (nI c), .int 1] [] (am_toH (mT σ a false)) 0 0 Q = Q (some (.int (if ok = true then nI n else -20 - nI a'))) (am_toH τ')) := by
      intro a2 s2 l2 ec em hs
      obtain ⟨ok, a3, l3, o3, fc, fm⟩ := jF (sv := sv) (n := c + 1) hG l2 s2
      have hok : ok = true → s1 = false := by
        intro q
        apply hs
        cases s2 with
        | false => rfl
        | true => rw [o3 rfl] at q; cases q
      refine ⟨ok, c + 1, fun i => if i = n0 + c then sN else S i, fun _ => kd, a3, by omega, by omega, l3, S1lt, fun q => ⟨S1ds (hok q), fun i _ _ => (o1 (hok q)).2.1⟩, fun σ hT hH => ?_, fun σ hT hH => ?_⟩
      · obtain ⟨σ1, b1, b2, b4⟩ := cc σ hT hH
        have fr : σ1.2 = σ.2 ∧ ∀ k, k < 51 ∨ 54 < k → σ1.1 k = σ.1 k := by
          cases s1 with
          | false => rw [b1 rfl]; exact ⟨rfl, adm_k.1⟩
          | true => rw [b2 rfl]; exact ⟨rfl, fun _ _ => rfl⟩
        have T1 := TC_fr hT (fr.2 65 (by omega)) (fr.2 66 (by omega))
        refine ⟨σ1, s2, fr.1, fr.2, fun q => ?_, fun Q => ?_⟩
        · rw [b1 (hok q)]
          exact give σ hH
        · have d := ec σ1 Q T1
          have d2 := fun Q => fc σ1 Q T1
          rw [x42_6]
          simp only [x42_7, x42_8, Option.toList_some, Option.toList_none, List.cons_append, List.nil_append, cat_i, cat_r, cat_n, cat_f, cs_n, cs_i, cs_r, cs_l, cs_f, Nat.reduceAdd, Nat.reduceLeDiff, Nat.zero_le, if_true, if_false, true_or, or_true, am_wr_at, Nat.reduceEqDiff, not_true_eq_false, not_false_eq_true, i_one, ite_not, bI_z, bI_nz, bI_t, bI_f, bI_or, Bool.false_eq_true, Bool.true_eq_false, reduceCtorEq, b4]
          refine d.trans ?_
          simp only [x42_29, x42_30, x42_31, x42_34, Option.toList_some, Option.toList_none, List.cons_append, List.nil_append, cat_i, cat_r, cat_n, cat_f, cs_n, cs_i, cs_r, cs_l, cs_f, Nat.reduceAdd, Nat.reduceLeDiff, Nat.zero_le, if_true, if_false, true_or, or_true, am_wr_at, Nat.reduceEqDiff, not_true_eq_false, not_false_eq_true, i_one, ite_not, bI_z, bI_nz, bI_t, bI_f, bI_or, Bool.false_eq_true, Bool.true_eq_false, reduceCtorEq, d2]
      · obtain ⟨σ1, b2, b3, b4, b5⟩ := cm σ hT hH
        have T1 := TM_fr hT (b2 71 (by decide)) (b2 79 (by decide))
        obtain ⟨f1, f2, f3⟩ := fin_m (σ := σ1) (a := a3) (st := !ok)
        refine ⟨am_wr (mT σ1 a3 (!ok)) 71 (upd ((mT σ1 a3 (!ok)).1 71) 10 0), fun k q1 q2 => (f1 k q1).trans (b2 k q2), fun j q1 q2 q3 => (f2 j q1 q2 q3).trans (by rw [b2 71 (by decide)]), f3, fun j hj => by rw [f1 80 (by decide)]; exact b3 j (by omega), fun q i h1 h2 => ?_, fun Q => ?_⟩
        · have ei : i = c := by omega
          subst ei
          rw [f1 80 (by decide)]
          have g := b4 (hok q)
          refine ⟨g.1.trans ?_, g.2⟩
          show nI sN = nI (if n0 + i = n0 + i then sN else S (n0 + i))
          rw [if_pos rfl]
        · have d := em σ1 Q T1
          rw [x127_14]
          simp only [x127_15, x127_18, x127_19, x127_22, x127_23, x127_25, x127_26, x127_27, x127_30, x127_33, x127_34, x127_36, x127_37, x127_38, Option.toList_some, Option.toList_none, List.cons_append, List.nil_append, cat_i, cat_r, cat_n, cat_f, cs_n, cs_i, cs_r, cs_l, cs_f, Nat.reduceAdd, Nat.reduceLeDiff, Nat.zero_le, if_true, if_false, true_or, or_true, am_wr_at, Nat.reduceEqDiff, not_true_eq_false, not_false_eq_true, i_one, ite_not, bI_z, bI_nz, bI_t, bI_f, bI_or, Bool.false_eq_true, Bool.true_eq_false, reduceCtorEq, e6, b5]
          refine d.trans ?_
          exact fm σ1 0 Q T1
    by_cases hr : r = 0
    · have e8 : (8 : Int32) ≤ nI (c + 1) := nI_le (a := 8) (by omega) (by omega)
      refine ending a1 s1 l1 (fun σ Q hT => ?_) (fun σ Q hT => ?_) (fun q => q)
      · simp only [x42_11, x42_14, x42_15, x42_17, Option.toList_some, Option.toList_none, List.cons_append, List.nil_append, cat_i, cat_r, cat_n, cat_f, cs_n, cs_i, cs_r, cs_l, cs_f, Nat.reduceAdd, Nat.reduceLeDiff, Nat.zero_le, if_true, if_false, true_or, or_true, am_wr_at, Nat.reduceEqDiff, not_true_eq_false, not_false_eq_true, i_one, ite_not, bI_z, bI_nz, bI_t, bI_f, bI_or, Bool.false_eq_true, Bool.true_eq_false, reduceCtorEq, nI_1, e8]
      · simp only [x127_41, x127_44, x127_45, x127_47, x127_50, x127_51, x127_53, x127_56, x127_59, x127_60, x127_63, x127_64, x127_65, Option.toList_some, Option.toList_none, List.cons_append, List.nil_append, cat_i, cat_r, cat_n, cat_f, cs_n, cs_i, cs_r, cs_l, cs_f, Nat.reduceAdd, Nat.reduceLeDiff, Nat.zero_le, if_true, if_false, true_or, or_true, am_wr_at, Nat.reduceEqDiff, not_true_eq_false, not_false_eq_true, i_one, ite_not, bI_z, bI_nz, bI_t, bI_f, bI_or, Bool.false_eq_true, Bool.true_eq_false, reduceCtorEq, nI_1, e8]
        rw [x127_14]
        simp only [x127_15, Option.toList_some, Option.toList_none, List.cons_append, List.nil_append, cat_i, cat_r, cat_n, cat_f, cs_n, cs_i, cs_r, cs_l, cs_f, Nat.reduceAdd, Nat.reduceLeDiff, Nat.zero_le, if_true, if_false, true_or, or_true, am_wr_at, Nat.reduceEqDiff, not_true_eq_false, not_false_eq_true, i_one, ite_not, bI_z, bI_nz, bI_t, bI_f, bI_or, Bool.false_eq_true, Bool.true_eq_false, reduceCtorEq]
    · have e8 : ¬ (8 : Int32) ≤ nI (c + 1) := nI_ge (b := 8) (by omega) (by decide)
      obtain ⟨rr, a2, l2, r2, hc2, hm2⟩ := jH (sv := sv) (c := 59) hG 59 rfl (by decide) (by decide) l1 s1
      cases rr with
      | false =>
        refine ending a2 s1 l2 (fun σ Q hT => ?_) (fun σ Q hT => ?_) (fun q => q)
        · have d := fun Q => hc2 σ Q hT
          simp only [x42_11, x42_14, x42_15, x42_17, x42_20, x42_21, x42_23, x42_26, Option.toList_some, Option.toList_none, List.cons_append, List.nil_append, cat_i, cat_r, cat_n, cat_f, cs_n, cs_i, cs_r, cs_l, cs_f, Nat.reduceAdd, Nat.reduceLeDiff, Nat.zero_le, if_true, if_false, true_or, or_true, am_wr_at, Nat.reduceEqDiff, not_true_eq_false, not_false_eq_true, i_one, ite_not, bI_z, bI_nz, bI_t, bI_f, bI_or, Bool.false_eq_true, Bool.true_eq_false, reduceCtorEq, nI_1, e8, d]
        · have d := fun Q => hm2 σ Q hT
          simp only [x127_41, x127_44, x127_45, x127_47, x127_50, x127_51, x127_53, x127_56, x127_59, x127_60, x127_63, x127_64, x127_65, Option.toList_some, Option.toList_none, List.cons_append, List.nil_append, cat_i, cat_r, cat_n, cat_f, cs_n, cs_i, cs_r, cs_l, cs_f, Nat.reduceAdd, Nat.reduceLeDiff, Nat.zero_le, if_true, if_false, true_or, or_true, am_wr_at, Nat.reduceEqDiff, not_true_eq_false, not_false_eq_true, i_one, ite_not, bI_z, bI_nz, bI_t, bI_f, bI_or, Bool.false_eq_true, Bool.true_eq_false, reduceCtorEq, nI_1, e8, d]
          rw [x127_14]
          simp only [x127_15, Option.toList_some, Option.toList_none, List.cons_append, List.nil_append, cat_i, cat_r, cat_n, cat_f, cs_n, cs_i, cs_r, cs_l, cs_f, Nat.reduceAdd, Nat.reduceLeDiff, Nat.zero_le, if_true, if_false, true_or, or_true, am_wr_at, Nat.reduceEqDiff, not_true_eq_false, not_false_eq_true, i_one, ite_not, bI_z, bI_nz, bI_t, bI_f, bI_or, Bool.false_eq_true, Bool.true_eq_false, reduceCtorEq]
      | true =>
        have es := r2 rfl
        subst es
        obtain ⟨ok, n, S', K, a3, w1, w2, w3, wS, w4, wc, wm⟩ := ih (c + 1) a2 (fun i => if i = n0 + c then sN else S i) (by omega) (by omega) l2 (S1ds rfl)
        have wSc : S' (n0 + c) = sN := by rw [wS (n0 + c) (by omega)]; exact S1at
        refine ⟨ok, n, S', fun i => if i = c then kd else K i, a3, by omega, w2, w3, fun i hi => (wS i (by omega)).trans (S1lt i hi), fun q => ⟨(w4 q).1, fun i h1 h2 => ?_⟩, fun σ hT hH => ?_, fun σ hT hH => ?_⟩
        · by_cases ei : i = c
          · simp only [ei, if_true]; exact (o1 rfl).2.1
          · simp only [ei, if_false]; exact (w4 q).2 i (by omega) h2
        · obtain ⟨σ1, b1, b2, b4⟩ := cc σ hT hH
          have e1 := b1 rfl
          subst e1
          obtain ⟨k1, k2, k3, k4, k5⟩ := adm_k (σ := σ) (m := n0 + c) (s := nI sN) (kd := kd)
          have T1 := TC_fr hT (k1 65 (by omega)) (k1 66 (by omega))
          obtain ⟨gv1, gv2, gv3, gv4⟩ := give σ hH
          have H1 : HC (fun i => if i = n0 + c then sN else S i) (n0 + (c + 1)) (adm σ (n0 + c) (nI sN) kd) := ⟨gv1, gv2⟩
          obtain ⟨σ2, s2, x1, x2, x3, x4⟩ := wc _ T1 H1
          refine ⟨σ2, s2, x1, fun k q => (x2 k q).trans (k1 k q), fun q => ?_, fun Q => ?_⟩
          · obtain ⟨y1, y2, y3, y4⟩ := x3 q
            refine ⟨y1, y2, fun i h1 h2 => ?_, fun i hi => ?_⟩
            · by_cases ei : i = c
              · subst ei
                simp only [if_true]
                have g1 := y4 (n0 + i) (by omega)
                have g2 := gv3 i (Nat.le_refl _) (by omega)
                rw [g1.1, g1.2]
                exact g2
              · simp only [ei, if_false]
                exact y3 i (by omega) h2
            · have g1 := y4 i (by omega)
              have g2 := gv4 i hi
              rw [g1.1, g1.2]
              exact g2
          · have d := fun Q => hc2 _ Q T1
            rw [← x4 Q, x42_6]
            simp only [x42_7, x42_8, x42_11, x42_14, x42_15, x42_17, x42_20, x42_21, x42_23, x42_26, Option.toList_some, Option.toList_none, List.cons_append, List.nil_append, cat_i, cat_r, cat_n, cat_f, cs_n, cs_i, cs_r, cs_l, cs_f, Nat.reduceAdd, Nat.reduceLeDiff, Nat.zero_le, if_true, if_false, true_or, or_true, am_wr_at, Nat.reduceEqDiff, not_true_eq_false, not_false_eq_true, i_one, ite_not, bI_z, bI_nz, bI_t, bI_f, bI_or, Bool.false_eq_true, Bool.true_eq_false, reduceCtorEq, b4, nI_1, e8, d]
        · obtain ⟨σ1, b2, b3, b4, b5⟩ := cm σ hT hH
          have T1 := TM_fr hT (b2 71 (by decide)) (b2 79 (by decide))
          have b4' := b4 rfl
          have H1 : HM (fun i => if i = n0 + c then sN else S i) n0 (c + 1) σ1 := by
            refine ⟨by rw [b2 71 (by decide)]; exact hH.1, fun i hi => ?_, fun i hi => ?_⟩
            · rw [b2 78 (by decide), S1lt i (by omega)]
              exact hH.2.1 i hi
            · by_cases q : i = c
              · subst q
                rw [S1at]
                exact b4'.1
              · rw [b3 (6 * i) (by omega), S1lt (n0 + i) (by omega)]
                exact hH.2.2 i (by omega)
          obtain ⟨τ', x1, x2, x3, x4, x5, x6⟩ := wm σ1 T1 H1
          refine ⟨τ', fun k q1 q2 => (x1 k q1 q2).trans (b2 k q2), fun j q1 q2 q3 => (x2 j q1 q2 q3).trans (by rw [b2 71 (by decide)]), x3, fun j hj => (x4 j (by omega)).trans (b3 j (by omega)), fun q i h1 h2 => ?_, fun Q => ?_⟩
          · by_cases ei : i = c
            · subst ei
              simp only [if_true]
              rw [x4 (6 * i) (by omega), x4 (6 * i + 1) (by omega), wSc]
              exact b4'
            · simp only [ei, if_false]
              exact x5 q i (by omega) h2
          · have d := fun Q => hm2 σ1 Q T1
            rw [← x6 Q, x127_14]
            simp only [x127_15, x127_18, x127_19, x127_22, x127_23, x127_25, x127_26, x127_27, x127_30, x127_33, x127_34, x127_36, x127_37, x127_38, x127_41, x127_44, x127_45, x127_47, x127_50, x127_51, x127_53, x127_56, x127_59, x127_60, x127_63, x127_64, x127_65, Option.toList_some, Option.toList_none, List.cons_append, List.nil_append, cat_i, cat_r, cat_n, cat_f, cs_n, cs_i, cs_r, cs_l, cs_f, Nat.reduceAdd, Nat.reduceLeDiff, Nat.zero_le, if_true, if_false, true_or, or_true, am_wr_at, Nat.reduceEqDiff, not_true_eq_false, not_false_eq_true, i_one, ite_not, bI_z, bI_nz, bI_t, bI_f, bI_or, Bool.false_eq_true, Bool.true_eq_false, reduceCtorEq, e6, b5, nI_1, e8, d]
end I81
