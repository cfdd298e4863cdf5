/-! SIMULATION: house -/
def hvV (V : Nat → Nat → Int32) (n0 : Nat) (S K : Nat → Nat) : Nat → Nat → Nat → Int32
  | 0 => V
  | t + 1 => vwt (hvV V n0 S K t) (n0 + t) (nI (S (n0 + t))) (nI (K t))
section I82
variable {sv : am_V} {h : am_H} {σ τ ρ : am_S} {Q : Option Value → am_H → Prop} {a b k n0 : Nat} {st st' : Bool} {g S K : Nat → Nat} {L : Nat} {x y : Int32} {V : Nat → Nat → Int32}
theorem hv_s {t r j : Nat} : hvV V n0 S K (t + 1) r j = if r = 9 ∧ j = 0 then nI (n0 + t + 1) else if r = 6 ∧ j = n0 + t then nI (S (n0 + t)) else if r = 7 ∧ j = n0 + t then nI (K t) else if r = 8 ∧ j = n0 + t then 3 else hvV V n0 S K t r j := rfl
theorem hv_9 (h : V 9 0 = nI n0) : ∀ t, hvV V n0 S K t 9 0 = nI (n0 + t) := by
  intro t
  cases t with
  | zero => exact h
  | succ t => rw [hv_s, if_pos ⟨rfl, rfl⟩, Nat.add_assoc]
theorem hv_lo {r j : Nat} (hr : r = 6 ∨ r = 7 ∨ r = 8) (hj : j < n0) : ∀ t, hvV V n0 S K t r j = V r j := by
  intro t
  induction t with
  | zero => rfl
  | succ t ih => rw [hv_s, if_neg (by omega), if_neg (by omega), if_neg (by omega), if_neg (by omega), ih]
theorem hv_hi {r j : Nat} : ∀ t, n0 + t ≤ j → (r = 6 ∨ r = 7 ∨ r = 8) → hvV V n0 S K t r j = V r j := by
  intro t
  induction t with
  | zero => intro _ _; rfl
  | succ t ih => intro h hr; rw [hv_s, if_neg (by omega), if_neg (by omega), if_neg (by omega), if_neg (by omega), ih (by omega) hr]
theorem hv_else {r j : Nat} (hr : ¬ r = 6) (h7 : ¬ r = 7) (h8 : ¬ r = 8) (h9 : ¬ (r = 9 ∧ j = 0)) : ∀ t, hvV V n0 S K t r j = V r j := by
  intro t
  induction t with
  | zero => rfl
  | succ t ih => rw [hv_s, if_neg h9, if_neg (fun c => hr c.1), if_neg (fun c => h7 c.1), if_neg (fun c => h8 c.1), ih]
theorem hv_new {i : Nat} : ∀ t, i < t → hvV V n0 S K t 6 (n0 + i) = nI (S (n0 + i)) ∧ hvV V n0 S K t 7 (n0 + i) = nI (K i) ∧ hvV V n0 S K t 8 (n0 + i) = 3 := by
  intro t
  induction t with
  | zero => intro h; omega
  | succ t ih =>
    intro h
    by_cases q : i = t
    · subst q
      refine ⟨?_, ?_, ?_⟩
      · rw [hv_s, if_neg (by omega), if_pos ⟨rfl, rfl⟩]
      · rw [hv_s, if_neg (by omega), if_neg (by omega), if_pos ⟨rfl, rfl⟩]
      · rw [hv_s, if_neg (by omega), if_neg (by omega), if_neg (by omega), if_pos ⟨rfl, rfl⟩]
    · obtain ⟨z1, z2, z3⟩ := ih (by omega)
      refine ⟨?_, ?_, ?_⟩
      · rw [hv_s, if_neg (by omega), if_neg (by omega), if_neg (by omega), if_neg (by omega), z1]
      · rw [hv_s, if_neg (by omega), if_neg (by omega), if_neg (by omega), if_neg (by omega), z2]
      · rw [hv_s, if_neg (by omega), if_neg (by omega), if_neg (by omega), if_neg (by omega), z3]
theorem hv_6 (h6 : ∀ i, i < n0 → V 6 i = nI (S i)) {t i : Nat} (hi : i < n0 + t) : hvV V n0 S K t 6 i = nI (S i) := by
  by_cases q : i < n0
  · rw [hv_lo (Or.inl rfl) q, h6 i q]
  · obtain ⟨j, rfl⟩ : ∃ j, i = n0 + j := ⟨i - n0, by omega⟩
    exact (hv_new t (by omega)).1
theorem okV_hv {n : Nat} (hok : okV V) (h9 : V 9 0 = nI n0) (h6 : ∀ i, i < n0 → V 6 i = nI (S i)) (hn : n0 + n ≤ 8) (hS : dsS S (n0 + n)) (hK : ∀ i, i < n → K i < 4) : ∀ t, t ≤ n → okV (hvV V n0 S K t) := by
  intro t
  induction t with
  | zero => intro _; exact hok
  | succ t ih =>
    intro ht
    have s12 := hS.1 (n0 + t) (by omega)
    have k4 := hK t (by omega)
    refine okV_wt (ih (by omega)) (hv_9 h9 t) (by omega) ?_ ?_ (fun i hi => ?_)
    · rw [rg, nI_toInt (by omega)]; omega
    · rw [rg, nI_toInt (by omega)]; omega
    · have s13 := hS.1 i (by omega)
      rw [hv_6 h6 hi, nI_eq (by omega) (by omega)]
      exact hS.2 i (n0 + t) hi (by omega)
theorem cV_hi9 (h1 : τ.1 1 5 = σ.1 1 5) (h12 : τ.1 12 4 = σ.1 12 4) (h17 : τ.1 17 2 = σ.1 17 2) {j : Nat} (hj : ¬ j = 0) : cV τ 1 9 j = cV σ 1 9 j := by
  rcases (show j = 1 ∨ j = 2 ∨ j = 3 ∨ 4 ≤ j by omega) with rfl | rfl | rfl | h
  · exact h1
  · exact h12
  · exact h17
  · obtain ⟨i, rfl⟩ : ∃ i, j = i + 4 := ⟨j - 4, by omega⟩
    simp [cV]
/-- the reference takes those who come -/
theorem m129 {n : Nat} (hn : n0 + n ≤ 8) (hV : mV σ = V) (h9 : V 9 0 = nI n0) (hc : ∀ i, i < n → σ.1 80 (6 * i) = nI (S (n0 + i)) ∧ σ.1 80 (6 * i + 1) = nI (K i)) : ∃ τ : am_S, (mV τ = hvV V n0 S K n ∧ (∀ k, k ≠ 71 → k ≠ 78 → τ.1 k = σ.1 k) ∧ ∀ j, j ≠ 7 → τ.1 71 j = σ.1 71 j) ∧ ∀ Q, AW sv 129 24 [.ref 71, .int (nI n), .null] [] (am_toH σ) 0 0 Q = Q (some (.int (nI n))) (am_toH τ) := by
  have e6 : 6 * nI n = nI (6 * n) := oN_mul 6 n
  obtain ⟨τ, R, e⟩ := am_upE (N := n) (σ := σ) (R := fun i τ => mV τ = hvV V n0 S K i ∧ (∀ k, k ≠ 71 → k ≠ 78 → τ.1 k = σ.1 k) ∧ ∀ j, j ≠ 7 → τ.1 71 j = σ.1 71 j) (F := fun i τ Q => AW sv 129 26 [.ref 71, .int (nI n), .int (nI (6 * i))] [] (am_toH τ) 0 0 Q) ⟨hV, fun _ _ _ => rfl, fun _ _ => rfl⟩ (by
    intro i τ hi R
    obtain ⟨v1, v2, v3⟩ := R
    obtain ⟨q0, q1⟩ := hc i hi
    have g80 := v2 80 (by decide) (by decide)
    rw [← g80] at q0 q1
    have e1 : ¬ nI (6 * n) ≤ nI (6 * i) := nI_ge (by omega) (by omega)
    have d0 : am_in (nI (6 * i)) 48 = true := nI_in' (by omega) (by omega)
    have d1 : am_in (nI (6 * i + 1)) 48 = true := nI_in' (by omega) (by omega)
    have k0 : (nI (6 * i)).toNatClampNeg = 6 * i := nI_clamp (by omega)
    have k1 : (nI (6 * i + 1)).toNatClampNeg = 6 * i + 1 := nI_clamp (by omega)
    have h7 : τ.1 71 7 = nI (n0 + i) := (rm v1).1.trans (hv_9 h9 i)
    have c114 := fun Q => s114 (sv := sv) (σ := τ) (Q := Q) (x := nI (S (n0 + i))) (y := nI (K i)) h7 (by omega)
    refine ⟨am_wr (am_wr τ 78 (upd (upd (upd (τ.1 78) (3 * (n0 + i)) (nI (S (n0 + i)))) (3 * (n0 + i) + 1) (nI (K i))) (3 * (n0 + i) + 2) 3)) 71 (upd (τ.1 71) 7 (nI (n0 + i + 1))), ⟨?_, fun k q1 q2 => ?_, fun j q => ?_⟩, fun Q => ?_⟩
    · have g := mV_wt (σ := τ) (τ := am_wr (am_wr τ 78 (upd (upd (upd (τ.1 78) (3 * (n0 + i)) (nI (S (n0 + i)))) (3 * (n0 + i) + 1) (nI (K i))) (3 * (n0 + i) + 2) 3)) 71 (upd (τ.1 71) 7 (nI (n0 + i + 1)))) (x := nI (S (n0 + i))) (y := nI (K i)) h7 (by omega) (fun k => by
        by_cases q : k = 71 ∨ k = 78
        · exact Or.inl q
        · refine Or.inr ?_
          rw [am_wr_ne (by omega), am_wr_ne (by omega)]) ⟨by simp only [Option.toList_some, Option.toList_none, List.cons_append, List.nil_append, cat_i, cat_r, cat_n, cat_f, cs_n, cs_i, cs_r, cs_l, cs_f, Nat.reduceAdd, Nat.reduceLeDiff, Nat.zero_le, if_true, if_false, true_or, or_true, am_wr_at, Nat.reduceEqDiff, not_true_eq_false, not_false_eq_true, i_one, ite_not, bI_z, bI_nz, bI_t, bI_f, bI_or, Bool.false_eq_true, Bool.true_eq_false, reduceCtorEq, upd_at], by simp only [Option.toList_some, Option.toList_none, List.cons_append, List.nil_append, cat_i, cat_r, cat_n, cat_f, cs_n, cs_i, cs_r, cs_l, cs_f, Nat.reduceAdd, Nat.reduceLeDiff, Nat.zero_le, if_true, if_false, true_or, or_true, am_wr_at, Nat.reduceEqDiff, not_true_eq_false, not_false_eq_true, i_one, ite_not, bI_z, bI_nz, bI_t, bI_f, bI_or, Bool.false_eq_true, Bool.true_eq_false, reduceCtorEq, upd_at], by simp only [Option.toList_some, Option.toList_none, List.cons_append, List.nil_append, cat_i, cat_r, cat_n, cat_f, cs_n, cs_i, cs_r, cs_l, cs_f, Nat.reduceAdd, Nat.reduceLeDiff, Nat.zero_le, if_true, if_false, true_or, or_true, am_wr_at, Nat.reduceEqDiff, not_true_eq_false, not_false_eq_true, i_one, ite_not, bI_z, bI_nz, bI_t, bI_f, bI_or, Bool.false_eq_true, Bool.true_eq_false, reduceCtorEq, upd_at]⟩ (by simp only [Option.toList_some, Option.toList_none, List.cons_append, List.nil_append, cat_i, cat_r, cat_n, cat_f, cs_n, cs_i, cs_r, cs_l, cs_f, Nat.reduceAdd, Nat.reduceLeDiff, Nat.zero_le, if_true, if_false, true_or, or_true, am_wr_at, Nat.reduceEqDiff, not_true_eq_false, not_false_eq_true, i_one, ite_not, bI_z, bI_nz, bI_t, bI_f, bI_or, Bool.false_eq_true, Bool.true_eq_false, reduceCtorEq, upd_at]) (by simp only [Option.toList_some, Option.toList_none, List.cons_append, List.nil_append, cat_i, cat_r, cat_n, cat_f, cs_n, cs_i, cs_r, cs_l, cs_f, Nat.reduceAdd, Nat.reduceLeDiff, Nat.zero_le, if_true, if_false, true_or, or_true, am_wr_at, Nat.reduceEqDiff, not_true_eq_false, not_false_eq_true, i_one, ite_not, bI_z, bI_nz, bI_t, bI_f, bI_or, Bool.false_eq_true, Bool.true_eq_false, reduceCtorEq])
      rw [g, v1]
      rfl
    · rw [am_wr_ne q1, am_wr_ne q2]
      exact v2 k q1 q2
    · rw [am_wr_eq, upd_at, if_neg q]
      exact v3 j q
    · rw [show 6 * (i + 1) = 6 * i + 6 by omega, x129_26]
      simp only [x129_27, x129_29, x129_30, x129_31, x129_34, x129_35, x129_36, x129_39, x129_40, x129_41, x129_42, x129_45, x129_46, x129_47, x129_48, x129_49, x129_52, x129_53, x129_56, Option.toList_some, Option.toList_none, List.cons_append, List.nil_append, cat_i, cat_r, cat_n, cat_f, cs_n, cs_i, cs_r, cs_l, cs_f, Nat.reduceAdd, Nat.reduceLeDiff, Nat.zero_le, if_true, if_false, true_or, or_true, am_wr_at, Nat.reduceEqDiff, not_true_eq_false, not_false_eq_true, i_one, ite_not, bI_z, bI_nz, bI_t, bI_f, bI_or, Bool.false_eq_true, Bool.true_eq_false, reduceCtorEq, lc80, e6, e1, d0, d1, k0, k1, nI_1, nI_p6, q0, q1, c114])
  refine ⟨τ, R, fun Q => ?_⟩
  have e1 : nI (6 * n) ≤ nI (6 * n) := nI_le (by omega) (by omega)
  simp only [x129_24, x129_25, Option.toList_some, Option.toList_none, List.cons_append, List.nil_append, cat_i, cat_r, cat_n, cat_f, cs_n, cs_i, cs_r, cs_l, cs_f, Nat.reduceAdd, Nat.reduceLeDiff, Nat.zero_le, if_true, if_false, true_or, or_true, am_wr_at, Nat.reduceEqDiff, not_true_eq_false, not_false_eq_true, i_one, ite_not, bI_z, bI_nz, bI_t, bI_f, bI_or, Bool.false_eq_true, Bool.true_eq_false, reduceCtorEq]
  refine (e Q).trans ?_
  show AW sv 129 26 [.ref 71, .int (nI n), .int (nI (6 * n))] [] (am_toH τ) 0 0 Q = _
  rw [x129_26]
  simp only [x129_27, x129_29, x129_30, x129_31, x129_59, x129_60, Option.toList_some, Option.toList_none, List.cons_append, List.nil_append, cat_i, cat_r, cat_n, cat_f, cs_n, cs_i, cs_r, cs_l, cs_f, Nat.reduceAdd, Nat.reduceLeDiff, Nat.zero_le, if_true, if_false, true_or, or_true, am_wr_at, Nat.reduceEqDiff, not_true_eq_false, not_false_eq_true, i_one, ite_not, bI_z, bI_nz, bI_t, bI_f, bI_or, Bool.false_eq_true, Bool.true_eq_false, reduceCtorEq, e6, e1]
/-- house -/
theorem sim10 (hl1 : (sv 1).1 = 4) (hlt : ∀ t, t < 4 → (sv 1).2 t = nI (ltr t)) : SimOK sv Inv 71 129 [] := by
  intro σ hI
  obtain ⟨hv, hok, -⟩ := id hI
  obtain ⟨g, L, hG, hC, hM⟩ := tapes hI
  have hL := hG.1
  obtain ⟨n0, hn0, en, cn, -⟩ := vW hok
  obtain ⟨t1, a1, f1, r1, u1, e1⟩ := c6 (sv := sv) (σ := σ) pr44
  -- the seats
  have h6 : ∀ i, i < n0 → mV σ 6 i = nI (mV σ 6 i).toNatClampNeg ∧ (mV σ 6 i).toNatClampNeg < 12 := by
    intro i hi
    obtain ⟨q1, -⟩ := hok.2.2.2.2.2.2.1 i (by rw [cn]; exact hi)
    obtain ⟨m, hm, em⟩ := rg_nI (n := 11) (by decide) q1
    rw [em, nI_clamp (by omega)]
    exact ⟨rfl, by omega⟩
  have hS0 : dsS (fun i => (mV σ 6 i).toNatClampNeg) (n0 + 0) := by
    refine ⟨fun i hi => (h6 i hi).2, fun i j hij hj => ?_⟩
    obtain ⟨-, -, -, -, q5⟩ := hok.2.2.2.2.2.2.1 j (by rw [cn]; exact hj)
    show ¬ (mV σ 6 i).toNatClampNeg = (mV σ 6 j).toNatClampNeg
    intro c
    apply q5 i hij
    rw [(h6 i (by omega)).1, c, ← (h6 j hj).1]
  obtain ⟨ok, n, S', K, a', w1, w2, w3, wS, w4, wc, wm⟩ := jQ (sv := sv) hG hl1 hlt hn0 8 0 0 _ (by decide) (by decide) (Nat.zero_le _) hS0
  have h6' : ∀ i, i < n0 → mV σ 6 i = nI (S' i) := fun i hi => by rw [wS i (by omega)]; exact (h6 i hi).1
  have T1 := TC_fr hC (f1 65 (by omega)) (f1 66 (by omega))
  have g8 : σ.1 8 3 = nI n0 := (rc hv).1.trans en
  have H1 : HC (fun i => (mV σ 6 i).toNatClampNeg) (n0 + 0) t1 := by
    refine ⟨u1.trans g8, fun i hi => ?_⟩
    have hi : i < n0 := hi
    rw [← (h6 i hi).1]
    exact ((r1 i (by omega)).1).trans (rcw hv (by rw [cn]; exact hi)).1
  obtain ⟨σ', s', x1, x2, x3, x4⟩ := wc t1 T1 H1
  rw [nI_0] at x4
  have fx : ∀ k, k ≠ 65 → k < 51 ∨ 54 < k → (am_wr (cT σ' a' s') 65 (upd ((cT σ' a' s').1 65) 1 0)).1 k = σ.1 k := by
    intro k q1 q2
    rw [am_wr_ne q1, cT_k q1, x2 k q2]
    exact f1 k (by omega)
  have fx1 : (am_wr (cT σ' a' s') 65 (upd ((cT σ' a' s').1 65) 1 0)).1 65 1 = 0 := by rw [am_wr_eq, upd_at, if_pos rfl]
  have fxr : ∀ k, k ≠ 65 → (am_wr (cT σ' a' s') 65 (upd ((cT σ' a' s').1 65) 1 0)).1 k = σ'.1 k := fun k q => by rw [am_wr_ne q, cT_k q]
  have d42 : ∀ Q, AM sv 42 [.ref 65, .ref 51] (am_toH t1) Q = Q (some (.int (if ok = true then nI n else -20 - nI a'))) (am_toH (cT σ' a' s')) := by
    intro Q
    rw [← x4 Q, n42]
    simp only [x42_0, x42_1, x42_4, x42_5, Option.toList_some, Option.toList_none, List.cons_append, List.nil_append, cat_i, cat_r, cat_n, cat_f, cs_n, cs_i, cs_r, cs_l, cs_f, Nat.reduceAdd, Nat.reduceLeDiff, Nat.zero_le, if_true, if_false, true_or, or_true, am_wr_at, Nat.reduceEqDiff, not_true_eq_false, not_false_eq_true, i_one, ite_not, bI_z, bI_nz, bI_t, bI_f, bI_or, Bool.false_eq_true, Bool.true_eq_false, reduceCtorEq, s43]
  generalize ht2 : am_wr (cT σ' a' s') 65 (upd ((cT σ' a' s').1 65) 1 0) = t2 at *
  -- the reference behind a memory that keeps what it reads
  have refm : ∀ ρ : am_S, (∀ k, 71 ≤ k → ρ.1 k = σ.1 k) → ∃ τ' : am_S, (∀ k, k ≠ 71 → k ≠ 80 → τ'.1 k = ρ.1 k) ∧ (∀ j, j ≠ 10 → j ≠ 11 → j ≠ 12 → τ'.1 71 j = σ.1 71 j) ∧ τ'.1 71 10 = 0 ∧ mV τ' = mV σ ∧ (ok = true → ∀ i, i < n → τ'.1 80 (6 * i) = nI (S' (n0 + i)) ∧ τ'.1 80 (6 * i + 1) = nI (K i)) ∧ ∀ Q, AM sv 127 [.ref 71, .int 0] (am_toH ρ) Q = Q (some (.int (if ok = true then nI n else -20 - nI a'))) (am_toH τ') := by
    intro ρ hρ
    have TM1 := TM_fr hM (hρ 71 (by decide)) (hρ 79 (by decide))
    have HM1 : HM (fun i => (mV σ 6 i).toNatClampNeg) n0 0 ρ := by
      refine ⟨by rw [hρ 71 (by decide)]; exact (rm (V := mV σ) rfl).1.trans en, fun i hi => ?_, fun i hi => by omega⟩
      rw [hρ 78 (by decide), ← (h6 i hi).1]
      exact (rmw (V := mV σ) rfl (by rw [cn]; exact hi)).1
    obtain ⟨τ', z1, z2, z3, z4, z5, z6⟩ := wm ρ TM1 HM1
    rw [nI_0] at z6
    have z2' : ∀ j, j ≠ 10 → j ≠ 11 → j ≠ 12 → τ'.1 71 j = σ.1 71 j := fun j q1 q2 q3 => (z2 j q1 q2 q3).trans (by rw [hρ 71 (by decide)])
    have z1' : ∀ k, 71 < k → k ≠ 80 → τ'.1 k = σ.1 k := fun k q1 q2 => (z1 k (by omega) q2).trans (hρ k (by omega))
    refine ⟨τ', z1, z2', z3, mV_of (fun k q1 q2 => z1' k (by omega) (by omega)) ⟨z1' 81 (by decide) (by decide), z1' 83 (by decide) (by decide), z1' 84 (by decide) (by decide)⟩ ⟨z2' 7 (by decide) (by decide) (by decide), z2' 5 (by decide) (by decide) (by decide), z2' 16 (by decide) (by decide) (by decide), z2' 19 (by decide) (by decide) (by decide)⟩, fun q i hi => z5 q i (Nat.zero_le _) hi, fun Q => m127s.trans (z6 Q)⟩
  -- where nothing comes
  have none_comes : ∀ (v : Int32), (∀ Q, AM sv 71 [.ref 0] (am_toH σ) Q = Q (some (.int v)) (am_toH t2)) → (∀ τ', (∀ Q, AM sv 127 [.ref 71, .int 0] (am_toH t2) Q = Q (some (.int (if ok = true then nI n else -20 - nI a'))) (am_toH τ')) → τ'.1 71 7 = nI n0 → ∀ Q, AM sv 129 [.ref 71] (am_toH t2) Q = Q (some (.int v)) (am_toH τ')) → ∃ v σ1 σ2, (∀ Q, AM sv 71 (.ref 0 :: []) (am_toH σ) Q = Q (some (.int v)) (am_toH σ1)) ∧ (∀ Q, AM sv 129 (.ref 71 :: []) (am_toH σ1) Q = Q (some (.int v)) (am_toH σ2)) ∧ Inv σ2 := by
    intro v hcl hrf
    obtain ⟨τ', z1, z2, z3, z4, z5, z6⟩ := refm t2 (fun k q => fx k (by omega) (by omega))
    refine ⟨v, t2, τ', hcl, hrf τ' z6 ((z2 7 (by decide) (by decide) (by decide)).trans ((rm (V := mV σ) rfl).1.trans en)), Inv_tp (W := mV σ) hI ?_ z4 hok ?_ z3 (fun k q => ?_) (z2 23 (by decide) (by decide) (by decide))⟩
    · rw [← hv]
      exact cV_of (fun k q1 q2 => (z1 k (by omega) (by omega)).trans (fx k (by omega) (by omega))) (by rw [z1 1 (by decide) (by decide), fx 1 (by decide) (by decide)])
    · rw [z1 65 (by decide) (by decide)]
      exact fx1
    · exact (z1 k (by omega) (by omega)).trans (fx k (by omega) (by omega))
  cases ok with
  | false =>
    obtain ⟨y1, y2⟩ := neg_ans a' (by omega)
    simp only [Bool.false_eq_true, if_false] at d42 none_comes
    refine none_comes (-20 - nI a') (fun Q => ?_) (fun τ' z _ Q => ?_)
    · rw [n71]
      simp only [x71_0, x71_1, x71_4, x71_7, x71_10, x71_11, x71_12, x71_13, x71_16, x71_19, x71_22, x71_23, x71_26, x71_27, x71_30, x71_31, x71_32, x71_35, x71_36, x71_39, x71_40, x71_43, x71_44, x71_47, x71_49, x71_52, x71_54, x71_55, x71_56, x71_59, x71_60, x71_63, x71_66, x71_67, x71_70, x71_71, Option.toList_some, Option.toList_none, List.cons_append, List.nil_append, cat_i, cat_r, cat_n, cat_f, cs_n, cs_i, cs_r, cs_l, cs_f, Nat.reduceAdd, Nat.reduceLeDiff, Nat.zero_le, if_true, if_false, true_or, or_true, am_wr_at, Nat.reduceEqDiff, not_true_eq_false, not_false_eq_true, i_one, ite_not, bI_z, bI_nz, bI_t, bI_f, bI_or, Bool.false_eq_true, Bool.true_eq_false, reduceCtorEq, st44, st1, e1, d42, ht2, y1]
    · rw [n129]
      simp only [x129_0, x129_1, x129_2, x129_5, x129_6, x129_7, x129_10, x129_11, x129_14, x129_15, x129_16, x129_18, x129_21, x129_23, x129_24, x129_25, x129_26, x129_27, x129_29, x129_30, x129_31, x129_59, x129_60, Option.toList_some, Option.toList_none, List.cons_append, List.nil_append, cat_i, cat_r, cat_n, cat_f, cs_n, cs_i, cs_r, cs_l, cs_f, Nat.reduceAdd, Nat.reduceLeDiff, Nat.zero_le, if_true, if_false, true_or, or_true, am_wr_at, Nat.reduceEqDiff, not_true_eq_false, not_false_eq_true, i_one, ite_not, bI_z, bI_nz, bI_t, bI_f, bI_or, Bool.false_eq_true, Bool.true_eq_false, reduceCtorEq, z, y1, y2]
  | true =>
    have y1 : ¬ nI n ≤ 0 := nI_nle (by omega) (by omega)
    simp only [if_true] at d42 none_comes
    obtain ⟨hs1, hs2, hs3, hs4⟩ := x3 rfl
    obtain ⟨dS, dK⟩ := w4 rfl
    have t51 : t2.1 51 3 = nI (n0 + n) := by rw [fxr 51 (by decide)]; exact hs1
    have zs : nI n0 + nI n = nI (n0 + n) := nI_add _ _
    have m12 : n0 + n ≤ 12 := pig 12 (n0 + n) S' dS.1 dS.2
    by_cases hf : n0 + n ≤ 8
    · have y2 : nI (n0 + n) ≤ 8 := nI_le (b := 8) hf (by decide)
      obtain ⟨t3, b1, f3, r3, u3, e3⟩ := c6 (sv := sv) (σ := t2) pr1
      have fy : ∀ k, k ≠ 65 → k < 8 ∨ (11 < k ∧ (k < 51 ∨ 54 < k)) → t3.1 k = σ.1 k := fun k q1 q2 => (f3 k (by omega)).trans (fx k q1 (by omega))
      obtain ⟨τ', z1, z2, z3, z4, z5, z6⟩ := refm t3 (fun k q => fy k (by omega) (by omega))
      simp only [if_true] at z6
      have hK : ∀ i, i < n → K i < 4 := fun i hi => dK i (Nat.zero_le _) hi
      obtain ⟨τ2, ⟨p1, p2, p3⟩, p4⟩ := m129 (sv := sv) (S := S') (K := K) hf z4 en (fun i hi => z5 rfl i hi)
      have z7 : τ'.1 71 7 = nI n0 := (z2 7 (by decide) (by decide) (by decide)).trans ((rm (V := mV σ) rfl).1.trans en)
      refine ⟨nI n, t3, τ2, fun Q => ?_, fun Q => ?_, Inv_tp (W := hvV (mV σ) n0 S' K n) hI ?_ p1 (okV_hv hok en h6' hf dS hK n (Nat.le_refl _)) ?_ ?_ (fun k q => ?_) ?_⟩
      · rw [n71]
        simp only [x71_0, x71_1, x71_4, x71_7, x71_10, x71_11, x71_12, x71_13, x71_16, x71_19, x71_22, x71_23, x71_26, x71_27, x71_30, x71_31, x71_32, x71_35, x71_36, x71_39, x71_40, x71_43, x71_44, x71_47, x71_49, x71_52, x71_54, x71_55, x71_56, x71_59, x71_60, x71_63, x71_66, x71_67, x71_70, x71_71, Option.toList_some, Option.toList_none, List.cons_append, List.nil_append, cat_i, cat_r, cat_n, cat_f, cs_n, cs_i, cs_r, cs_l, cs_f, Nat.reduceAdd, Nat.reduceLeDiff, Nat.zero_le, if_true, if_false, true_or, or_true, am_wr_at, Nat.reduceEqDiff, not_true_eq_false, not_false_eq_true, i_one, ite_not, bI_z, bI_nz, bI_t, bI_f, bI_or, Bool.false_eq_true, Bool.true_eq_false, reduceCtorEq, st44, st1, e1, d42, ht2, y1, t51, y2, e3]
      · rw [← p4 Q, n129]
        simp only [x129_0, x129_1, x129_2, x129_5, x129_6, x129_7, x129_10, x129_11, x129_14, x129_15, x129_16, x129_18, Option.toList_some, Option.toList_none, List.cons_append, List.nil_append, cat_i, cat_r, cat_n, cat_f, cs_n, cs_i, cs_r, cs_l, cs_f, Nat.reduceAdd, Nat.reduceLeDiff, Nat.zero_le, if_true, if_false, true_or, or_true, am_wr_at, Nat.reduceEqDiff, not_true_eq_false, not_false_eq_true, i_one, ite_not, bI_z, bI_nz, bI_t, bI_f, bI_or, Bool.false_eq_true, Bool.true_eq_false, reduceCtorEq, z6, y1, z7, zs, y2]
      · have fz : ∀ k, k < 71 → τ2.1 k = t3.1 k := fun k q => (p2 k (by omega) (by omega)).trans (z1 k (by omega) (by omega))
        have hA : cV τ2 1 = cV t3 1 := cV_of (fun k q1 q2 => fz k (by omega)) (by rw [fz 1 (by decide)])
        rw [hA]
        have u3' : t3.1 8 3 = nI (n0 + n) := u3.trans t51
        have c1 : (nI (n0 + n)).toNatClampNeg = n0 + n := nI_clamp (by omega)
        have c0 : (nI n0).toNatClampNeg = n0 := nI_clamp (by omega)
        have rows : ∀ j, j < n0 + n → t3.1 9 j = nI (S' j) ∧ t3.1 10 j = σ'.1 53 j ∧ t3.1 11 j = σ'.1 54 j := by
          intro j hj
          obtain ⟨q1, q2, q3⟩ := r3 j (by omega)
          rw [fxr 52 (by decide)] at q1
          rw [fxr 53 (by decide)] at q2
          rw [fxr 54 (by decide)] at q3
          exact ⟨q1.trans (hs2 j hj), q2, q3⟩
        funext r j
        by_cases h6r : r = 6
        · subst h6r
          show (if j < (t3.1 8 3).toNatClampNeg then t3.1 9 j else 0) = _
          rw [u3', c1]
          by_cases q : j < n0 + n
          · rw [if_pos q, hv_6 h6' q]; exact (rows j q).1
          · rw [if_neg q, hv_hi n (by omega) (Or.inl rfl), ← hv]
            show 0 = (if j < (σ.1 8 3).toNatClampNeg then σ.1 9 j else 0)
            rw [g8, c0, if_neg (by omega)]
        · by_cases h7r : r = 7
          · subst h7r
            show (if j < (t3.1 8 3).toNatClampNeg then t3.1 10 j else 0) = _
            rw [u3', c1]
            by_cases q : j < n0 + n
            · rw [if_pos q, (rows j q).2.1]
              by_cases q2 : j < n0
              · rw [hv_lo (Or.inr (Or.inl rfl)) q2, (hs4 j q2).1]
                have g1 := (r1 j (by omega)).2.1
                have g2 := (rcw hv (by rw [cn]; exact q2)).2.1
                exact g1.trans g2
              · obtain ⟨i, rfl⟩ : ∃ i, j = n0 + i := ⟨j - n0, by omega⟩
                rw [(hv_new n (by omega)).2.1]
                exact (hs3 i (Nat.zero_le _) (by omega)).1
            · rw [if_neg q, hv_hi n (by omega) (Or.inr (Or.inl rfl)), ← hv]
              show 0 = (if j < (σ.1 8 3).toNatClampNeg then σ.1 10 j else 0)
              rw [g8, c0, if_neg (by omega)]
          · by_cases h8r : r = 8
            · subst h8r
              show (if j < (t3.1 8 3).toNatClampNeg then t3.1 11 j else 0) = _
              rw [u3', c1]
              by_cases q : j < n0 + n
              · rw [if_pos q, (rows j q).2.2]
                by_cases q2 : j < n0
                · rw [hv_lo (Or.inr (Or.inr rfl)) q2, (hs4 j q2).2]
                  have g1 := (r1 j (by omega)).2.2
                  have g2 := (rcw hv (by rw [cn]; exact q2)).2.2
                  exact g1.trans g2
                · obtain ⟨i, rfl⟩ : ∃ i, j = n0 + i := ⟨j - n0, by omega⟩
                  rw [(hv_new n (by omega)).2.2]
                  exact (hs3 i (Nat.zero_le _) (by omega)).2
              · rw [if_neg q, hv_hi n (by omega) (Or.inr (Or.inr rfl)), ← hv]
                show 0 = (if j < (σ.1 8 3).toNatClampNeg then σ.1 11 j else 0)
                rw [g8, c0, if_neg (by omega)]
            · by_cases h9r : r = 9 ∧ j = 0
              · obtain ⟨rfl, rfl⟩ := h9r
                rw [hv_9 en]
                exact u3'
              · rw [hv_else h6r h7r h8r h9r, ← hv]
                have k1 := fy 1 (by decide) (by decide)
                have k3 := fy 3 (by decide) (by decide)
                have k4 := fy 4 (by decide) (by decide)
                have k5 := fy 5 (by decide) (by decide)
                have k6 := fy 6 (by decide) (by decide)
                have k7 := fy 7 (by decide) (by decide)
                have k12 := fy 12 (by decide) (by decide)
                have k13 := fy 13 (by decide) (by decide)
                have k14 := fy 14 (by decide) (by decide)
                have k15 := fy 15 (by decide) (by decide)
                have k16 := fy 16 (by decide) (by decide)
                have k17 := fy 17 (by decide) (by decide)
                have k18 := fy 18 (by decide) (by decide)
                have k19 := fy 19 (by decide) (by decide)
                have k20 := fy 20 (by decide) (by decide)
                by_cases h9b : r = 9
                · subst h9b
                  have hj0 : ¬ j = 0 := fun c => h9r ⟨rfl, c⟩
                  exact cV_hi9 (congrFun k1 5) (congrFun k12 4) (congrFun k17 2) hj0
                · unfold cV
                  simp only [Nat.reduceAdd, k1, k3, k4, k5, k6, k7, k12, k13, k14, k15, k16, k17, k18, k19, k20]
                  split <;> first | rfl | omega | simp_all
      · rw [p2 65 (by decide) (by decide), z1 65 (by decide) (by decide), f3 65 (by omega)]
        exact fx1
      · rw [p3 10 (by decide)]
        exact z3
      · exact ((p2 k (by omega) (by omega)).trans (z1 k (by omega) (by omega))).trans (fy k (by omega) (by omega))
      · rw [p3 23 (by decide)]
        exact z2 23 (by decide) (by decide) (by decide)
    · have y2 : ¬ nI (n0 + n) ≤ 8 := nI_ge (a := 8) (by omega) (by omega)
      refine none_comes (-3) (fun Q => ?_) (fun τ' z h7 Q => ?_)
      · rw [n71]
        simp only [x71_0, x71_1, x71_4, x71_7, x71_10, x71_11, x71_12, x71_13, x71_16, x71_19, x71_22, x71_23, x71_26, x71_27, x71_30, x71_31, x71_32, x71_35, x71_36, x71_39, x71_40, x71_43, x71_44, x71_47, x71_49, x71_52, x71_54, x71_55, x71_56, x71_59, x71_60, x71_63, x71_66, x71_67, x71_70, x71_71, Option.toList_some, Option.toList_none, List.cons_append, List.nil_append, cat_i, cat_r, cat_n, cat_f, cs_n, cs_i, cs_r, cs_l, cs_f, Nat.reduceAdd, Nat.reduceLeDiff, Nat.zero_le, if_true, if_false, true_or, or_true, am_wr_at, Nat.reduceEqDiff, not_true_eq_false, not_false_eq_true, i_one, ite_not, bI_z, bI_nz, bI_t, bI_f, bI_or, Bool.false_eq_true, Bool.true_eq_false, reduceCtorEq, st44, st1, e1, d42, ht2, y1, t51, y2]
      · rw [n129]
        simp only [x129_0, x129_1, x129_2, x129_5, x129_6, x129_7, x129_10, x129_11, x129_14, x129_15, x129_16, x129_18, x129_21, x129_23, Option.toList_some, Option.toList_none, List.cons_append, List.nil_append, cat_i, cat_r, cat_n, cat_f, cs_n, cs_i, cs_r, cs_l, cs_f, Nat.reduceAdd, Nat.reduceLeDiff, Nat.zero_le, if_true, if_false, true_or, or_true, am_wr_at, Nat.reduceEqDiff, not_true_eq_false, not_false_eq_true, i_one, ite_not, bI_z, bI_nz, bI_t, bI_f, bI_or, Bool.false_eq_true, Bool.true_eq_false, reduceCtorEq, z, y1, h7, zs, y2]
end I82
