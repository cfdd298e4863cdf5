/-! THE READER: a house -/
def dsS (S : Nat → Nat) (m : Nat) : Prop := (∀ i, i < m → S i < 12) ∧ ∀ i j, i < j → j < m → ¬ S i = S j
def HC (S : Nat → Nat) (m : Nat) (σ : am_S) : Prop := σ.1 51 3 = nI m ∧ ∀ i, i < m → σ.1 52 i = nI (S i)
def HM (S : Nat → Nat) (n0 c : Nat) (σ : am_S) : Prop := σ.1 71 7 = nI n0 ∧ (∀ i, i < n0 → σ.1 78 (3 * i) = nI (S i)) ∧ ∀ i, i < c → σ.1 80 (6 * i) = nI (S (n0 + i))
theorem tak_S {f : Nat → Int32} {S : Nat → Nat} {v n : Nat} (hv : v < 12) (h : ∀ i, i < n → f i = nI (S i) ∧ S i < 12) (ht : tak f (nI v) n = false) : ∀ i, i < n → ¬ S i = v := by
  intro i hi c
  have := tak_ff n ht i hi
  rw [(h i hi).1, c] at this
  exact this rfl
section I80
variable {sv : am_V} {h : am_H} {σ τ ρ : am_S} {Q : Option Value → am_H → Prop} {a b k n0 c : Nat} {st st' : Bool} {g S : Nat → Nat} {L : Nat} {x y : Int32}
theorem mT_wn {f : Nat → Int32} : am_wr (am_wr σ 80 f) 80 (upd ((am_wr σ 80 f).1 80) k x) = am_wr σ 80 (upd f k x) := by
  rw [am_wr_eq, am_wr_wr]
/-- a watcher comes by a text -/
theorem jW (hG : okG g L) (hl1 : (sv 1).1 = 4) (hlt : ∀ t, t < 4 → (sv 1).2 t = nI (ltr t)) (hn : n0 ≤ 8) (hc : c < 8) (hS : dsS S (n0 + c)) (ha : a ≤ L) : ∃ (sN kd a' : Nat) (st' : Bool), a' ≤ L ∧ (st' = false → sN < 12 ∧ kd < 4 ∧ (∀ i, i < n0 + c → ¬ S i = sN) ∧ n0 + c < 12) ∧ (∀ σ, TC g L σ → HC S (n0 + c) σ → ∃ σ' : am_S, (st' = false → σ' = adm σ (n0 + c) (nI sN) kd) ∧ (st' = true → σ' = σ) ∧ ∀ Q, AM sv 46 [.ref 65, .ref 51] (am_toH (cT σ a false)) Q = Q none (am_toH (cT σ' a' st'))) ∧ (∀ σ, TM g L σ → HM S n0 c σ → ∃ σ' : am_S, (∀ k, k ≠ 80 → σ'.1 k = σ.1 k) ∧ (∀ j, j < 6 * c → σ'.1 80 j = σ.1 80 j) ∧ (st' = false → σ'.1 80 (6 * c) = nI sN ∧ σ'.1 80 (6 * c + 1) = nI kd) ∧ ∀ Q, AM sv 126 [.ref 71, .int (nI (6 * c))] (am_toH (mT σ a false)) Q = Q none (am_toH (mT σ' a' st'))) := by
  obtain ⟨a1, hx⟩ := nxt (sv := sv) hG ha
  have z2 := hx.2.1
  obtain ⟨v, v', a2, s2, l2, hv, cN, mN⟩ := jN (sv := sv) (lim := 12) hG (by decide) (by decide) z2
  have n12 : nI 12 = 12 := rfl
  rw [n12] at cN
  have m12 : n0 + c ≤ 12 := pig 12 (n0 + c) S hS.1 hS.2
  have hk : 6 * c + 6 ≤ 48 := by omega
  -- the class up to the letters
  have cst : ∀ σ Q, TC g L σ → AM sv 46 [.ref 65, .ref 51] (am_toH (cT σ a false)) Q = AW sv 46 17 [.ref 65, .ref 51, .int (nI a1), .int (nI v), .null] [] (am_toH (cT σ a2 s2)) 0 0 Q := by
    intro σ Q hT
    have d := fun Q => hx.2.2.2.1 σ false Q hT
    have dN := fun Q => cN σ Q hT
    rw [n46]
    by_cases q : a1 < L
    · simp only [q, if_true] at d
      simp only [x46_0, x46_1, x46_4, x46_5, x46_6, x46_9, x46_10, x46_11, x46_13, x46_16, Option.toList_some, Option.toList_none, List.cons_append, List.nil_append, cat_i, cat_r, cat_n, cat_f, cs_n, cs_i, cs_r, cs_l, cs_f, Nat.reduceAdd, Nat.reduceLeDiff, Nat.zero_le, if_true, if_false, true_or, or_true, am_wr_at, Nat.reduceEqDiff, not_true_eq_false, not_false_eq_true, i_one, ite_not, bI_z, bI_nz, bI_t, bI_f, bI_or, Bool.false_eq_true, Bool.true_eq_false, reduceCtorEq, d, cT_2, dN]
    · simp only [q, if_false] at d
      simp only [x46_0, x46_1, x46_4, x46_5, x46_6, x46_9, x46_10, x46_11, x46_13, x46_16, Option.toList_some, Option.toList_none, List.cons_append, List.nil_append, cat_i, cat_r, cat_n, cat_f, cs_n, cs_i, cs_r, cs_l, cs_f, Nat.reduceAdd, Nat.reduceLeDiff, Nat.zero_le, if_true, if_false, true_or, or_true, am_wr_at, Nat.reduceEqDiff, not_true_eq_false, not_false_eq_true, i_one, ite_not, bI_z, bI_nz, bI_t, bI_f, bI_or, Bool.false_eq_true, Bool.true_eq_false, reduceCtorEq, d, cT_2, dN]
  have mst : ∀ σ Q, TM g L σ → HM S n0 c σ → AM sv 126 [.ref 71, .int (nI (6 * c))] (am_toH (mT σ a false)) Q = AW sv 126 74 [.ref 71, .int (nI (6 * c)), .int (nI a1), .int (bI (tak (fun w => σ.1 78 (3 * w)) (nI v') n0 || tak (fun i => σ.1 80 (6 * i)) (nI v') c)), .int (nI (6 * c))] [] (am_toH (mT (am_wr σ 80 (upd (σ.1 80) (6 * c) (nI v'))) a2 s2)) 0 0 Q := fun σ Q hT hH => m126a hG hc hn hx hT hH.1 mN
  have fr80 : ∀ (σ : am_S) (x y : Int32), (∀ k, k ≠ 80 → (am_wr σ 80 (upd (upd (σ.1 80) (6 * c) x) (6 * c + 1) y)).1 k = σ.1 k) ∧ (∀ j, j < 6 * c → (am_wr σ 80 (upd (upd (σ.1 80) (6 * c) x) (6 * c + 1) y)).1 80 j = σ.1 80 j) := by
    intro σ x y
    refine ⟨fun k q => am_wr_ne q, fun j hj => ?_⟩
    rw [am_wr_eq, upd_at, if_neg (by omega), upd_at, if_neg (by omega)]
  cases s2 with
  | true =>
    refine ⟨0, 0, a2, true, l2, fun q => (by cases q), fun σ hT hH => ⟨σ, fun q => (by cases q), fun _ => rfl, fun Q => ?_⟩, fun σ hT hH => ⟨am_wr σ 80 (upd (upd (σ.1 80) (6 * c) (nI v')) (6 * c + 1) (-4)), (fr80 σ _ _).1, (fr80 σ _ _).2, fun q => (by cases q), fun Q => ?_⟩⟩
    · rw [cst σ Q hT]
      have e := c46s (sv := sv) (σ := σ) (Q := Q) (a := a2) (f := nI a1) (s := nI v) hl1 hlt
      refine Eq.trans ?_ e
      simp only [x46_17, x46_18, x46_21, x46_24, x46_25, x46_26, x46_29, x46_32, x46_33, x46_34, x46_37, x46_38, x46_39, x46_42, x46_43, Option.toList_some, Option.toList_none, List.cons_append, List.nil_append, cat_i, cat_r, cat_n, cat_f, cs_n, cs_i, cs_r, cs_l, cs_f, Nat.reduceAdd, Nat.reduceLeDiff, Nat.zero_le, if_true, if_false, true_or, or_true, am_wr_at, Nat.reduceEqDiff, not_true_eq_false, not_false_eq_true, i_one, ite_not, bI_z, bI_nz, bI_t, bI_f, bI_or, Bool.false_eq_true, Bool.true_eq_false, reduceCtorEq, cT_3]
    · rw [mst σ Q hT hH]
      have e := m126s (sv := sv) (Q := Q) (τ := am_wr σ 80 (upd (σ.1 80) (6 * c) (nI v'))) (a := a2) (f := nI a1) (s := bI (tak (fun w => σ.1 78 (3 * w)) (nI v') n0 || tak (fun i => σ.1 80 (6 * i)) (nI v') c)) (j := nI (6 * c)) hk
      rw [mT_wn] at e
      refine Eq.trans ?_ e
      simp only [x126_74, x126_75, x126_78, Option.toList_some, Option.toList_none, List.cons_append, List.nil_append, cat_i, cat_r, cat_n, cat_f, cs_n, cs_i, cs_r, cs_l, cs_f, Nat.reduceAdd, Nat.reduceLeDiff, Nat.zero_le, if_true, if_false, true_or, or_true, am_wr_at, Nat.reduceEqDiff, not_true_eq_false, not_false_eq_true, i_one, ite_not, bI_z, bI_nz, bI_t, bI_f, bI_or, Bool.false_eq_true, Bool.true_eq_false, reduceCtorEq, mT_12]
  | false =>
    obtain ⟨evv, hv12⟩ := hv rfl
    subst evv
    -- taken on both sides alike
    have htk : ∀ σ τ, HC S (n0 + c) σ → HM S n0 c τ → tak (σ.1 52) (nI v) (n0 + c) = (tak (fun w => τ.1 78 (3 * w)) (nI v) n0 || tak (fun i => τ.1 80 (6 * i)) (nI v) c) := by
      intro σ τ h1 h2
      rw [tak_add]
      rw [tak_of n0 (f := σ.1 52) (g := fun w => τ.1 78 (3 * w)) (fun w hw => by rw [h1.2 w (by omega)]; exact (h2.2.1 w hw).symm), tak_of c (f := fun i => σ.1 52 (n0 + i)) (g := fun i => τ.1 80 (6 * i)) (fun w hw => by
        show σ.1 52 (n0 + w) = τ.1 80 (6 * w)
        rw [h1.2 (n0 + w) (by omega)]; exact (h2.2.2 w hw).symm)]
    -- it depends on the seats alone
    have hS1 : ∀ σ, HC S (n0 + c) σ → tak (σ.1 52) (nI v) (n0 + c) = tak (fun i => nI (S i)) (nI v) (n0 + c) := fun σ h1 => tak_of _ (fun w hw => h1.2 w hw)
    have hS2 : ∀ τ, HM S n0 c τ → (tak (fun w => τ.1 78 (3 * w)) (nI v) n0 || tak (fun i => τ.1 80 (6 * i)) (nI v) c) = tak (fun i => nI (S i)) (nI v) (n0 + c) := by
      intro τ h2
      rw [tak_add, tak_of n0 (f := fun i => nI (S i)) (g := fun w => τ.1 78 (3 * w)) (fun w hw => (h2.2.1 w hw).symm), tak_of c (f := fun i => (fun i => nI (S i)) (n0 + i)) (g := fun i => τ.1 80 (6 * i)) (fun w hw => (h2.2.2 w hw).symm)]
    have c7 : ∀ σ Q, HC S (n0 + c) σ → AM sv 7 [.ref 51, .int (nI v)] (am_toH (cT σ a2 false)) Q = Q (some (.int (bI (tak (fun i => nI (S i)) (nI v) (n0 + c))))) (am_toH (cT σ a2 false)) := by
      intro σ Q h1
      have hn' : (cT σ a2 false).1 (44 + 7) 3 = nI (n0 + c) := by
        show (cT σ a2 false).1 51 3 = _
        rw [cT_k (by decide)]
        exact h1.1
      have e := s7 (sv := sv) (σ := cT σ a2 false) (Q := Q) (x := nI v) st44 hn' m12
      simp only [Nat.reduceAdd] at e
      rw [e, cT_k (by decide), hS1 σ h1]
    cases htk0 : tak (fun i => nI (S i)) (nI v) (n0 + c) with
    | true =>
      refine ⟨0, 0, a1, true, z2, fun q => (by cases q), fun σ hT hH => ⟨σ, fun q => (by cases q), fun _ => rfl, fun Q => ?_⟩, fun σ hT hH => ⟨am_wr σ 80 (upd (upd (σ.1 80) (6 * c) (nI v)) (6 * c + 1) (-4)), (fr80 σ _ _).1, (fr80 σ _ _).2, fun q => (by cases q), fun Q => ?_⟩⟩
      · rw [cst σ Q hT]
        have d7 := fun Q => c7 σ Q hH
        rw [htk0] at d7
        have e := c46s (sv := sv) (σ := σ) (Q := Q) (a := a1) (f := nI a1) (s := nI v) hl1 hlt
        refine Eq.trans ?_ e
        simp only [x46_17, x46_18, x46_21, x46_24, x46_25, x46_26, x46_29, x46_32, x46_33, x46_34, x46_37, x46_38, x46_39, x46_42, x46_43, Option.toList_some, Option.toList_none, List.cons_append, List.nil_append, cat_i, cat_r, cat_n, cat_f, cs_n, cs_i, cs_r, cs_l, cs_f, Nat.reduceAdd, Nat.reduceLeDiff, Nat.zero_le, if_true, if_false, true_or, or_true, am_wr_at, Nat.reduceEqDiff, not_true_eq_false, not_false_eq_true, i_one, ite_not, bI_z, bI_nz, bI_t, bI_f, bI_or, Bool.false_eq_true, Bool.true_eq_false, reduceCtorEq, st44, cT_3, d7, cT_w2, cT_w31, am_one_t]
      · rw [mst σ Q hT hH, hS2 σ hH, htk0]
        have e := m126s (sv := sv) (Q := Q) (τ := am_wr σ 80 (upd (σ.1 80) (6 * c) (nI v))) (a := a1) (f := nI a1) (s := 1) (j := nI (6 * c)) hk
        rw [mT_wn] at e
        refine Eq.trans ?_ e
        simp only [x126_74, x126_75, x126_78, x126_81, x126_82, x126_85, x126_86, x126_87, x126_90, x126_91, x126_92, Option.toList_some, Option.toList_none, List.cons_append, List.nil_append, cat_i, cat_r, cat_n, cat_f, cs_n, cs_i, cs_r, cs_l, cs_f, Nat.reduceAdd, Nat.reduceLeDiff, Nat.zero_le, if_true, if_false, true_or, or_true, am_wr_at, Nat.reduceEqDiff, not_true_eq_false, not_false_eq_true, i_one, ite_not, bI_z, bI_nz, bI_t, bI_f, bI_or, Bool.false_eq_true, Bool.true_eq_false, reduceCtorEq, mT_12, mT_w121, mT_w11, am_one_t]
    | false =>
      obtain ⟨a3, hx3⟩ := nxt (sv := sv) hG l2
      have l3 := hx3.2.1
      have fresh : ∀ i, i < n0 + c → ¬ S i = v := tak_S hv12 (fun i hi => ⟨rfl, hS.1 i hi⟩) htk0
      have mlt : n0 + c < 12 := by
        have := pig 12 (n0 + c + 1) (fun i => if i = n0 + c then v else S i) (fun i hi => by
          show (if i = n0 + c then v else S i) < 12
          by_cases q : i = n0 + c
          · rw [if_pos q]; exact hv12
          · rw [if_neg q]; exact hS.1 i (by omega)) (fun i j hij hj => by
          show ¬ (if i = n0 + c then v else S i) = (if j = n0 + c then v else S j)
          rw [if_neg (by omega)]
          by_cases q : j = n0 + c
          · rw [if_pos q]; exact fresh i (by omega)
          · rw [if_neg q]; exact hS.2 i j hij (by omega))
        omega
      have cst2 : ∀ σ Q, TC g L σ → HC S (n0 + c) σ → AM sv 46 [.ref 65, .ref 51] (am_toH (cT σ a false)) Q = AW sv 46 45 [.ref 65, .ref 51, .int (nI a1), .int (nI v), .int 0] [] (am_toH (cT σ a2 false)) 0 0 Q := by
        intro σ Q hT hH
        have d7 := fun Q => c7 σ Q hH
        rw [htk0] at d7
        rw [cst σ Q hT]
        simp only [x46_17, x46_18, x46_21, x46_24, x46_25, x46_26, x46_29, x46_32, x46_33, x46_34, x46_37, x46_38, x46_39, x46_42, x46_43, Option.toList_some, Option.toList_none, List.cons_append, List.nil_append, cat_i, cat_r, cat_n, cat_f, cs_n, cs_i, cs_r, cs_l, cs_f, Nat.reduceAdd, Nat.reduceLeDiff, Nat.zero_le, if_true, if_false, true_or, or_true, am_wr_at, Nat.reduceEqDiff, not_true_eq_false, not_false_eq_true, i_one, ite_not, bI_z, bI_nz, bI_t, bI_f, bI_or, Bool.false_eq_true, Bool.true_eq_false, reduceCtorEq, st44, cT_3, d7]
      have mst2 : ∀ σ Q, TM g L σ → HM S n0 c σ → AM sv 126 [.ref 71, .int (nI (6 * c))] (am_toH (mT σ a false)) Q = AW sv 126 165 [.ref 71, .int (nI (6 * c)), .int (nI a1), .int 0, .int (if a3 < L then nI (g a3) else 0)] [.int (if a3 < L ∧ g a3 = 112 then 0 else if a3 < L ∧ g a3 = 119 then 1 else if a3 < L ∧ g a3 = 99 then 2 else if a3 < L ∧ g a3 = 120 then 3 else -4), .int (nI (6 * c + 1)), .ref 80] (am_toH (mT (am_wr σ 80 (upd (σ.1 80) (6 * c) (nI v))) a3 false)) 0 0 Q := by
        intro σ Q hT hH
        rw [mst σ Q hT hH, hS2 σ hH, htk0]
        have e := m126l (sv := sv) (Q := Q) (τ := am_wr σ 80 (upd (σ.1 80) (6 * c) (nI v))) (f := nI a1) (s := 0) (j := nI (6 * c)) hG hk hx3 (TM_wr (by decide) (by decide) hT)
        refine Eq.trans ?_ e
        simp only [x126_74, x126_75, x126_78, x126_81, x126_82, x126_85, x126_86, x126_87, x126_90, x126_91, x126_92, Option.toList_some, Option.toList_none, List.cons_append, List.nil_append, cat_i, cat_r, cat_n, cat_f, cs_n, cs_i, cs_r, cs_l, cs_f, Nat.reduceAdd, Nat.reduceLeDiff, Nat.zero_le, if_true, if_false, true_or, or_true, am_wr_at, Nat.reduceEqDiff, not_true_eq_false, not_false_eq_true, i_one, ite_not, bI_z, bI_nz, bI_t, bI_f, bI_or, Bool.false_eq_true, Bool.true_eq_false, reduceCtorEq, mT_12]
      by_cases hL : ∃ kd, kd < 4 ∧ a3 < L ∧ g a3 = ltr kd
      · obtain ⟨kd, hkd, h3, hg⟩ := hL
        have sel : (if a3 < L ∧ g a3 = 112 then (0 : Int32) else if a3 < L ∧ g a3 = 119 then 1 else if a3 < L ∧ g a3 = 99 then 2 else if a3 < L ∧ g a3 = 120 then 3 else -4) = nI kd := by
          rw [hg]
          simp only [h3, true_and]
          rcases (show kd = 0 ∨ kd = 1 ∨ kd = 2 ∨ kd = 3 by omega) with rfl | rfl | rfl | rfl <;> decide
        refine ⟨v, kd, a3 + 1, false, by omega, fun _ => ⟨hv12, hkd, fresh, mlt⟩, fun σ hT hH => ⟨adm σ (n0 + c) (nI v) kd, fun _ => rfl, fun q => (by cases q), fun Q => ?_⟩, fun σ hT hH => ⟨am_wr σ 80 (upd (upd (σ.1 80) (6 * c) (nI v)) (6 * c + 1) (nI kd)), (fr80 σ _ _).1, (fr80 σ _ _).2, fun _ => ⟨?_, ?_⟩, fun Q => ?_⟩⟩
        · rw [cst2 σ Q hT hH]
          exact c46y hG hl1 hlt hx3 hT hH.1 mlt hkd h3 hg
        · rw [am_wr_eq, upd_at, if_neg (by omega), upd_at, if_pos rfl]
        · rw [am_wr_eq, upd_at, if_pos rfl]
        · rw [mst2 σ Q hT hH, sel]
          have e := m126y (sv := sv) (Q := Q) (τ := am_wr σ 80 (upd (σ.1 80) (6 * c) (nI v))) (a := a3) (f := nI a1) (s := 0) (j := if a3 < L then nI (g a3) else 0) hk hkd
          rw [mT_wn] at e
          exact e
      · have hn : ∀ t, t < 4 → ¬ (a3 < L ∧ g a3 = ltr t) := fun t ht q => hL ⟨t, ht, q.1, q.2⟩
        have sel : (if a3 < L ∧ g a3 = 112 then (0 : Int32) else if a3 < L ∧ g a3 = 119 then 1 else if a3 < L ∧ g a3 = 99 then 2 else if a3 < L ∧ g a3 = 120 then 3 else -4) = -4 := by
          have h0 : ¬ (a3 < L ∧ g a3 = 112) := hn 0 (by decide)
          have h1 : ¬ (a3 < L ∧ g a3 = 119) := hn 1 (by decide)
          have h2 : ¬ (a3 < L ∧ g a3 = 99) := hn 2 (by decide)
          have h3 : ¬ (a3 < L ∧ g a3 = 120) := hn 3 (by decide)
          rw [if_neg h0, if_neg h1, if_neg h2, if_neg h3]
        refine ⟨0, 0, a3, true, l3, fun q => (by cases q), fun σ hT hH => ⟨σ, fun q => (by cases q), fun _ => rfl, fun Q => ?_⟩, fun σ hT hH => ⟨am_wr σ 80 (upd (upd (σ.1 80) (6 * c) (nI v)) (6 * c + 1) (-4)), (fr80 σ _ _).1, (fr80 σ _ _).2, fun q => (by cases q), fun Q => ?_⟩⟩
        · rw [cst2 σ Q hT hH]
          exact c46n hG hl1 hlt hx3 hT hn
        · rw [mst2 σ Q hT hH, sel]
          have e := m126n (sv := sv) (Q := Q) (τ := am_wr σ 80 (upd (σ.1 80) (6 * c) (nI v))) (a := a3) (f := nI a1) (s := 0) (j := if a3 < L then nI (g a3) else 0) hk
          rw [mT_wn] at e
          exact e
end I80
