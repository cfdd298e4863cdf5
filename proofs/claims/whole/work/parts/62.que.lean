/-! QUERIES: what they leave, how they are read -/
def Cx (a : Nat) (σ τ : am_S) : Prop := τ.2 = σ.2 ∧ (∀ k, k ≠ a → k ≠ a + 20 → τ.1 k = σ.1 k) ∧ ∀ j, j ≠ 7 → j ≠ 8 → τ.1 a j = σ.1 a j
def Cf (σ τ : am_S) : Prop := τ.2 = σ.2 ∧ (∀ k, k ≠ 1 → k ≠ 21 → (k < 44 ∨ 64 < k) → τ.1 k = σ.1 k) ∧ ∀ j, j ≠ 7 → j ≠ 8 → τ.1 1 j = σ.1 1 j
def Mf (σ τ : am_S) : Prop := (∀ k, k < 71 → τ.1 k = σ.1 k) ∧ (∀ k, 78 < k → k ≠ 82 → τ.1 k = σ.1 k) ∧ τ.1 71 = σ.1 71
section I62
variable {sv : am_V} {σ τ ρ : am_S} {Q : Option Value → am_H → Prop} {k hd : Int32} {a b w : Nat} {V : Nat → Nat → Int32}
theorem Cx_refl : Cx a σ σ := ⟨rfl, fun _ _ _ => rfl, fun _ _ _ => rfl⟩
theorem Cx_trans (h1 : Cx a σ τ) (h2 : Cx a τ ρ) : Cx a σ ρ := ⟨h2.1.trans h1.1, fun k q1 q2 => (h2.2.1 k q1 q2).trans (h1.2.1 k q1 q2), fun j q1 q2 => (h2.2.2 j q1 q2).trans (h1.2.2 j q1 q2)⟩
theorem Cx_cV (h : Cx a σ τ) : cV τ a = cV σ a := cV_of (fun k q1 q2 => h.2.1 k (by omega) (by omega)) (h.2.2 5 (by decide) (by decide))
theorem Cf_refl : Cf σ σ := ⟨rfl, fun _ _ _ _ => rfl, fun _ _ _ => rfl⟩
theorem Cf_trans (h1 : Cf σ τ) (h2 : Cf τ ρ) : Cf σ ρ := ⟨h2.1.trans h1.1, fun k q1 q2 q3 => (h2.2.1 k q1 q2 q3).trans (h1.2.1 k q1 q2 q3), fun j q1 q2 => (h2.2.2 j q1 q2).trans (h1.2.2 j q1 q2)⟩
theorem Cf_1 (h : Cx 1 σ τ) : Cf σ τ := ⟨h.1, fun k q1 q2 _ => h.2.1 k q1 (by omega), h.2.2⟩
theorem Cf_44 (h : Cx 44 σ τ) : Cf σ τ := ⟨h.1, fun k q1 q2 q3 => h.2.1 k (by omega) (by omega), fun j _ _ => by rw [h.2.1 1 (by omega) (by omega)]⟩
theorem Cf_cV (h : Cf σ τ) : cV τ 1 = cV σ 1 := cV_of (fun k q1 q2 => h.2.1 k (by omega) (by omega) (by omega)) (h.2.2 5 (by decide) (by decide))
theorem Cf_mV (h : Cf σ τ) : mV τ = mV σ := by
  have g := h.2.1 71 (by decide) (by decide) (by decide)
  exact mV_of (fun k q1 q2 => h.2.1 k (by omega) (by omega) (by omega)) ⟨h.2.1 81 (by decide) (by decide) (by decide), h.2.1 83 (by decide) (by decide) (by decide), h.2.1 84 (by decide) (by decide) (by decide)⟩ ⟨by rw [g], by rw [g], by rw [g], by rw [g]⟩
theorem Cf_Inv (h : Cf σ τ) (hI : Inv σ) : Inv τ := by
  have g : ∀ k, k ≠ 1 → k ≠ 21 → (k < 44 ∨ 64 < k) → τ.1 k = σ.1 k := h.2.1
  refine Inv_mk (V := mV σ) hI ⟨?_, ?_, ?_, ?_, ?_, ?_, ?_, ?_, ?_, ?_, ?_, ?_, ?_, fun k q1 q2 => ?_⟩ ((Cf_cV h).trans hI.1) (Cf_mV h) hI.2.1
  iterate 13 (rw [g _ (by decide) (by decide) (by decide)])
  · rw [g k (by omega) (by omega) (by omega)]
theorem Mf_refl : Mf σ σ := ⟨fun _ _ => rfl, fun _ _ _ => rfl, rfl⟩
theorem Mf_trans (h1 : Mf σ τ) (h2 : Mf τ ρ) : Mf σ ρ := ⟨fun k q => (h2.1 k q).trans (h1.1 k q), fun k q1 q2 => (h2.2.1 k q1 q2).trans (h1.2.1 k q1 q2), h2.2.2.trans h1.2.2⟩
theorem Mf_1 (h : τ.1 = σ.1) : Mf σ τ := ⟨fun _ _ => by rw [h], fun _ _ _ => by rw [h], by rw [h]⟩
theorem mV_1 (h : τ.1 = σ.1) : mV τ = mV σ := by
  unfold mV
  rw [h]
theorem Mf_Inv (h : Mf σ τ) (hm : mV τ = mV σ) (hI : Inv σ) : Inv τ := by
  obtain ⟨g1, g2, g3⟩ := h
  refine Inv_mk (V := mV σ) hI ⟨?_, ?_, ?_, ?_, ?_, ?_, ?_, ?_, ?_, ?_, ?_, ?_, ?_, fun k q1 q2 => ?_⟩ ?_ hm hI.2.1
  iterate 13 (first | rw [g3] | rw [g1 _ (by decide)] | rw [g2 _ (by decide) (by decide)])
  · rw [g1 k (by omega)]
  · rw [← hI.1]
    exact cV_of (fun k q1 q2 => g1 k (by omega)) (by rw [g1 1 (by omega)])
/-- a question: both answer by the view alone -/
theorem sim_q {cm rm : Nat} {args : List Value} (hq : ∀ V, okV V → ∃ v : Int32, (∀ σ, cV σ 1 = V → ∃ τ, Cf σ τ ∧ ∀ Q, AM sv cm (.ref 0 :: args) (am_toH σ) Q = Q (some (.int v)) (am_toH τ)) ∧ (∀ σ, mV σ = V → ∃ τ, Mf σ τ ∧ mV τ = V ∧ ∀ Q, AM sv rm (.ref 71 :: args) (am_toH σ) Q = Q (some (.int v)) (am_toH τ))) : SimOK sv Inv cm rm args := by
  intro σ hI
  obtain ⟨v, h1, h2⟩ := hq (mV σ) hI.2.1
  obtain ⟨s1, f1, e1⟩ := h1 σ hI.1
  have g1 : mV s1 = mV σ := Cf_mV f1
  obtain ⟨s2, f2, g2, e2⟩ := h2 s1 g1
  exact ⟨v, s1, s2, e1, e2, Mf_Inv f2 (g2.trans g1.symm) (Cf_Inv f1 hI)⟩
/-- a loop that goes up and leaves its memory in a relation -/
theorem am_upE {R : Nat → am_S → Prop} {F : Nat → am_S → (Option Value → am_H → Prop) → Prop} {N : Nat} {σ : am_S} (h0 : R 0 σ) (hs : ∀ i τ, i < N → R i τ → ∃ τ', R (i + 1) τ' ∧ ∀ Q, F i τ Q = F (i + 1) τ' Q) : ∃ τ, R N τ ∧ ∀ Q, F 0 σ Q = F N τ Q := by
  have key : ∀ i, i ≤ N → ∃ τ, R i τ ∧ ∀ Q, F 0 σ Q = F i τ Q := by
    intro i
    induction i with
    | zero => intro _; exact ⟨σ, h0, fun _ => rfl⟩
    | succ i ih =>
      intro hi
      obtain ⟨τ, r, e⟩ := ih (by omega)
      obtain ⟨τ', r', e'⟩ := hs i τ (by omega) r
      exact ⟨τ', r', fun Q => (e Q).trans (e' Q)⟩
  exact key N (Nat.le_refl _)
/-! reading -/
theorem rc (h : cV σ a = V) : σ.1 (a + 7) 3 = V 9 0 ∧ σ.1 a 5 = V 9 1 ∧ σ.1 (a + 11) 4 = V 9 2 ∧ σ.1 (a + 16) 2 = V 9 3 := by
  subst h
  exact ⟨rfl, rfl, rfl, rfl⟩
theorem rcb (h : cV σ a = V) (hb : b < 16) : σ.1 (a + 2) b = V 0 b ∧ σ.1 (a + 3) b = V 1 b ∧ σ.1 (a + 4) b = V 2 b ∧ σ.1 (a + 5) b = V 3 b ∧ σ.1 (a + 6) b = V 4 b := by
  subst h
  exact ⟨(if_pos hb).symm, (if_pos hb).symm, (if_pos hb).symm, (if_pos hb).symm, (if_pos hb).symm⟩
theorem rcl (h : cV σ a = V) {j : Nat} (hj : j < 5) : σ.1 (a + 19) j = V 5 j := by
  subst h
  exact (if_pos hj).symm
theorem rcw (h : cV σ a = V) (hw : w < (V 9 0).toNatClampNeg) : σ.1 (a + 8) w = V 6 w ∧ σ.1 (a + 9) w = V 7 w ∧ σ.1 (a + 10) w = V 8 w := by
  subst h
  exact ⟨(if_pos hw).symm, (if_pos hw).symm, (if_pos hw).symm⟩
theorem rcc (h : cV σ a = V) (hw : w < (V 9 2).toNatClampNeg) : σ.1 (a + 12) w = V 10 w ∧ σ.1 (a + 13) w = V 11 w ∧ σ.1 (a + 14) w = V 12 w ∧ σ.1 (a + 15) w = V 13 w := by
  subst h
  exact ⟨(if_pos hw).symm, (if_pos hw).symm, (if_pos hw).symm, (if_pos hw).symm⟩
theorem rcp (h : cV σ a = V) (hw : w < (V 9 3).toNatClampNeg) : σ.1 (a + 17) w = V 14 w ∧ σ.1 (a + 18) w = V 15 w := by
  subst h
  exact ⟨(if_pos hw).symm, (if_pos hw).symm⟩
theorem rm (h : mV σ = V) : σ.1 71 7 = V 9 0 ∧ σ.1 71 5 = V 9 1 ∧ σ.1 71 16 = V 9 2 ∧ σ.1 71 19 = V 9 3 := by
  subst h
  exact ⟨rfl, rfl, rfl, rfl⟩
theorem rmb (h : mV σ = V) (hb : b < 16) : σ.1 72 b = V 0 b ∧ σ.1 73 b = V 1 b ∧ σ.1 74 b = V 2 b - 1 ∧ σ.1 75 b = V 3 b - 1 ∧ σ.1 76 b = V 4 b := by
  subst h
  have e2 : mV σ 2 b = σ.1 74 b + 1 := if_pos hb
  have e3 : mV σ 3 b = σ.1 75 b + 1 := if_pos hb
  rw [e2, e3, Int32.add_sub_cancel, Int32.add_sub_cancel]
  exact ⟨(if_pos hb).symm, (if_pos hb).symm, rfl, rfl, (if_pos hb).symm⟩
theorem rml (h : mV σ = V) {j : Nat} (hj : j < 5) : σ.1 77 j = V 5 j := by
  subst h
  exact (if_pos hj).symm
theorem rmw (h : mV σ = V) (hw : w < (V 9 0).toNatClampNeg) : σ.1 78 (3 * w) = V 6 w ∧ σ.1 78 (3 * w + 1) = V 7 w ∧ σ.1 78 (3 * w + 2) = V 8 w := by
  subst h
  exact ⟨(if_pos hw).symm, (if_pos hw).symm, (if_pos hw).symm⟩
theorem rmc (h : mV σ = V) (hw : w < (V 9 2).toNatClampNeg) : σ.1 81 (4 * w) = V 10 w ∧ σ.1 81 (4 * w + 1) = V 11 w ∧ σ.1 81 (4 * w + 2) = V 12 w ∧ σ.1 81 (4 * w + 3) = V 13 w := by
  subst h
  exact ⟨(if_pos hw).symm, (if_pos hw).symm, (if_pos hw).symm, (if_pos hw).symm⟩
theorem rmp (h : mV σ = V) (hw : w < (V 9 3).toNatClampNeg) : σ.1 83 w = V 14 w ∧ σ.1 84 w = V 15 w := by
  subst h
  exact ⟨(if_pos hw).symm, (if_pos hw).symm⟩
theorem vW (hok : okV V) : ∃ n, n ≤ 8 ∧ V 9 0 = nI n ∧ (V 9 0).toNatClampNeg = n ∧ (∀ x, am_lt x (nI n) = am_in x n) ∧ (∀ x : Int32, am_bt x.toInt64 0 (nI n - 1).toInt64 = am_in x n) := by
  obtain ⟨n, hn, en⟩ := rg_nI (n := 8) (by decide) hok.2.2.1
  refine ⟨n, hn, en, by rw [en, nI_clamp (by omega)], fun x => lt_in (nI_toInt (by omega)), fun x => bt_in ?_⟩
  rw [Int32.toInt_toInt64, Int32.toInt_sub, nI_toInt (by omega), show (1 : Int32).toInt = 1 by decide, Int.bmod_eq_of_le (by omega) (by omega)]
  omega
theorem bt_rg (h : am_bt k.toInt64 1 9 = true) : rg k 1 9 := by
  have := of_decide_eq_true h
  rw [Int32.toInt_toInt64, show (1 : Int64).toInt = 1 by decide, show (9 : Int64).toInt = 9 by decide] at this
  exact this
/-! the class weighs -/
theorem c30 (ha : am_St a) (hV : cV σ a = V) (hok : okV V) (hb : b < 16) (hw : w < (V 9 0).toNatClampNeg) (hk : rg k 1 9) : ∃ τ, Cx a σ τ ∧ τ.1 a 7 = nI (abN V w b k) ∧ τ.1 a 8 = nI (blN V w b k) ∧ ∀ Q, AM sv 30 [.ref a, .int (nI w), .int (nI b), .int k, .int (heedF V (decide (V 7 w = 2)) (b + 1))] (am_toH σ) Q = Q none (am_toH τ) := by
  obtain ⟨n, hn, en, cn, -⟩ := vW hok
  obtain ⟨r0, r1, r2, r3, r4⟩ := rcb hV hb
  obtain ⟨w6, w7, w8⟩ := rcw hV hw
  have l0 := rcl hV (show 0 < 5 by decide)
  have l1 := rcl hV (show 1 < 5 by decide)
  have l3 := rcl hV (show 3 < 5 by decide)
  have col : σ.1 a 5 = V 9 1 := (rc hV).2.1
  obtain ⟨q1, q2, q3, -⟩ := hok.2.2.2.2.2.2.1 w hw
  obtain ⟨o1, o2, o3, o4, -⟩ := hok.1 b hb
  obtain ⟨m, hm, em⟩ := rg_nI (n := 9) (by decide) (heedF_rg hok (c := decide (V 7 w = 2)) (b + 1) (by omega))
  have hP : ∀ j, j < 4 → puF (σ.1 (a + 20)) (V 2 b) (V 3 b) (V 0 b) (V 1 b) (V 5 0) (V 5 1) (V 5 3) (V 7 w) (V 8 w) k j = nI (pN V b (V 7 w) (V 8 w) k j) := fun j hj => (puF_at o1 o2 o3 o4 hj).trans (pN_eq hok hb q3 hk j).1
  have c := fun Q => s30 (sv := sv) (Q := Q) (σ := σ) (k := k) (hd := heedF V (decide (V 7 w = 2)) (b + 1)) ha hb (show w < 12 by omega) (by rw [r0, r1, r2, r3]; exact ⟨o1, o2, o3, o4⟩) rfl
  simp only [r0, r1, r2, r3, l0, l1, l3, w6, w7, w8, col] at c
  generalize puF (σ.1 (a + 20)) (V 2 b) (V 3 b) (V 0 b) (V 1 b) (V 5 0) (V 5 1) (V 5 3) (V 7 w) (V 8 w) k = P at c hP
  have e7 : P (V 1 b / 10).toNatClampNeg = nI (ownN V b (V 7 w) (V 8 w) k) := by
    have hp := sl_pl o2
    rw [hp.1, nI_clamp (by omega)]
    exact hP _ hp.2
  have ol := own_le hok hb (kd := V 7 w) q3 hk
  have su : suF P (nI (ownN V b (V 7 w) (V 8 w) k)) 4 = nI (allN V b (V 7 w) (V 8 w) k - ownN V b (V 7 w) (V 8 w) k) := suF_ok (hP 0 (by decide)) (hP 1 (by decide)) (hP 2 (by decide)) (hP 3 (by decide)) ol.1
  have sz := sz_ok o2 q1
  have hab : abF P (P (V 1 b / 10).toNatClampNeg) (V 1 b) (V 6 w) (V 9 1) (heedF V (decide (V 7 w = 2)) (b + 1)) = nI (abN V w b k) := by
    rw [e7, em, abF_ok su sz.1 sz.2.2.2]
    unfold abN
    rw [em, nI_clamp (by omega)]
  have hbl : blF P (P (V 1 b / 10).toNatClampNeg) = nI (blN V w b k) := by
    rw [e7, blF_ok su ol.1]
    rfl
  refine ⟨am_wr (am_wr σ (a + 20) P) a (upd (upd (σ.1 a) 8 (blF P (P (V 1 b / 10).toNatClampNeg))) 7 (abF P (P (V 1 b / 10).toNatClampNeg) (V 1 b) (V 6 w) (V 9 1) (heedF V (decide (V 7 w = 2)) (b + 1)))), ⟨rfl, fun k q1 q2 => ?_, fun j q1 q2 => ?_⟩, ?_, ?_, c⟩
  · rw [am_wr_ne q1, am_wr_ne q2]
  · rw [am_wr_eq, upd_at, if_neg q1, upd_at, if_neg q2]
  · rw [am_wr_eq, upd_at, if_pos rfl, hab]
  · rw [am_wr_eq, upd_at, if_neg (by decide), upd_at, if_pos rfl, hbl]
/-! the reference weighs -/
theorem m133 (hok : okV (mV σ)) (hw : w < 8) (hb : b < 16) : AM sv 133 [.ref 71, .int (nI w), .int (nI b)] (am_toH σ) Q = Q (some (.int (heedF (mV σ) (decide (σ.1 78 (3 * w + 1) = 2)) (b + 1)))) (am_toH σ) := by
  have b1 : am_in (nI (3 * w + 1)) 24 = true := nI_in' (by omega) (by omega)
  have d1 : (nI (3 * w + 1)).toNatClampNeg = 3 * w + 1 := nI_clamp (by omega)
  have key := am_up (N := b + 1) (f := fun i => AW sv 133 6 [.ref 71, .int (nI w), .int (nI b), .int (heedF (mV σ) (decide (σ.1 78 (3 * w + 1) = 2)) i), .int (nI i)] [] (am_toH σ) 0 0 Q) (by
    intro i hi
    have mg : ∀ (c : Prop) [Decidable c] (x y : Int32), (if c then AW sv 133 6 [.ref 71, .int (nI w), .int (nI b), .int x, .int (nI (i + 1))] [] (am_toH σ) 0 0 Q else AW sv 133 6 [.ref 71, .int (nI w), .int (nI b), .int y, .int (nI (i + 1))] [] (am_toH σ) 0 0 Q) = AW sv 133 6 [.ref 71, .int (nI w), .int (nI b), .int (if c then x else y), .int (nI (i + 1))] [] (am_toH σ) 0 0 Q := by
      intro c _ x y
      split <;> rfl
    have e1 : ¬ nI b < nI i := nI_nlt (by omega) (by omega)
    have e3 : am_in (nI i) 16 = true := nI_in' (by omega) (by omega)
    have e4 : (nI i).toNatClampNeg = i := nI_clamp (by omega)
    rw [x133_6]
    simp only [x133_8, x133_9, x133_12, x133_13, x133_14, x133_17, x133_18, x133_19, x133_20, x133_22, x133_25, x133_27, x133_30, x133_31, x133_32, x133_35, x133_36, x133_37, x133_38, x133_39, x133_40, x133_41, x133_44, x133_46, x133_47, x133_50, x133_51, x133_54, x133_55, x133_56, x133_57, x133_58, x133_59, x133_60, x133_61, x133_64, x133_65, x133_68, x133_69, x133_70, x133_71, x133_72, x133_75, x133_76, x133_79, x133_81, x133_82, x133_85, x133_86, x133_89, x133_90, x133_91, x133_94, x133_97, x133_98, Option.toList_some, Option.toList_none, List.cons_append, List.nil_append, cat_i, cat_r, cat_n, cat_f, cs_n, cs_i, cs_r, cs_l, cs_f, Nat.reduceAdd, Nat.reduceLeDiff, Nat.zero_le, if_true, if_false, true_or, or_true, am_wr_at, Nat.reduceEqDiff, not_true_eq_false, not_false_eq_true, i_one, ite_not, bI_z, bI_nz, bI_t, bI_f, bI_or, Bool.false_eq_true, Bool.true_eq_false, reduceCtorEq, lc75, lc76, lc77, lc78, e1, e3, e4, t25, n2c, ix31, b1, d1, nI_1, mg]
    refine congrArg (fun z => AW sv 133 6 [.ref 71, .int (nI w), .int (nI b), .int z, .int (nI (i + 1))] [] (am_toH σ) 0 0 Q) ?_
    obtain ⟨hh, a1, f1⟩ := rg_nI (n := 9) (by decide) (heedF_rg hok (c := decide (σ.1 78 (3 * w + 1) = 2)) i (by omega))
    obtain ⟨bb, a2, f2⟩ := rg_nI (n := 9) (by decide) (hok.2.1 2 (by decide))
    obtain ⟨m, a3, f3⟩ := rg_nI (n := 4) (by decide) (hok.1 i (by omega)).2.2.2.1
    obtain ⟨j, a4, f4⟩ := rg_nI (n := 1) (by decide) (hok.1 i (by omega)).2.2.2.2
    have g2 : σ.1 77 2 = nI bb := f2
    have g3 : σ.1 75 i = nI m - 1 := by
      have : σ.1 75 i + 1 = nI m := by
        have h5 : mV σ 3 i = σ.1 75 i + 1 := if_pos (by omega)
        rw [← h5]; exact f3
      rw [← this, Int32.add_sub_cancel]
    have g4 : σ.1 76 i = nI j := by
      have h5 : mV σ 4 i = σ.1 76 i := if_pos (by omega)
      rw [← h5]; exact f4
    rw [heedF_s, f1, f2, f3, f4, g2, g3, g4, ← (heed_dec hh (by omega) bb (by omega) m (by omega) j (by omega) _).1]
    by_cases hk : σ.1 78 (3 * w + 1) = 2
    · simp only [hk, decide_true, if_true, mstep]
    · simp only [hk, decide_false, if_false, mstep, Bool.false_eq_true]) (b + 1) (Nat.le_refl _)
  rw [n133]
  simp only [x133_0, x133_2, x133_3, x133_4, Option.toList_some, Option.toList_none, List.cons_append, List.nil_append, cat_i, cat_r, cat_n, cat_f, cs_n, cs_i, cs_r, cs_l, cs_f, Nat.reduceAdd, Nat.reduceLeDiff, Nat.zero_le, if_true, if_false, true_or, or_true, am_wr_at, Nat.reduceEqDiff, not_true_eq_false, not_false_eq_true, i_one, ite_not, bI_z, bI_nz, bI_t, bI_f, bI_or, Bool.false_eq_true, Bool.true_eq_false, reduceCtorEq]
  refine Eq.trans key ?_
  have e1 : nI b < nI (b + 1) := nI_lt (by omega) (by omega)
  rw [x133_6]
  simp only [x133_8, x133_9, x133_12, x133_13, x133_14, x133_17, x133_18, x133_19, x133_20, x133_22, x133_25, x133_27, x133_30, x133_31, x133_32, x133_35, x133_36, x133_37, x133_38, x133_39, x133_40, x133_41, x133_44, x133_46, x133_47, x133_50, x133_51, x133_54, x133_55, x133_56, x133_57, x133_58, x133_59, x133_60, x133_61, x133_64, x133_65, x133_68, x133_69, x133_70, x133_71, x133_72, x133_75, x133_76, x133_79, x133_81, x133_82, x133_85, x133_86, x133_89, x133_90, x133_91, x133_94, x133_97, x133_98, Option.toList_some, Option.toList_none, List.cons_append, List.nil_append, cat_i, cat_r, cat_n, cat_f, cs_n, cs_i, cs_r, cs_l, cs_f, Nat.reduceAdd, Nat.reduceLeDiff, Nat.zero_le, if_true, if_false, true_or, or_true, am_wr_at, Nat.reduceEqDiff, not_true_eq_false, not_false_eq_true, i_one, ite_not, bI_z, bI_nz, bI_t, bI_f, bI_or, Bool.false_eq_true, Bool.true_eq_false, reduceCtorEq, e1]
theorem m137 (hV : mV σ = V) (hok : okV V) (hb : b < 16) (hw : w < (V 9 0).toNatClampNeg) (hk : rg k 1 9) : ∃ τ : am_S, τ.1 = σ.1 ∧ τ.2 14 = lN (abN V w b k) ∧ τ.2 15 = lN (blN V w b k) ∧ ∀ Q, AM sv 137 [.ref 71, .int (nI w), .int (nI b), .int k] (am_toH σ) Q = Q none (am_toH τ) := by
  obtain ⟨n, hn, en, cn, -⟩ := vW hok
  obtain ⟨r0, r1, r2, r3, r4⟩ := rmb hV hb
  obtain ⟨w6, w7, w8⟩ := rmw hV hw
  have l0 := rml hV (show 0 < 5 by decide)
  have l1 := rml hV (show 1 < 5 by decide)
  have l3 := rml hV (show 3 < 5 by decide)
  have col : σ.1 71 5 = V 9 1 := (rm hV).2.1
  obtain ⟨q1, q2, q3, -⟩ := hok.2.2.2.2.2.2.1 w hw
  obtain ⟨o1, o2, o3, o4, -⟩ := hok.1 b hb
  obtain ⟨m, hm, em⟩ := rg_nI (n := 9) (by decide) (heedF_rg hok (c := decide (V 7 w = 2)) (b + 1) (by omega))
  have c133 := fun Q => m133 (sv := sv) (Q := Q) (σ := σ) (w := w) (b := b) (by rw [hV]; exact hok) (by omega) hb
  simp only [hV, w7] at c133
  have c131 := fun x Q => s131 (sv := sv) (Q := Q) (σ := σ) (kd := V 7 w) (db := V 8 w) (k := k) (p := x) hb
  simp only [r0, r1, r2, r3, l0, l1, l3] at c131
  have c := fun Q => s137 (sv := sv) (Q := Q) (σ := σ) (k := k) (hd := heedF V (decide (V 7 w = 2)) (b + 1)) (p := fun x => pV V b (V 7 w) (V 8 w) k x) hb (show w < 8 by omega) c133 (by rw [w7, w8]; exact c131)
  simp only [r1, w6, col] at c
  have p0 := pN_eq hok hb (kd := V 7 w) q3 hk 0
  have p1 := pN_eq hok hb (kd := V 7 w) q3 hk 1
  have p2 := pN_eq hok hb (kd := V 7 w) q3 hk 2
  have p3 := pN_eq hok hb (kd := V 7 w) q3 hk 3
  have e1 : suL (fun i => pV V b (V 7 w) (V 8 w) k (nI i)) 4 = lN (allN V b (V 7 w) (V 8 w) k) := suL_ok p0.1 p1.1 p2.1 p3.1 p0.2.2 p1.2.2 p2.2.2 p3.2.2
  have e2 : pV V b (V 7 w) (V 8 w) k (V 1 b / 10) = nI (ownN V b (V 7 w) (V 8 w) k) := by
    rw [(sl_pl o2).1]
    exact (pN_eq hok hb (kd := V 7 w) q3 hk _).1
  have ol := own_le hok hb (kd := V 7 w) q3 hk
  have sz := sz_ok o2 q1
  have e3 : aM (lN (allN V b (V 7 w) (V 8 w) k)) (nI (ownN V b (V 7 w) (V 8 w) k)) (szM (V 1 b) (V 6 w)) (heedF V (decide (V 7 w = 2)) (b + 1)) = lN (acN (ownN V b (V 7 w) (V 8 w) k) (allN V b (V 7 w) (V 8 w) k) (szN (V 1 b) (V 6 w)) m) := by
    rw [em, sz.2.1]
    exact aM_ok ol.1 ol.2.2 sz.2.2.2 hm
  simp only [e1, e2, e3] at c
  have hY : (if canF (V 6 w) (V 1 b / 10) (V 9 1) = true then lN (acN (ownN V b (V 7 w) (V 8 w) k) (allN V b (V 7 w) (V 8 w) k) (szN (V 1 b) (V 6 w)) m) else 0) = lN (abN V w b k) := by
    unfold abN
    rw [em, nI_clamp (by omega)]
    split <;> rfl
  have hZ : (81 : Int64) * lN (allN V b (V 7 w) (V 8 w) k) = lN (blN V w b k) := lN_mul 81 _
  simp only [hY, hZ] at c
  refine ⟨_, ?_, ?_, ?_, c⟩
  · rfl
  · simp only [wl_2, Option.toList_some, Option.toList_none, List.cons_append, List.nil_append, cat_i, cat_r, cat_n, cat_f, cs_n, cs_i, cs_r, cs_l, cs_f, Nat.reduceAdd, Nat.reduceLeDiff, Nat.zero_le, if_true, if_false, true_or, or_true, am_wr_at, Nat.reduceEqDiff, not_true_eq_false, not_false_eq_true, i_one, ite_not, bI_z, bI_nz, bI_t, bI_f, bI_or, Bool.false_eq_true, Bool.true_eq_false, reduceCtorEq]
  · simp only [wl_2, Option.toList_some, Option.toList_none, List.cons_append, List.nil_append, cat_i, cat_r, cat_n, cat_f, cs_n, cs_i, cs_r, cs_l, cs_f, Nat.reduceAdd, Nat.reduceLeDiff, Nat.zero_le, if_true, if_false, true_or, or_true, am_wr_at, Nat.reduceEqDiff, not_true_eq_false, not_false_eq_true, i_one, ite_not, bI_z, bI_nz, bI_t, bI_f, bI_or, Bool.false_eq_true, Bool.true_eq_false, reduceCtorEq]
end I62
