/-! VIEWS: what a Stage shows (cV), what the reference's rows show (mV), as the same rows -/
def cV (σ : am_S) (a : Nat) : Nat → Nat → Int32 := fun i j => match i with
  | 0 => if j < 16 then σ.1 (a + 2) j else 0
  | 1 => if j < 16 then σ.1 (a + 3) j else 0
  | 2 => if j < 16 then σ.1 (a + 4) j else 0
  | 3 => if j < 16 then σ.1 (a + 5) j else 0
  | 4 => if j < 16 then σ.1 (a + 6) j else 0
  | 5 => if j < 5 then σ.1 (a + 19) j else 0
  | 6 => if j < (σ.1 (a + 7) 3).toNatClampNeg then σ.1 (a + 8) j else 0
  | 7 => if j < (σ.1 (a + 7) 3).toNatClampNeg then σ.1 (a + 9) j else 0
  | 8 => if j < (σ.1 (a + 7) 3).toNatClampNeg then σ.1 (a + 10) j else 0
  | 9 => (match j with
    | 0 => σ.1 (a + 7) 3
    | 1 => σ.1 a 5
    | 2 => σ.1 (a + 11) 4
    | 3 => σ.1 (a + 16) 2
    | _ => 0)
  | 10 => if j < (σ.1 (a + 11) 4).toNatClampNeg then σ.1 (a + 12) j else 0
  | 11 => if j < (σ.1 (a + 11) 4).toNatClampNeg then σ.1 (a + 13) j else 0
  | 12 => if j < (σ.1 (a + 11) 4).toNatClampNeg then σ.1 (a + 14) j else 0
  | 13 => if j < (σ.1 (a + 11) 4).toNatClampNeg then σ.1 (a + 15) j else 0
  | 14 => if j < (σ.1 (a + 16) 2).toNatClampNeg then σ.1 (a + 17) j else 0
  | 15 => if j < (σ.1 (a + 16) 2).toNatClampNeg then σ.1 (a + 18) j else 0
  | _ => 0
/-- a loop that goes up -/
theorem am_up {f : Nat → Prop} {N : Nat} (hs : ∀ i, i < N → f i = f (i + 1)) : ∀ i, i ≤ N → f 0 = f i := by
  intro i hi
  induction i with
  | zero => rfl
  | succ i ih => rw [ih (by omega), hs i (by omega)]
theorem am_up2 {f : Nat → Prop} {L N : Nat} (hs : ∀ i, L ≤ i → i < N → f i = f (i + 1)) : ∀ i, L ≤ i → i ≤ N → f L = f i := by
  intro i hl hi
  induction i with
  | zero =>
    have : L = 0 := by omega
    subst this; rfl
  | succ i ih =>
    by_cases h : L ≤ i
    · rw [ih h (by omega), hs i h (by omega)]
    · have : L = i + 1 := by omega
      subst this; rfl
theorem nI_in' {n N : Nat} (h : n < N) (hN : n < 2 ^ 31) : am_in (nI n) N = true := by
  apply decide_eq_true
  rw [nI_toInt hN]
  omega
/-- HEED ahead of beat b -/
def heedF (V : Nat → Nat → Int32) (child : Bool) : Nat → Int32
  | 0 => 9
  | b + 1 => if ¬ V 4 b = 0 then 0 else if ¬ V 3 b = 0 then (if child = true then (if heedF V child b + V 5 2 < 9 then heedF V child b + V 5 2 else 9) else (if 0 < (if heedF V child b + V 5 2 < 9 then heedF V child b + V 5 2 else 9) - 2 then (if heedF V child b + V 5 2 < 9 then heedF V child b + V 5 2 else 9) - 2 else 0)) else (if heedF V child b + V 5 2 < 9 then heedF V child b + V 5 2 else 9)
section V41
variable {sv : am_V} {h : am_H} {σ : am_S} {Q : Option Value → am_H → Prop} {x y l x0 x1 x2 x3 x4 x5 : Int32} {a : Nat}
theorem s16 (ha : am_St a) {b : Nat} (hb : b < 16) {child : Bool} : AM sv 16 [.ref (a + 1), .int (nI b), .int (bI child), .int (cV σ a 5 2)] (am_toH σ) Q = Q (some (.int (heedF (cV σ a) child (b + 1)))) (am_toH σ) := by
  have key := am_up (N := b + 1) (f := fun i => AW sv 16 7 [.ref (a + 1), .int (nI b), .int (bI child), .int (cV σ a 5 2), .int (heedF (cV σ a) child i), .int (nI i)] [] (am_toH σ) 0 0 Q) (by
    intro i hi
    have e1 : ¬ nI b < nI i := nI_nlt (by omega) (by omega)
    have e2 : ¬ 16 ≤ nI i := by
      show ¬ nI 16 ≤ nI i
      exact nI_ge (by omega) (by decide)
    have e3 : am_in (nI i) 16 = true := nI_in' (by omega) (by omega)
    have e4 : (nI i).toNatClampNeg = i := nI_clamp (by omega)
    have e5 : σ.1 (a + 6) i = cV σ a 4 i := by simp [cV]; omega
    have e6 : σ.1 (a + 5) i = cV σ a 3 i := by simp [cV]; omega
    rw [x16_7]
    simp only [x16_9, x16_10, x16_13, x16_15, x16_17, x16_20, x16_21, x16_24, x16_26, x16_27, x16_30, x16_31, x16_33, x16_36, x16_38, x16_40, x16_41, x16_42, x16_45, x16_47, x16_48, x16_51, x16_53, x16_54, x16_57, x16_58, x16_61, x16_62, x16_64, x16_65, x16_66, x16_69, x16_71, x16_74, x16_77, x16_79, Option.toList_some, Option.toList_none, List.cons_append, List.nil_append, cat_i, cat_r, cat_n, cat_f, cs_n, cs_i, cs_r, cs_l, cs_f, Nat.reduceAdd, Nat.reduceLeDiff, Nat.zero_le, if_true, if_false, true_or, or_true, ha, ln6, ln5, e1, e2, e3, e4, e5, e6, bI_nz, bI_z, nI_1]
    by_cases h1 : cV σ a 4 i = 0 <;> by_cases h2 : cV σ a 3 i = 0 <;> cases child <;> simp [h1, h2, heedF]) (b + 1) (Nat.le_refl _)
  rw [n16]
  simp only [x16_0, x16_2, x16_4, x16_5, Option.toList_some, Option.toList_none, List.cons_append, List.nil_append, cat_i, cat_r, cat_n, cat_f, cs_n, cs_i, cs_r, cs_l, cs_f, Nat.reduceAdd, Nat.reduceLeDiff, Nat.zero_le, if_true, if_false, true_or, or_true]
  refine Eq.trans key ?_
  have e1 : nI b < nI (b + 1) := nI_lt (by omega) (by omega)
  rw [x16_7]
  simp only [x16_9, x16_10, x16_13, x16_15, x16_17, x16_20, x16_21, x16_24, x16_26, x16_27, x16_30, x16_31, x16_33, x16_36, x16_38, x16_40, x16_41, x16_42, x16_45, x16_47, x16_48, x16_51, x16_53, x16_54, x16_57, x16_58, x16_61, x16_62, x16_64, x16_65, x16_66, x16_69, x16_71, x16_74, x16_77, x16_79, Option.toList_some, Option.toList_none, List.cons_append, List.nil_append, cat_i, cat_r, cat_n, cat_f, cs_n, cs_i, cs_r, cs_l, cs_f, Nat.reduceAdd, Nat.reduceLeDiff, Nat.zero_le, if_true, if_false, true_or, or_true, e1]
/-- the reference's rows -/
def mV (σ : am_S) : Nat → Nat → Int32 := fun i j => match i with
  | 0 => if j < 16 then σ.1 72 j else 0
  | 1 => if j < 16 then σ.1 73 j else 0
  | 2 => if j < 16 then σ.1 74 j + 1 else 0
  | 3 => if j < 16 then σ.1 75 j + 1 else 0
  | 4 => if j < 16 then σ.1 76 j else 0
  | 5 => if j < 5 then σ.1 77 j else 0
  | 6 => if j < (σ.1 71 7).toNatClampNeg then σ.1 78 (3 * j) else 0
  | 7 => if j < (σ.1 71 7).toNatClampNeg then σ.1 78 (3 * j + 1) else 0
  | 8 => if j < (σ.1 71 7).toNatClampNeg then σ.1 78 (3 * j + 2) else 0
  | 9 => (match j with
    | 0 => σ.1 71 7
    | 1 => σ.1 71 5
    | 2 => σ.1 71 16
    | 3 => σ.1 71 19
    | _ => 0)
  | 10 => if j < (σ.1 71 16).toNatClampNeg then σ.1 81 (4 * j) else 0
  | 11 => if j < (σ.1 71 16).toNatClampNeg then σ.1 81 (4 * j + 1) else 0
  | 12 => if j < (σ.1 71 16).toNatClampNeg then σ.1 81 (4 * j + 2) else 0
  | 13 => if j < (σ.1 71 16).toNatClampNeg then σ.1 81 (4 * j + 3) else 0
  | 14 => if j < (σ.1 71 19).toNatClampNeg then σ.1 83 j else 0
  | 15 => if j < (σ.1 71 19).toNatClampNeg then σ.1 84 j else 0
  | _ => 0
/-- the numbers are as told -/
def rg (x : Int32) (lo hi : Int) : Prop := lo ≤ x.toInt ∧ x.toInt ≤ hi
/-- none, or 10 PLACE and SIZE -/
def deed (x : Int32) : Prop := x = 0 ∨ ∃ p s : Nat, p < 4 ∧ 1 ≤ s ∧ s ≤ 9 ∧ x = nI (10 * p + s)
def okV (V : Nat → Nat → Int32) : Prop :=
  (∀ j, j < 16 → deed (V 0 j) ∧ deed (V 1 j) ∧ rg (V 2 j) 0 4 ∧ rg (V 3 j) 0 4 ∧ rg (V 4 j) 0 1) ∧ (∀ j, j < 5 → rg (V 5 j) 0 (if j = 4 then 10 else 9)) ∧ rg (V 9 0) 0 8 ∧ rg (V 9 1) 0 3 ∧ rg (V 9 2) 0 8 ∧ rg (V 9 3) 0 24 ∧
  (∀ j, j < (V 9 0).toNatClampNeg → rg (V 6 j) 0 11 ∧ rg (V 7 j) 0 3 ∧ rg (V 8 j) 0 9 ∧ (V 7 j = 0 → V 8 j = 3) ∧ ∀ i, i < j → ¬ V 6 i = V 6 j) ∧
  (∀ j, j < (V 9 2).toNatClampNeg → rg (V 10 j) 0 15 ∧ rg (V 11 j) 0 3 ∧ rg (V 12 j) 0 3 ∧ rg (V 13 j) 0 99) ∧
  (∀ j, j < (V 9 3).toNatClampNeg → rg (V 14 j) 0 15 ∧ rg (V 15 j) 0 3)
theorem rg_in {x : Int32} {n : Nat} (h : rg x 0 ((n : Int) - 1)) : am_in x n = true := by
  apply decide_eq_true
  have := h.1
  have := h.2
  omega
theorem rg_nI {x : Int32} {n : Nat} (hn : n < 2 ^ 31) (h : rg x 0 n) : ∃ k : Nat, k ≤ n ∧ x = nI k := by
  refine ⟨x.toInt.toNat, by have := h.1; have := h.2; omega, ?_⟩
  apply Int32.toInt_inj.mp
  rw [nI_toInt (by have := h.1; have := h.2; omega)]
  have := h.1
  omega
end V41
