/-! THE INVARIANT -/
/-- the image's rows -/
def iV (σ : am_S) : Nat → Nat → Int32 := fun i j => match i with
  | 0 => if j < 16 then σ.1 85 j else 0
  | 1 => if j < 16 then σ.1 85 (16 + j) else 0
  | 2 => if j < 16 then σ.1 85 (32 + j) + 1 else 0
  | 3 => if j < 16 then σ.1 85 (48 + j) + 1 else 0
  | 4 => if j < 16 then σ.1 85 (64 + j) else 0
  | 5 => if j < 5 then σ.1 85 (80 + j) else 0
  | 6 => if j < (σ.1 85 190).toNatClampNeg then σ.1 85 (85 + 3 * j) else 0
  | 7 => if j < (σ.1 85 190).toNatClampNeg then σ.1 85 (85 + (3 * j + 1)) else 0
  | 8 => if j < (σ.1 85 190).toNatClampNeg then σ.1 85 (85 + (3 * j + 2)) else 0
  | 9 => (match j with
    | 0 => σ.1 85 190
    | 1 => σ.1 85 189
    | 2 => σ.1 85 191
    | 3 => σ.1 85 192
    | _ => 0)
  | 10 => if j < (σ.1 85 191).toNatClampNeg then σ.1 85 (109 + 4 * j) else 0
  | 11 => if j < (σ.1 85 191).toNatClampNeg then σ.1 85 (109 + (4 * j + 1)) else 0
  | 12 => if j < (σ.1 85 191).toNatClampNeg then σ.1 85 (109 + (4 * j + 2)) else 0
  | 13 => if j < (σ.1 85 191).toNatClampNeg then σ.1 85 (109 + (4 * j + 3)) else 0
  | 14 => if j < (σ.1 85 192).toNatClampNeg then σ.1 85 (141 + j) else 0
  | 15 => if j < (σ.1 85 192).toNatClampNeg then σ.1 85 (165 + j) else 0
  | _ => 0
def inT (σ : am_S) : Prop := σ.1 65 1 = σ.1 71 10 ∧ rg (σ.1 65 1) 0 100 ∧ ∀ j, j < (σ.1 65 1).toNatClampNeg → σ.1 66 j = σ.1 79 j ∧ rg (σ.1 66 j) 32 126
def inS (σ : am_S) : Prop := ∀ k, k < 4 → σ.1 68 k = σ.1 86 k ∧ rg (σ.1 68 k) (-1) 2 ∧ σ.1 69 k = σ.1 87 k ∧ rg (σ.1 69 k) 0 16 ∧ ∀ j, j < (σ.1 69 k).toNatClampNeg → σ.1 70 (16 * k + j) = σ.1 88 (16 * k + j)
def inI (σ : am_S) : Prop := σ.1 0 2 = σ.1 71 23 ∧ (σ.1 0 2 = 0 ∨ σ.1 0 2 = 1 ∧ cV σ 22 = iV σ ∧ okV (iV σ))
def Inv (σ : am_S) : Prop := cV σ 1 = mV σ ∧ okV (mV σ) ∧ inT σ ∧ inS σ ∧ inI σ
/-! the invariant's parts speak of their cells alone -/
def cvK (k : Nat) : Bool := decide (3 ≤ k ∧ k ≤ 20)
theorem cV_of {σ τ : am_S} {a : Nat} (h1 : ∀ k, a + 2 ≤ k → k ≤ a + 19 → τ.1 k = σ.1 k) (h2 : τ.1 a 5 = σ.1 a 5) : cV τ a = cV σ a := by
  have e2 := h1 (a + 2) (by omega) (by omega)
  have e3 := h1 (a + 3) (by omega) (by omega)
  have e4 := h1 (a + 4) (by omega) (by omega)
  have e5 := h1 (a + 5) (by omega) (by omega)
  have e6 := h1 (a + 6) (by omega) (by omega)
  have e7 := h1 (a + 7) (by omega) (by omega)
  have e8 := h1 (a + 8) (by omega) (by omega)
  have e9 := h1 (a + 9) (by omega) (by omega)
  have e10 := h1 (a + 10) (by omega) (by omega)
  have e11 := h1 (a + 11) (by omega) (by omega)
  have e12 := h1 (a + 12) (by omega) (by omega)
  have e13 := h1 (a + 13) (by omega) (by omega)
  have e14 := h1 (a + 14) (by omega) (by omega)
  have e15 := h1 (a + 15) (by omega) (by omega)
  have e16 := h1 (a + 16) (by omega) (by omega)
  have e17 := h1 (a + 17) (by omega) (by omega)
  have e18 := h1 (a + 18) (by omega) (by omega)
  have e19 := h1 (a + 19) (by omega) (by omega)
  unfold cV
  simp only [e2, e3, e4, e5, e6, e7, e8, e9, e10, e11, e12, e13, e14, e15, e16, e17, e18, e19, h2]
theorem mV_of {σ τ : am_S} (h1 : ∀ k, 72 ≤ k → k ≤ 78 → τ.1 k = σ.1 k) (h2 : τ.1 81 = σ.1 81 ∧ τ.1 83 = σ.1 83 ∧ τ.1 84 = σ.1 84) (h3 : τ.1 71 7 = σ.1 71 7 ∧ τ.1 71 5 = σ.1 71 5 ∧ τ.1 71 16 = σ.1 71 16 ∧ τ.1 71 19 = σ.1 71 19) : mV τ = mV σ := by
  have e2 := h1 72 (by omega) (by omega)
  have e3 := h1 73 (by omega) (by omega)
  have e4 := h1 74 (by omega) (by omega)
  have e5 := h1 75 (by omega) (by omega)
  have e6 := h1 76 (by omega) (by omega)
  have e7 := h1 77 (by omega) (by omega)
  have e8 := h1 78 (by omega) (by omega)
  unfold mV
  simp only [e2, e3, e4, e5, e6, e7, e8, h2.1, h2.2.1, h2.2.2, h3.1, h3.2.1, h3.2.2.1, h3.2.2.2]
theorem iV_of {σ τ : am_S} (h1 : τ.1 85 = σ.1 85) : iV τ = iV σ := by
  unfold iV
  simp only [h1]
/-! one number of a view becomes another -/
def vset (V : Nat → Nat → Int32) (i j : Nat) (x : Int32) : Nat → Nat → Int32 := fun i' j' => if i' = i then (if j' = j then x else V i' j') else V i' j'
theorem upd_at {f : Nat → Int32} {k j : Nat} {x : Int32} : upd f k x j = if j = k then x else f j := id rfl
theorem cV_r0 {σ : am_S} {a j : Nat} {x : Int32} (hj : j < 16) : cV (am_wr σ (a + 2) (upd (σ.1 (a + 2)) j x)) a = vset (cV σ a) 0 j x := by
  funext i' j'
  unfold vset cV
  by_cases h9 : i' = 0
  · subst h9
    simp [am_wr_at, upd_at] <;> (by_cases h : j' = j <;> simp_all)
  · simp [am_wr_at, upd_at, h9]
    split <;> first | rfl | simp_all
theorem cV_r1 {σ : am_S} {a j : Nat} {x : Int32} (hj : j < 16) : cV (am_wr σ (a + 3) (upd (σ.1 (a + 3)) j x)) a = vset (cV σ a) 1 j x := by
  funext i' j'
  unfold vset cV
  by_cases h9 : i' = 1
  · subst h9
    simp [am_wr_at, upd_at] <;> (by_cases h : j' = j <;> simp_all)
  · simp [am_wr_at, upd_at, h9]
    split <;> first | rfl | simp_all
theorem cV_r2 {σ : am_S} {a j : Nat} {x : Int32} (hj : j < 16) : cV (am_wr σ (a + 4) (upd (σ.1 (a + 4)) j x)) a = vset (cV σ a) 2 j x := by
  funext i' j'
  unfold vset cV
  by_cases h9 : i' = 2
  · subst h9
    simp [am_wr_at, upd_at] <;> (by_cases h : j' = j <;> simp_all)
  · simp [am_wr_at, upd_at, h9]
    split <;> first | rfl | simp_all
theorem cV_r3 {σ : am_S} {a j : Nat} {x : Int32} (hj : j < 16) : cV (am_wr σ (a + 5) (upd (σ.1 (a + 5)) j x)) a = vset (cV σ a) 3 j x := by
  funext i' j'
  unfold vset cV
  by_cases h9 : i' = 3
  · subst h9
    simp [am_wr_at, upd_at] <;> (by_cases h : j' = j <;> simp_all)
  · simp [am_wr_at, upd_at, h9]
    split <;> first | rfl | simp_all
theorem cV_r4 {σ : am_S} {a j : Nat} {x : Int32} (hj : j < 16) : cV (am_wr σ (a + 6) (upd (σ.1 (a + 6)) j x)) a = vset (cV σ a) 4 j x := by
  funext i' j'
  unfold vset cV
  by_cases h9 : i' = 4
  · subst h9
    simp [am_wr_at, upd_at] <;> (by_cases h : j' = j <;> simp_all)
  · simp [am_wr_at, upd_at, h9]
    split <;> first | rfl | simp_all
theorem mV_row {σ : am_S} {j : Nat} {x : Int32} (hj : j < 16) (i : Nat) (hi : i < 5) : mV (am_wr σ (72 + i) (upd (σ.1 (72 + i)) j x)) = vset (mV σ) i j (if i = 2 ∨ i = 3 then x + 1 else x) := by
  funext i' j'
  rcases (show i = 0 ∨ i = 1 ∨ i = 2 ∨ i = 3 ∨ i = 4 by omega) with rfl | rfl | rfl | rfl | rfl
  · unfold vset mV
    by_cases h9 : i' = 0
    · subst h9
      simp [am_wr_at, upd_at] <;> (by_cases h : j' = j <;> simp_all)
    · simp [am_wr_at, upd_at, h9]
      split <;> first | rfl | simp_all
  · unfold vset mV
    by_cases h9 : i' = 1
    · subst h9
      simp [am_wr_at, upd_at] <;> (by_cases h : j' = j <;> simp_all)
    · simp [am_wr_at, upd_at, h9]
      split <;> first | rfl | simp_all
  · unfold vset mV
    by_cases h9 : i' = 2
    · subst h9
      simp [am_wr_at, upd_at] <;> (by_cases h : j' = j <;> simp_all)
    · simp [am_wr_at, upd_at, h9]
      split <;> first | rfl | simp_all
  · unfold vset mV
    by_cases h9 : i' = 3
    · subst h9
      simp [am_wr_at, upd_at] <;> (by_cases h : j' = j <;> simp_all)
    · simp [am_wr_at, upd_at, h9]
      split <;> first | rfl | simp_all
  · unfold vset mV
    by_cases h9 : i' = 4
    · subst h9
      simp [am_wr_at, upd_at] <;> (by_cases h : j' = j <;> simp_all)
    · simp [am_wr_at, upd_at, h9]
      split <;> first | rfl | simp_all
theorem cV_col {σ : am_S} {a : Nat} {x : Int32} : cV (am_wr σ a (upd (σ.1 a) 5 x)) a = vset (cV σ a) 9 1 x := by
  funext i' j'
  unfold vset cV
  by_cases h9 : i' = 9
  · subst h9
    match j' with
    | 0 => simp [am_wr_at]
    | 1 => simp [am_wr_at, upd_at]
    | 2 => simp [am_wr_at]
    | 3 => simp [am_wr_at]
    | j' + 4 => simp
  · simp [am_wr_at, h9]
    split <;> first | rfl | simp_all
theorem mV_col {σ : am_S} {x : Int32} : mV (am_wr σ 71 (upd (σ.1 71) 5 x)) = vset (mV σ) 9 1 x := by
  funext i' j'
  unfold vset mV
  by_cases h9 : i' = 9
  · subst h9
    match j' with
    | 0 => simp [am_wr_at, upd_at]
    | 1 => simp [am_wr_at, upd_at]
    | 2 => simp [am_wr_at, upd_at]
    | 3 => simp [am_wr_at, upd_at]
    | j' + 4 => simp
  · simp [am_wr_at, upd_at, h9]
    split <;> first | rfl | simp_all
theorem cV_law {σ : am_S} {a j : Nat} {x : Int32} (hj : j < 5) : cV (am_wr σ (a + 19) (upd (σ.1 (a + 19)) j x)) a = vset (cV σ a) 5 j x := by
  funext i' j'
  unfold vset cV
  by_cases h9 : i' = 5
  · subst h9
    simp [am_wr_at, upd_at] <;> (by_cases h : j' = j <;> simp_all)
  · simp [am_wr_at, upd_at, h9]
    split <;> first | rfl | simp_all
theorem mV_law {σ : am_S} {j : Nat} {x : Int32} (hj : j < 5) : mV (am_wr σ 77 (upd (σ.1 77) j x)) = vset (mV σ) 5 j x := by
  funext i' j'
  unfold vset mV
  by_cases h9 : i' = 5
  · subst h9
    simp [am_wr_at, upd_at] <;> (by_cases h : j' = j <;> simp_all)
  · simp [am_wr_at, upd_at, h9]
    split <;> first | rfl | simp_all
