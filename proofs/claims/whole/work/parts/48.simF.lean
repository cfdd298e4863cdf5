/-! SIMULATIONS: clear, point, cover -/
/-- the points' rows get one more -/
def vpt (V : Nat → Nat → Int32) (n : Nat) (x y : Int32) : Nat → Nat → Int32 := fun i j => if i = 9 ∧ j = 3 then nI (n + 1) else if i = 14 ∧ j = n then x else if i = 15 ∧ j = n then y else V i j
theorem cV_pt {σ τ : am_S} {a n : Nat} {x y : Int32} (hn : σ.1 (a + 16) 2 = nI n) (hl : n < 24) (h1 : ∀ k, (k = a + 16 ∨ k = a + 17 ∨ k = a + 18) ∨ τ.1 k = σ.1 k) (h2 : τ.1 (a + 16) 2 = nI (n + 1)) (h3 : τ.1 (a + 17) = upd (σ.1 (a + 17)) n x) (h4 : τ.1 (a + 18) = upd (σ.1 (a + 18)) n y) : cV τ a = vpt (cV σ a) n x y := by
  have f : ∀ k, k ≠ 16 → k ≠ 17 → k ≠ 18 → τ.1 (a + k) = σ.1 (a + k) := by
    intro k q1 q2 q3
    rcases h1 (a + k) with q | q
    · omega
    · exact q
  have f0 : τ.1 a = σ.1 a := by
    rcases h1 a with q | q
    · omega
    · exact q
  have c1 : (nI n).toNatClampNeg = n := nI_clamp (by omega)
  have c2 : (nI (n + 1)).toNatClampNeg = n + 1 := nI_clamp (by omega)
  funext i j
  unfold vpt cV
  simp only [f 2 (by decide) (by decide) (by decide), f 3 (by decide) (by decide) (by decide), f 4 (by decide) (by decide) (by decide), f 5 (by decide) (by decide) (by decide), f 6 (by decide) (by decide) (by decide), f 7 (by decide) (by decide) (by decide), f 8 (by decide) (by decide) (by decide), f 9 (by decide) (by decide) (by decide), f 10 (by decide) (by decide) (by decide), f 11 (by decide) (by decide) (by decide), f 12 (by decide) (by decide) (by decide), f 13 (by decide) (by decide) (by decide), f 14 (by decide) (by decide) (by decide), f 15 (by decide) (by decide) (by decide), f 19 (by decide) (by decide) (by decide), f0, h2, h3, h4, hn, c1, c2]
  by_cases e9 : i = 9
  · subst e9
    by_cases e3 : j = 3
    · subst e3; simp
    · simp [e3]
  · by_cases e14 : i = 14
    · subst e14
      simp only [upd_at]
      by_cases ej : j = n
      · subst ej; simp
      · simp [ej]
        by_cases q : j < n
        · simp [q, show j < n + 1 by omega]
        · simp [q, show ¬ j < n + 1 by omega]
    · by_cases e15 : i = 15
      · subst e15
        simp only [upd_at]
        by_cases ej : j = n
        · subst ej; simp
        · simp [ej]
          by_cases q : j < n
          · simp [q, show j < n + 1 by omega]
          · simp [q, show ¬ j < n + 1 by omega]
      · simp [e9, e14, e15]
        split <;> first | rfl | simp_all
theorem mV_pt {σ τ : am_S} {n : Nat} {x y : Int32} (hn : σ.1 71 19 = nI n) (hl : n < 24) (h1 : ∀ k, (k = 71 ∨ k = 83 ∨ k = 84) ∨ τ.1 k = σ.1 k) (h0 : τ.1 71 5 = σ.1 71 5 ∧ τ.1 71 7 = σ.1 71 7 ∧ τ.1 71 16 = σ.1 71 16) (h2 : τ.1 71 19 = nI (n + 1)) (h3 : τ.1 83 = upd (σ.1 83) n x) (h4 : τ.1 84 = upd (σ.1 84) n y) : mV τ = vpt (mV σ) n x y := by
  have f : ∀ k, k ≠ 71 → k ≠ 83 → k ≠ 84 → τ.1 k = σ.1 k := by
    intro k q1 q2 q3
    rcases h1 k with q | q
    · omega
    · exact q
  have c1 : (nI n).toNatClampNeg = n := nI_clamp (by omega)
  have c2 : (nI (n + 1)).toNatClampNeg = n + 1 := nI_clamp (by omega)
  funext i j
  unfold vpt mV
  simp only [f 72 (by decide) (by decide) (by decide), f 73 (by decide) (by decide) (by decide), f 74 (by decide) (by decide) (by decide), f 75 (by decide) (by decide) (by decide), f 76 (by decide) (by decide) (by decide), f 77 (by decide) (by decide) (by decide), f 78 (by decide) (by decide) (by decide), f 81 (by decide) (by decide) (by decide), h0.1, h0.2.1, h0.2.2, h2, h3, h4, hn, c1, c2]
  by_cases e9 : i = 9
  · subst e9
    by_cases e3 : j = 3
    · subst e3; simp
    · simp [e3]
  · by_cases e14 : i = 14
    · subst e14
      simp only [upd_at]
      by_cases ej : j = n
      · subst ej; simp
      · simp [ej]
        by_cases q : j < n
        · simp [q, show j < n + 1 by omega]
        · simp [q, show ¬ j < n + 1 by omega]
    · by_cases e15 : i = 15
      · subst e15
        simp only [upd_at]
        by_cases ej : j = n
        · subst ej; simp
        · simp [ej]
          by_cases q : j < n
          · simp [q, show j < n + 1 by omega]
          · simp [q, show ¬ j < n + 1 by omega]
      · simp [e9, e14, e15]
        split <;> first | rfl | simp_all
theorem okV_pt {V : Nat → Nat → Int32} {n : Nat} {x y : Int32} (h : okV V) (hn : V 9 3 = nI n) (hl : n < 24) (hx : rg x 0 15) (hy : rg y 0 3) : okV (vpt V n x y) := by
  obtain ⟨o1, o2, o3, o4, o5, o6, o7, o8, o9⟩ := h
  refine ⟨o1, o2, o3, o4, o5, ?_, o7, o8, fun j hj => ?_⟩
  · show rg (nI (n + 1)) 0 24
    rw [rg, nI_toInt (by omega)]
    omega
  · have hj2 : j < n + 1 := by
      have : (vpt V n x y 9 3) = nI (n + 1) := by simp [vpt]
      rw [this, nI_clamp (by omega)] at hj
      exact hj
    by_cases e : j = n
    · subst e
      simp only [vpt]
      simp
      exact ⟨hx, hy⟩
    · have q := o9 j (by rw [hn, nI_clamp (by omega)]; omega)
      simp only [vpt]
      simp [e]
      exact q
