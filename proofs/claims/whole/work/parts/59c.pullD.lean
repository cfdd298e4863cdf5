/-! PULLS: both ways are one -/
theorem nj_dec : ∀ m, m < 4 → ∀ j, j < 4 → (nI m = nI j ↔ m = j) := by decide +kernel
theorem nn_dec : ∀ m, m < 4 → ¬ nI m < 0 := by decide +kernel
theorem nz_dec : ∀ j, j < 4 → ¬ nI 0 - 1 = nI j := by decide +kernel
theorem dq_dec : ∀ p, p < 4 → ∀ s, s < 10 → nI (10 * p + s) / 10 = nI p := by decide +kernel
theorem dp_dec : ∀ p, p < 4 → ∀ s, s < 10 → 1 ≤ s → ¬ nI (10 * p + s) ≤ 0 ∧ ¬ nI (10 * p + s) = 0 := by decide +kernel
theorem adF_at {f : Nat → Int32} {x : Int32} {m j : Nat} (hm : m < 4) : adF f (nI m) x j = f j + (if m = j then x else 0) := by
  unfold adF
  rw [nI_clamp (by omega), upd_at]
  by_cases q : j = m
  · subst q
    rw [if_pos rfl, if_pos rfl]
  · rw [if_neg q, if_neg (by omega), Int32.add_zero]
theorem pu2_at {f : Nat → Int32} {L lk : Int32} {j : Nat} (h : rg L 0 4) (hj : j < 4) : pu2 f L lk j = f j + q2F (L - 1) (nI j) lk := by
  obtain ⟨m, hm, rfl⟩ := rg_nI (n := 4) (by decide) h
  unfold pu2 q2F
  rcases m with _ | m
  · rw [if_pos (by decide), if_neg (nz_dec j hj), Int32.add_zero]
  · have e : nI (m + 1) - 1 = nI m := nI_pred m
    rw [e, if_neg (nn_dec m (by omega)), adF_at (by omega)]
    simp only [nj_dec m (by omega) j hj]
theorem pu3_at {f : Nat → Int32} {N nm kd : Int32} {j : Nat} (h : rg N 0 4) (hj : j < 4) : pu3 f N nm kd j = f j + q3F (N - 1) (nI j) nm kd := by
  obtain ⟨m, hm, rfl⟩ := rg_nI (n := 4) (by decide) h
  unfold pu3 q3F
  rcases m with _ | m
  · rw [if_pos (by decide), if_neg (nz_dec j hj), Int32.add_zero]
  · have e : nI (m + 1) - 1 = nI m := nI_pred m
    rw [e, if_neg (nn_dec m (by omega))]
    by_cases q : kd = 2
    · simp only [q, if_true, ite_self, Int32.add_zero]
    · simp only [q, if_false]
      rw [adF_at (by omega)]
      simp only [nj_dec m (by omega) j hj]
theorem pu4_at {f : Nat → Int32} {M : Int32} {j : Nat} (h : deed M) (hj : j < 4) : pu4 f M j = f j + q1F M (nI j) := by
  unfold pu4 q1F
  rcases h with rfl | ⟨p, s, h1, h2, h3, rfl⟩
  · rw [if_pos (by decide), show (0 : Int32) / 10 = nI 0 by decide, adF_at (by decide), show (0 : Int32) - nI 0 * 10 = 0 by decide, ite_self]
  · rw [dq_dec p h1 s (by omega), adF_at h1, if_neg (dp_dec p h1 s (by omega) h2).1]
    simp only [nj_dec p h1 j hj]
theorem pu7_at {f : Nat → Int32} {S le k : Int32} {j : Nat} (h : deed S) (hj : j < 4) : pu7 f S le k j = f j + q5F S (nI j) le k := by
  unfold pu7 q5F
  rcases h with rfl | ⟨p, s, h1, h2, h3, rfl⟩
  · rw [if_pos rfl, if_pos (by decide), Int32.add_zero]
  · rw [dq_dec p h1 s (by omega), if_neg (dp_dec p h1 s (by omega) h2).2, adF_at h1, if_neg (dp_dec p h1 s (by omega) h2).1]
    simp only [nj_dec p h1 j hj]
theorem pu5_at {f : Nat → Int32} {L kd db : Int32} {j : Nat} (hj : j < 4) : pu5 f L kd db j = f j + q4F (L - 1) (nI j) kd db := by
  unfold pu5 q4F
  by_cases q : kd = 1
  · rw [if_pos q, if_pos q]
    rcases (show j = 0 ∨ j = 1 ∨ j = 2 ∨ j = 3 by omega) with rfl | rfl | rfl | rfl
    · rw [if_neg (by decide : ¬ (2 : Int32) ≤ nI 0)]
      rfl
    · rw [if_neg (by decide : ¬ (2 : Int32) ≤ nI 1)]
      rfl
    · rw [if_pos (by decide : (2 : Int32) ≤ nI 2), Int32.add_zero]
      rfl
    · rw [if_pos (by decide : (2 : Int32) ≤ nI 3), Int32.add_zero]
      rfl
  · rw [if_neg q, if_neg q, Int32.add_zero]
theorem pu6_at {f : Nat → Int32} {kd : Int32} {j : Nat} (hj : j < 4) : ∃ i, i < 4 ∧ frF kd (nI j) = nI i ∧ pu6 f kd j = f i := by
  unfold pu6 frF
  by_cases q : kd = 3
  · rw [if_pos q, if_pos q]
    rcases (show j = 0 ∨ j = 1 ∨ j = 2 ∨ j = 3 by omega) with rfl | rfl | rfl | rfl
    · exact ⟨1, by decide, by decide, rfl⟩
    · exact ⟨0, by decide, by decide, rfl⟩
    · exact ⟨2, by decide, by decide, rfl⟩
    · exact ⟨3, by decide, by decide, rfl⟩
  · rw [if_neg q, if_neg q]
    exact ⟨j, hj, rfl, rfl⟩
/-- the class's pulls are the reference's -/
theorem puF_at {f : Nat → Int32} {L N M S lk nm le kd db k : Int32} {j : Nat} (h1 : deed M) (h2 : deed S) (h3 : rg L 0 4) (h4 : rg N 0 4) (hj : j < 4) : puF f L N M S lk nm le kd db k j = pvF M S (L - 1) (N - 1) lk nm le kd db k (nI j) := by
  unfold puF pvF
  rw [pu7_at h2 hj]
  obtain ⟨i, hi, e1, e2⟩ := pu6_at (f := pu5 (pu4 (pu3 (pu2 (on1 f 4) L lk) N nm kd) M) L kd db) (kd := kd) hj
  rw [e2, e1, pu5_at hi, pu4_at h1 hi, pu3_at h4 hi, pu2_at h3 hi, show on1 f 4 i = 1 from if_pos hi]
  ac_rfl
