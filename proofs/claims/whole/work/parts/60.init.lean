/-! THE INVARIANT AT THE START -/
def tabv (k j : Nat) : Int32 := (am_tab0.getD k []).getD j 0
theorem rd_tab {h : am_H} (ho : am_obs h = am_tab0) {k j : Nat} (hj : j < (am_tab0.getD k []).length) : (am_rd h).1 k j = tabv k j := by
  have e : (am_obs h).getD k [] = am_tab0.getD k [] := by rw [ho]
  rw [List.getD_eq_getElem?_getD, am_obs, List.getElem?_map] at e
  show am_rdi h k j = _
  unfold am_rdi tabv
  rw [← e] at hj ⊢
  cases hk : h[k]? with
  | none => rw [hk] at hj; simp at hj
  | some c =>
    rw [hk] at hj
    cases c with
    | inl q =>
      simp only [Option.map_some, Option.getD_some, List.length_map, List.length_range] at hj ⊢
      rw [List.getD_eq_getElem?_getD, List.getElem?_map, List.getElem?_range hj]
      rfl
    | inr q =>
      simp only [Option.map_some, Option.getD_some, List.length_map] at hj ⊢
      rw [List.getD_eq_getElem?_getD, List.getElem?_map]
      obtain ⟨v, hv⟩ : ∃ v, q.2[j]? = some v := ⟨_, List.getElem?_eq_getElem hj⟩
      rw [hv]
      simp only [Option.map_some, Option.getD_some]
      cases v <;> rfl
set_option maxRecDepth 100000 in
theorem tab_len : (am_tab0.getD 3 []).length = 16 ∧ (am_tab0.getD 4 []).length = 16 ∧ (am_tab0.getD 5 []).length = 16 ∧ (am_tab0.getD 6 []).length = 16 ∧ (am_tab0.getD 7 []).length = 16 ∧ (am_tab0.getD 72 []).length = 16 ∧ (am_tab0.getD 73 []).length = 16 ∧ (am_tab0.getD 74 []).length = 16 ∧ (am_tab0.getD 75 []).length = 16 ∧ (am_tab0.getD 76 []).length = 16 ∧ (am_tab0.getD 20 []).length = 5 ∧ (am_tab0.getD 77 []).length = 5 ∧ (am_tab0.getD 71 []).length = 28 ∧ (am_tab0.getD 1 []).length = 9 ∧ (am_tab0.getD 8 []).length = 4 ∧ (am_tab0.getD 12 []).length = 5 ∧ (am_tab0.getD 17 []).length = 3 ∧ (am_tab0.getD 65 []).length = 4 ∧ (am_tab0.getD 0 []).length = 6 ∧ (am_tab0.getD 68 []).length = 4 ∧ (am_tab0.getD 69 []).length = 4 ∧ (am_tab0.getD 86 []).length = 4 ∧ (am_tab0.getD 87 []).length = 4 := by decide +kernel
set_option maxRecDepth 100000 in
theorem tab_val : (∀ j, j < 16 → tabv 3 j = 0 ∧ tabv 4 j = 0 ∧ tabv 5 j = 0 ∧ tabv 6 j = 0 ∧ tabv 7 j = 0 ∧ tabv 72 j = 0 ∧ tabv 73 j = 0 ∧ tabv 74 j = -1 ∧ tabv 75 j = -1 ∧ tabv 76 j = 0) ∧ (∀ j, j < 5 → tabv 20 j = tabv 77 j ∧ 0 ≤ (tabv 77 j).toInt ∧ (tabv 77 j).toInt ≤ 9) ∧ tabv 1 5 = 1 ∧ tabv 71 5 = 1 ∧ tabv 8 3 = 0 ∧ tabv 71 7 = 0 ∧ tabv 12 4 = 0 ∧ tabv 71 16 = 0 ∧ tabv 17 2 = 0 ∧ tabv 71 19 = 0 ∧ tabv 65 1 = 0 ∧ tabv 71 10 = 0 ∧ tabv 0 2 = 0 ∧ tabv 71 23 = 0 ∧ (∀ j, j < 4 → tabv 68 j = -1 ∧ tabv 86 j = -1 ∧ tabv 69 j = 0 ∧ tabv 87 j = 0) := by decide +kernel
theorem Inv_0 (h : am_H) (ho : am_obs h = am_tab0) : Inv (am_rd h) := by
  obtain ⟨l3, l4, l5, l6, l7, l72, l73, l74, l75, l76, l20, l77, l71, l1, l8, l12, l17, l65, l0, l68, l69, l86, l87⟩ := tab_len
  obtain ⟨v1, v2, c1, m1, c2, m2, c3, m3, c4, m4, t1, t2, i1, i2, vs⟩ := tab_val
  have g := fun k j hj => rd_tab (k := k) (j := j) ho hj
  generalize am_rd h = σ at g ⊢
  have r1 : σ.1 1 5 = 1 := by rw [g 1 5 (by rw [l1]; decide), c1]
  have r2 : σ.1 71 5 = 1 := by rw [g 71 5 (by rw [l71]; decide), m1]
  have r3 : σ.1 8 3 = 0 := by rw [g 8 3 (by rw [l8]; decide), c2]
  have r4 : σ.1 71 7 = 0 := by rw [g 71 7 (by rw [l71]; decide), m2]
  have r5 : σ.1 12 4 = 0 := by rw [g 12 4 (by rw [l12]; decide), c3]
  have r6 : σ.1 71 16 = 0 := by rw [g 71 16 (by rw [l71]; decide), m3]
  have r7 : σ.1 17 2 = 0 := by rw [g 17 2 (by rw [l17]; decide), c4]
  have r8 : σ.1 71 19 = 0 := by rw [g 71 19 (by rw [l71]; decide), m4]
  have r9 : σ.1 65 1 = 0 := by rw [g 65 1 (by rw [l65]; decide), t1]
  have r10 : σ.1 71 10 = 0 := by rw [g 71 10 (by rw [l71]; decide), t2]
  have r11 : σ.1 0 2 = 0 := by rw [g 0 2 (by rw [l0]; decide), i1]
  have r12 : σ.1 71 23 = 0 := by rw [g 71 23 (by rw [l71]; decide), i2]
  have rows : ∀ j, j < 16 → σ.1 3 j = 0 ∧ σ.1 4 j = 0 ∧ σ.1 5 j = 0 ∧ σ.1 6 j = 0 ∧ σ.1 7 j = 0 ∧ σ.1 72 j = 0 ∧ σ.1 73 j = 0 ∧ σ.1 74 j + 1 = 0 ∧ σ.1 75 j + 1 = 0 ∧ σ.1 76 j = 0 := by
    intro j hj
    obtain ⟨a1, a2, a3, a4, a5, a6, a7, a8, a9, a10⟩ := v1 j hj
    refine ⟨by rw [g 3 j (by rw [l3]; exact hj), a1], by rw [g 4 j (by rw [l4]; exact hj), a2], by rw [g 5 j (by rw [l5]; exact hj), a3], by rw [g 6 j (by rw [l6]; exact hj), a4], by rw [g 7 j (by rw [l7]; exact hj), a5], by rw [g 72 j (by rw [l72]; exact hj), a6], by rw [g 73 j (by rw [l73]; exact hj), a7], by rw [g 74 j (by rw [l74]; exact hj), a8]; decide, by rw [g 75 j (by rw [l75]; exact hj), a9]; decide, by rw [g 76 j (by rw [l76]; exact hj), a10]⟩
  have laws : ∀ j, j < 5 → σ.1 20 j = σ.1 77 j ∧ rg (σ.1 77 j) 0 9 := by
    intro j hj
    obtain ⟨a1, a2, a3⟩ := v2 j hj
    rw [g 20 j (by rw [l20]; exact hj), g 77 j (by rw [l77]; exact hj)]
    exact ⟨a1, a2, a3⟩
  have hv : cV σ 1 = mV σ := by
    funext i j
    by_cases q : j < 16
    · obtain ⟨a1, a2, a3, a4, a5, a6, a7, a8, a9, a10⟩ := rows j q
      by_cases q5 : j < 5
      · have q6 := (laws j q5).1
        unfold cV mV
        simp only [Nat.reduceAdd, q, q5, if_true, a1, a2, a3, a4, a5, a6, a7, a8, a9, a10, q6, r1, r2, r3, r4, r5, r6, r7, r8, z32, Nat.not_lt_zero, if_false]
      · unfold cV mV
        simp only [Nat.reduceAdd, q, q5, if_true, a1, a2, a3, a4, a5, a6, a7, a8, a9, a10, r1, r2, r3, r4, r5, r6, r7, r8, z32, Nat.not_lt_zero, if_false]
    · have q5 : ¬ j < 5 := by omega
      unfold cV mV
      simp only [Nat.reduceAdd, q, q5, r1, r2, r3, r4, r5, r6, r7, r8, z32, Nat.not_lt_zero, if_false]
  refine ⟨hv, ⟨fun j hj => ?_, fun j hj => ?_, ?_, ?_, ?_, ?_, fun j hj => ?_, fun j hj => ?_, fun j hj => ?_⟩, ⟨by rw [r9, r10], by rw [r9]; exact ⟨by decide, by decide⟩, fun j hj => ?_⟩, fun k hk => ?_, ⟨by rw [r11, r12], Or.inl r11⟩⟩
  · obtain ⟨a1, a2, a3, a4, a5, a6, a7, a8, a9, a10⟩ := rows j hj
    simp only [mV, hj, if_true, a6, a7, a8, a9, a10]
    exact ⟨Or.inl rfl, Or.inl rfl, ⟨by decide, by decide⟩, ⟨by decide, by decide⟩, ⟨by decide, by decide⟩⟩
  · have q := (laws j hj).2
    simp only [mV, hj, if_true]
    refine ⟨q.1, ?_⟩
    have := q.2
    split <;> omega
  · show rg (σ.1 71 7) 0 8
    rw [r4]; exact ⟨by decide, by decide⟩
  · show rg (σ.1 71 5) 0 3
    rw [r2]; exact ⟨by decide, by decide⟩
  · show rg (σ.1 71 16) 0 8
    rw [r6]; exact ⟨by decide, by decide⟩
  · show rg (σ.1 71 19) 0 24
    rw [r8]; exact ⟨by decide, by decide⟩
  · have : j < (σ.1 71 7).toNatClampNeg := hj
    rw [r4, z32] at this; omega
  · have : j < (σ.1 71 16).toNatClampNeg := hj
    rw [r6, z32] at this; omega
  · have : j < (σ.1 71 19).toNatClampNeg := hj
    rw [r8, z32] at this; omega
  · rw [r9, z32] at hj; omega
  · obtain ⟨a1, a2, a3, a4⟩ := vs k hk
    have b1 : σ.1 68 k = -1 := by rw [g 68 k (by rw [l68]; exact hk), a1]
    have b2 : σ.1 86 k = -1 := by rw [g 86 k (by rw [l86]; exact hk), a2]
    have b3 : σ.1 69 k = 0 := by rw [g 69 k (by rw [l69]; exact hk), a3]
    have b4 : σ.1 87 k = 0 := by rw [g 87 k (by rw [l87]; exact hk), a4]
    rw [b1, b2, b3, b4]
    refine ⟨rfl, ⟨by decide, by decide⟩, rfl, ⟨by decide, by decide⟩, fun j hj => ?_⟩
    rw [z32] at hj; omega
