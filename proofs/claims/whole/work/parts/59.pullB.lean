/-! PULLS of the class: the whole -/
def puF (f : Nat → Int32) (L N M S lk nm le kd db k : Int32) : Nat → Int32 := pu7 (pu6 (pu5 (pu4 (pu3 (pu2 (on1 f 4) L lk) N nm kd) M) L kd db) kd) S le k
theorem lk_dec : ∀ m, m < 5 → (nI m - 1 < 0 ∨ am_in (nI m - 1) 4 = true) := by decide +kernel
theorem dd_dec : ∀ p, p < 4 → ∀ s, s < 10 → am_in (nI (10 * p + s) / 10) 4 = true := by decide +kernel
theorem lk_ok {x : Int32} (h : rg x 0 4) : x - 1 < 0 ∨ am_in (x - 1) 4 = true := by
  obtain ⟨m, hm, rfl⟩ := rg_nI (n := 4) (by decide) h
  exact lk_dec m (by omega)
theorem dd_ok {x : Int32} (h : deed x) : am_in (x / 10) 4 = true := by
  rcases h with rfl | ⟨p, s, h1, h2, h3, rfl⟩
  · exact dd_dec 0 (by decide) 0 (by decide)
  · exact dd_dec p h1 s (by omega)
section I59
variable {sv : am_V} {σ : am_S} {Q : Option Value → am_H → Prop} {kd db k : Int32} {a b : Nat}
theorem s29 (ha : am_St a) (hb : b < 16) (hok : deed (σ.1 (a + 2) b) ∧ deed (σ.1 (a + 3) b) ∧ rg (σ.1 (a + 4) b) 0 4 ∧ rg (σ.1 (a + 5) b) 0 4) : AM sv 29 [.ref a, .int kd, .int db, .int (nI b), .int k] (am_toH σ) Q = Q none (am_toH (am_wr σ (a + 20) (puF (σ.1 (a + 20)) (σ.1 (a + 4) b) (σ.1 (a + 5) b) (σ.1 (a + 2) b) (σ.1 (a + 3) b) (σ.1 (a + 19) 0) (σ.1 (a + 19) 1) (σ.1 (a + 19) 3) kd db k))) := by
  obtain ⟨o1, o2, o3, o4⟩ := hok
  rw [s29a ha, s29b ha hb rfl (lk_ok o3), s29c ha hb rfl (lk_ok o4), s29d ha hb rfl (dd_ok o1), s29e ha]
  obtain ⟨w8, e⟩ := s29f (sv := sv) (Q := Q) (σ := σ) (kd := kd) (db := db) (k := k) (b := b) (l := σ.1 (a + 4) b - 1) (z := σ.1 (a + 5) b - 1) (x := σ.1 (a + 2) b) (f := pu5 (pu4 (pu3 (pu2 (on1 (σ.1 (a + 20)) 4) (σ.1 (a + 4) b) (σ.1 (a + 19) 0)) (σ.1 (a + 5) b) (σ.1 (a + 19) 1) kd) (σ.1 (a + 2) b)) (σ.1 (a + 4) b) kd db) ha
  rw [e, s29g ha hb rfl (Or.inr (dd_ok o2))]
  rfl
end I59
