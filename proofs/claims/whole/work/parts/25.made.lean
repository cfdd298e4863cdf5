/-- the memory that a picture holds -/
def am_rdi (h : am_H) (k j : Nat) : Int32 := match h[k]? with
  | some (.inl q) => q.2 j
  | some (.inr q) => (match q.2[j]? with
    | some (.int x) => x
    | _ => 0)
  | none => 0
def am_rdl (h : am_H) (j : Nat) : Int64 := match h[(71 : Nat)]? with
  | some (.inr q) => (match q.2[j]? with
    | some (.long x) => x
    | _ => 0)
  | _ => 0
def am_rd (h : am_H) : am_S := (am_rdi h, am_rdl h)
theorem am_rd_ok {h : am_H} (hs : h.map am_shape = am_sh) : h = am_toH (am_rd h) := by
  apply List.ext_getElem?
  intro k
  rw [am_toH_get, ← hs, List.getElem?_map]
  cases hk : h[k]? with
  | none => rfl
  | some c =>
    have hsh : am_sh[k]? = some (am_shape c) := by rw [← hs, List.getElem?_map, hk]; rfl
    simp only [Option.map_some]
    cases c with
    | inl q =>
      obtain ⟨n, f⟩ := q
      have : (am_rd h).1 k = f := by
        funext j
        simp [am_rd, am_rdi, hk]
      show some (Sum.inl (n, f)) = some (Sum.inl (n, (am_rd h).1 k))
      rw [this]
    | inr q =>
      obtain ⟨ci, fs⟩ := q
      have hfs : fs = (fs.map am_code).mapIdx (fun j t => am_slot (am_rd h) k j t) := by
        apply List.ext_getElem?
        intro j
        rw [List.getElem?_mapIdx, List.getElem?_map]
        cases hj : fs[j]? with
        | none => rfl
        | some v =>
          simp only [Option.map_some]
          congr 1
          cases v with
          | int x =>
            show Value.int x = Value.int ((am_rd h).1 k j)
            simp [am_rd, am_rdi, hk, hj]
          | long x =>
            have hk71 : k = 71 := by
              by_cases h71 : k = 71
              · exact h71
              · have := am_long k _ hsh h71
                simp only [am_shape] at this
                exact absurd (List.mem_map.mpr ⟨_, List.mem_of_getElem? hj, rfl⟩) this
            subst hk71
            show Value.long x = Value.long ((am_rd h).2 j)
            simp [am_rd, am_rdl, hk, hj]
          | ref t => rfl
          | _ =>
            exfalso
            have hcode : ∀ q ∈ am_sh, (match q with
              | .inl _ => true
              | .inr z => !(z.2.contains 999)) = true := by decide +kernel
            have h1 := hcode _ (List.mem_of_getElem? hsh)
            simp only [am_shape] at h1
            have h2 : 999 ∈ fs.map am_code := List.mem_map.mpr ⟨_, List.mem_of_getElem? hj, rfl⟩
            have h3 : (fs.map am_code).contains 999 = true := by rw [List.contains_iff_mem]; exact h2
            rw [h3] at h1
            cases h1
      show some (Sum.inr (ci, fs)) = some (Sum.inr (ci, (fs.map am_code).mapIdx (fun j t => am_slot (am_rd h) k j t)))
      rw [← hfs]
theorem am_made : ∃ h1 h2, (∀ (sv : am_V) (Q : Option Value → am_H → Prop), AM sv 60 [.ref 0] [.inr (8, am_def 8)] Q = Q none h1) ∧ h1.length = 71 ∧ (∀ (sv : am_V) (Q : Option Value → am_H → Prop), AM sv 105 [.ref 71] (h1 ++ [.inr (9, am_def 9)]) Q = Q none h2) ∧ h2 = am_toH (am_rd h2) ∧ am_obs h2 = am_tab0 := by
  obtain ⟨u1, e1, e2⟩ := Option.map_eq_some_iff.mp am_c1_ok
  obtain ⟨u2, e3, e4⟩ := Option.map_eq_some_iff.mp am_c2_ok
  obtain ⟨v1, h1⟩ := u1
  obtain ⟨v2, h2⟩ := u2
  simp only [Prod.mk.injEq] at e2 e4
  obtain ⟨rfl, e2⟩ := e2
  obtain ⟨rfl, e4⟩ := e4
  have e6 := am_c2_val
  rw [e3] at e6
  unfold am_c2h at e3
  obtain ⟨w, f1, f2⟩ := Option.bind_eq_some_iff.mp e3
  cases e1.symm.trans f1
  unfold am_c1h at e1
  have x60 : am_mx 60 = 1 := by decide +kernel
  have x105 : am_mx 105 = 2 := by decide +kernel
  refine ⟨h1, h2, fun sv Q => ?_, ?_, fun sv Q => ?_, am_rd_ok e4, Option.some.inj e6⟩
  · unfold AM
    rw [x60]
    exact AW_fun ⟨_, (none, h1), am_run0_ok _ e1, rfl, rfl⟩
  · have := congrArg List.length e2
    rw [List.length_map] at this
    rw [this]
    decide +kernel
  · unfold AM
    rw [x105]
    exact AW_fun ⟨_, (none, h2), am_run0_ok _ f2, rfl, rfl⟩
