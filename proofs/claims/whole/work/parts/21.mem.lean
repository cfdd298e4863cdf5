/-! THE PICTURE BEHIND THE CONSTRUCTORS: its shape stays, its numbers are a memory -/
abbrev am_S : Type := (Nat → Nat → Int32) × (Nat → Int64)
/-- an array of n; an object of a class, its slots: 0 an int, 1 a long, t + 2 the cell t -/
def am_sh : List (Nat ⊕ (Nat × List Nat)) := [.inr (8, [3, 24, 0, 45, 67, 69]), .inr (5, [4, 10, 14, 19, 22, 0, 23, 0, 0]), .inr (3, [5, 6, 7, 8, 9]), .inl 16, .inl 16, .inl 16, .inl 16, .inl 16, .inr (1, [11, 12, 13, 0]), .inl 12, .inl 12, .inl 12, .inr (0, [15, 16, 17, 18, 0]), .inl 8, .inl 8, .inl 8, .inl 8, .inr (2, [20, 21, 0]), .inl 24, .inl 24, .inl 5, .inl 4, .inr (5, [25, 31, 35, 40, 43, 0, 44, 0, 0]), .inr (3, [26, 27, 28, 29, 30]), .inl 16, .inl 16, .inl 16, .inl 16, .inl 16, .inr (1, [32, 33, 34, 0]), .inl 12, .inl 12, .inl 12, .inr (0, [36, 37, 38, 39, 0]), .inl 8, .inl 8, .inl 8, .inl 8, .inr (2, [41, 42, 0]), .inl 24, .inl 24, .inl 5, .inl 4, .inr (7, [46]), .inr (5, [47, 53, 57, 62, 65, 0, 66, 0, 0]), .inr (3, [48, 49, 50, 51, 52]), .inl 16, .inl 16, .inl 16, .inl 16, .inl 16, .inr (1, [54, 55, 56, 0]), .inl 12, .inl 12, .inl 12, .inr (0, [58, 59, 60, 61, 0]), .inl 8, .inl 8, .inl 8, .inl 8, .inr (2, [63, 64, 0]), .inl 24, .inl 24, .inl 5, .inl 4, .inr (6, [68, 0, 0, 0]), .inl 100, .inr (4, [70, 71, 72]), .inl 4, .inl 4, .inl 64, .inr (9, [74, 75, 76, 77, 78, 0, 79, 0, 80, 81, 0, 0, 0, 82, 1, 1, 0, 83, 84, 0, 85, 86, 87, 0, 88, 89, 90, 91]), .inl 16, .inl 16, .inl 16, .inl 16, .inl 16, .inl 5, .inl 24, .inl 100, .inl 48, .inl 32, .inl 64, .inl 24, .inl 24, .inl 200, .inl 4, .inl 4, .inl 64, .inl 16]
/-- the slots of an object of a class by where it stands -/
def am_ly (ci a : Nat) : List Nat := match ci with
  | 0 => [a + 3, a + 4, a + 5, a + 6, 0]
  | 1 => [a + 3, a + 4, a + 5, 0]
  | 2 => [a + 3, a + 4, 0]
  | 3 => [a + 3, a + 4, a + 5, a + 6, a + 7]
  | 4 => [a + 3, a + 4, a + 5]
  | 5 => [a + 3, a + 9, a + 13, a + 18, a + 21, 0, a + 22, 0, 0]
  | 6 => [a + 3, 0, 0, 0]
  | 7 => [a + 3]
  | 8 => [a + 3, a + 24, 0, a + 45, a + 67, a + 69]
  | 9 => [a + 3, a + 4, a + 5, a + 6, a + 7, 0, a + 8, 0, a + 9, a + 10, 0, 0, 0, a + 11, 1, 1, 0, a + 12, a + 13, 0, a + 14, a + 15, a + 16, 0, a + 17, a + 18, a + 19, a + 20]
  | _ => []
def am_slot (σ : am_S) (k j : Nat) : Nat → Value
  | 0 => .int (σ.1 k j)
  | 1 => .long (σ.2 j)
  | t + 2 => .ref t
def am_cell (σ : am_S) (k : Nat) : Nat ⊕ (Nat × List Nat) → am_E
  | .inl n => .inl (n, σ.1 k)
  | .inr q => .inr (q.1, q.2.mapIdx (fun j t => am_slot σ k j t))
def am_toH (σ : am_S) : am_H := am_sh.mapIdx (fun k c => am_cell σ k c)
def am_is (ci a : Nat) : Prop := am_sh[a]? = some (.inr (ci, am_ly ci a))
def am_ln (a : Nat) : Nat := match am_sh[a]? with
  | some (.inl n) => n
  | _ => 0
def am_wr (σ : am_S) (a : Nat) (f : Nat → Int32) : am_S := (fun k => if k = a then f else σ.1 k, σ.2)
def am_wl (σ : am_S) (j : Nat) (x : Int64) : am_S := (σ.1, fun i => if i = j then x else σ.2 i)
/-- where a Stage stands -/
def am_St (r : Nat) : Prop := r = 1 ∨ r = 22 ∨ r = 44
theorem am_toH_get (σ : am_S) (k : Nat) : (am_toH σ)[k]? = (am_sh[k]?).map (am_cell σ k) := by
  simp [am_toH, List.getElem?_mapIdx]
theorem am_toH_len (σ : am_S) : (am_toH σ).length = 90 := by
  simp [am_toH]; rfl
theorem am_toH_obj {σ : am_S} {ci a : Nat} (h : am_is ci a) : (am_toH σ)[a]? = some (.inr (ci, (am_ly ci a).mapIdx (fun j t => am_slot σ a j t))) := by
  rw [am_toH_get, show am_sh[a]? = _ from h]; rfl
theorem am_toH_arr {σ : am_S} {a : Nat} {i : Int32} (h : am_in i (am_ln a) = true) : (am_toH σ)[a]? = some (.inl (am_ln a, σ.1 a)) := by
  unfold am_ln at h ⊢
  rw [am_toH_get]
  cases hs : am_sh[a]? with
  | none =>
    rw [hs] at h
    have := of_decide_eq_true h
    simp at this; omega
  | some q =>
    cases q with
    | inl n => rfl
    | inr q =>
      rw [hs] at h
      have := of_decide_eq_true h
      simp at this; omega
theorem am_in_pos {i : Int32} {n : Nat} (h : am_in i n = true) : 0 < n := by
  have := of_decide_eq_true h
  omega
theorem am_toH_arr0 {σ : am_S} {a : Nat} (h : 0 < am_ln a) : (am_toH σ)[a]? = some (.inl (am_ln a, σ.1 a)) := by
  unfold am_ln at h ⊢
  rw [am_toH_get]
  cases hs : am_sh[a]? with
  | none => rw [hs] at h; simp at h
  | some q =>
    cases q with
    | inl n => rfl
    | inr q => rw [hs] at h; simp at h
theorem am_cell_of {σ τ : am_S} {k : Nat} (q : Nat ⊕ (Nat × List Nat)) (h1 : τ.1 k = σ.1 k) (h2 : τ.2 = σ.2) : am_cell τ k q = am_cell σ k q := by
  have e : (fun j t => am_slot τ k j t) = fun j t => am_slot σ k j t := by
    funext j t
    match t with
    | 0 => show Value.int (τ.1 k j) = Value.int (σ.1 k j); rw [h1]
    | 1 => show Value.long (τ.2 j) = Value.long (σ.2 j); rw [h2]
    | t + 2 => rfl
  cases q with
  | inl n => show Sum.inl (n, τ.1 k) = Sum.inl (n, σ.1 k); rw [h1]
  | inr q =>
    show Sum.inr (q.1, q.2.mapIdx (fun j t => am_slot τ k j t)) = Sum.inr (q.1, q.2.mapIdx (fun j t => am_slot σ k j t))
    rw [e]
theorem am_wr_ne {σ : am_S} {a k : Nat} {f : Nat → Int32} (h : k ≠ a) : (am_wr σ a f).1 k = σ.1 k := if_neg h
theorem am_wr_eq {σ : am_S} {a : Nat} {f : Nat → Int32} : (am_wr σ a f).1 a = f := if_pos rfl
theorem am_toH_wr_arr {σ : am_S} {a : Nat} {f : Nat → Int32} (h : 0 < am_ln a) : (am_toH σ).set a (.inl (am_ln a, f)) = am_toH (am_wr σ a f) := by
  have h0 := am_toH_arr0 (σ := σ) h
  have hl := (List.getElem?_eq_some_iff.mp h0).1
  apply List.ext_getElem?
  intro k
  by_cases hk : a = k
  · subst hk
    rw [List.getElem?_set_self hl, am_toH_arr0 (σ := am_wr σ a f) h, am_wr_eq]
  · rw [List.getElem?_set_ne hk, am_toH_get, am_toH_get]
    cases am_sh[k]? with
    | none => rfl
    | some q => rw [Option.map_some, Option.map_some, am_cell_of q (am_wr_ne (Ne.symm hk)) rfl]
theorem am_toH_wr_obj {σ : am_S} {ci a j : Nat} {x : Int32} (h : am_is ci a) (hj : (am_ly ci a)[j]? = some 0) : (am_toH σ).set a (.inr (ci, ((am_ly ci a).mapIdx (fun j t => am_slot σ a j t)).set j (.int x))) = am_toH (am_wr σ a (upd (σ.1 a) j x)) := by
  have h0 := am_toH_obj (σ := σ) h
  have hl := (List.getElem?_eq_some_iff.mp h0).1
  have hjl := (List.getElem?_eq_some_iff.mp hj).1
  have e : ((am_ly ci a).mapIdx (fun j t => am_slot σ a j t)).set j (.int x) = (am_ly ci a).mapIdx (fun i t => am_slot (am_wr σ a (upd (σ.1 a) j x)) a i t) := by
    apply List.ext_getElem?
    intro i
    by_cases hi : j = i
    · subst hi
      rw [List.getElem?_set_self (by rw [List.length_mapIdx]; exact hjl), List.getElem?_mapIdx, hj, Option.map_some]
      show some (Value.int x) = some (Value.int ((am_wr σ a (upd (σ.1 a) j x)).1 a j))
      rw [am_wr_eq, upd, if_pos rfl]
    · rw [List.getElem?_set_ne hi, List.getElem?_mapIdx, List.getElem?_mapIdx]
      cases (am_ly ci a)[i]? with
      | none => rfl
      | some t =>
        match t with
        | 0 =>
          show some (Value.int (σ.1 a i)) = some (Value.int ((am_wr σ a (upd (σ.1 a) j x)).1 a i))
          rw [am_wr_eq, upd, if_neg (Ne.symm hi)]
        | 1 => rfl
        | t + 2 => rfl
  apply List.ext_getElem?
  intro k
  by_cases hk : a = k
  · subst hk
    rw [List.getElem?_set_self hl, am_toH_obj (σ := am_wr σ a (upd (σ.1 a) j x)) h, e]
  · rw [List.getElem?_set_ne hk, am_toH_get, am_toH_get]
    cases am_sh[k]? with
    | none => rfl
    | some q => rw [Option.map_some, Option.map_some, am_cell_of q (am_wr_ne (Ne.symm hk)) rfl]
theorem am_long (k : Nat) (q : Nat ⊕ (Nat × List Nat)) (h : am_sh[k]? = some q) (hk : k ≠ 71) : match q with
    | .inl _ => True
    | .inr z => 1 ∉ z.2 := by
  have : (am_sh.zipIdx.all (fun z => z.2 == 71 || (match z.1 with
    | .inl _ => true
    | .inr y => !(y.2.contains 1)))) = true := by decide +kernel
  have h1 := List.all_eq_true.mp this (q, k) (by rw [List.mem_zipIdx_iff_getElem?]; exact h)
  cases q with
  | inl _ => trivial
  | inr z => simpa [hk] using h1
theorem am_is9 : am_is 9 71 := by unfold am_is; decide +kernel
theorem am_toH_wl {σ : am_S} {j : Nat} {x : Int64} (hj : (am_ly 9 71)[j]? = some 1) : (am_toH σ).set 71 (.inr (9, ((am_ly 9 71).mapIdx (fun j t => am_slot σ 71 j t)).set j (.long x))) = am_toH (am_wl σ j x) := by
  have h0 := am_toH_obj (σ := σ) am_is9
  have hl := (List.getElem?_eq_some_iff.mp h0).1
  have hjl := (List.getElem?_eq_some_iff.mp hj).1
  have h1 := am_toH_obj (σ := am_wl σ j x) am_is9
  generalize am_ly 9 71 = ly at *
  have e : (ly.mapIdx (fun j t => am_slot σ 71 j t)).set j (.long x) = ly.mapIdx (fun i t => am_slot (am_wl σ j x) 71 i t) := by
    apply List.ext_getElem?
    intro i
    by_cases hi : j = i
    · subst hi
      rw [List.getElem?_set_self (by rw [List.length_mapIdx]; exact hjl), List.getElem?_mapIdx, hj, Option.map_some]
      show some (Value.long x) = some (Value.long (if j = j then x else σ.2 j))
      rw [if_pos rfl]
    · rw [List.getElem?_set_ne hi, List.getElem?_mapIdx, List.getElem?_mapIdx]
      cases ly[i]? with
      | none => rfl
      | some t =>
        match t with
        | 0 => rfl
        | 1 =>
          show some (Value.long (σ.2 i)) = some (Value.long (if i = j then x else σ.2 i))
          rw [if_neg (Ne.symm hi)]
        | t + 2 => rfl
  apply List.ext_getElem?
  intro k
  by_cases hk : 71 = k
  · subst hk
    rw [List.getElem?_set_self hl, h1, e]
  · rw [List.getElem?_set_ne hk, am_toH_get, am_toH_get]
    cases hs : am_sh[k]? with
    | none => rfl
    | some q =>
      have hlg := am_long k q hs (Ne.symm hk)
      cases q with
      | inl n => rfl
      | inr q =>
        have e2 : q.2.mapIdx (fun i t => am_slot σ k i t) = q.2.mapIdx (fun i t => am_slot (am_wl σ j x) k i t) := by
          apply List.ext_getElem?
          intro i
          rw [List.getElem?_mapIdx, List.getElem?_mapIdx]
          cases ht : q.2[i]? with
          | none => rfl
          | some t =>
            match t, ht with
            | 0, _ => rfl
            | 1, ht => exact absurd (List.mem_of_getElem? ht) hlg
            | t + 2, _ => rfl
        rw [Option.map_some, Option.map_some]
        show some (Sum.inr (q.1, _)) = some (Sum.inr (q.1, _))
        rw [e2]
