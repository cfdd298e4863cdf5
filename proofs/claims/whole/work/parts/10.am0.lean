/-! THE ABSTRACT MACHINE (mine): pictures of frames and heaps, and a judgement over them whose rows are the kit's rows. An abstract reference k is the cell b + k; .float t stands for a fixed array that nobody writes (sa t). -/
def am_TB : List Cond := lw_tbl.filter goodWord
def am_isN : Cond → Bool
  | .methodLinkNest .. => true
  | .fieldLinkNest .. => true
  | _ => false
def am_NW : List Cond := lw_tbl.filter am_isN
theorem am_mem {w : Cond} (i : Nat) (h : lw_tbl[i]? = some w) (hg : goodWord w = true) : w ∈ am_TB := List.mem_filter.mpr ⟨List.mem_of_getElem? h, hg⟩
theorem am_memN {w : Cond} (i : Nat) (h : lw_tbl[i]? = some w) (hg : am_isN w = true) : w ∈ am_NW := List.mem_filter.mpr ⟨List.mem_of_getElem? h, hg⟩
theorem am_TB_good {w : Cond} (h : w ∈ am_TB) : (w.onTables && w.keeps) = true ∨ ∃ ty, w = .arrayClass ty := good_of_word (List.mem_filter.mp h).2
abbrev am_E : Type := (Nat × (Nat → Int32)) ⊕ (Nat × List Value)
abbrev am_H : Type := List am_E
def am_v (b : Nat) (sa : Nat → Nat) : Value → Value
  | .ref k => .ref (b + k)
  | .float t => .ref (sa t.toNat)
  | .int x => .int x
  | .long x => .long x
  | .double x => .double x
  | .null => .null
  | .retAddr k => .retAddr k
theorem am_v_cat (b : Nat) (sa : Nat → Nat) (v : Value) : (am_v b sa v).category = v.category := by cases v <;> rfl
def am_e (b : Nat) (sa : Nat → Nat) (cI : ClassId) : am_E → va_E
  | .inl (n, f) => .inl (cI, n, .inl f)
  | .inr (ci, fs) => .inr (ci, fs.map (am_v b sa))
def am_ws (b : Nat) (sa : Nat → Nat) (cI : ClassId) (h : am_H) : va_W := h.mapIdx (fun k e => (b + k, am_e b sa cI e))
def am_one : am_E → Nat
  | .inl (n, _) => n
  | .inr (_, fs) => fs.length
def am_sz (h : am_H) : Nat := (h.map am_one).sum
theorem am_ws_len {b : Nat} {sa : Nat → Nat} {cI : ClassId} {h : am_H} : (am_ws b sa cI h).length = h.length := by simp [am_ws]
theorem am_ws_get {b : Nat} {sa : Nat → Nat} {cI : ClassId} {h : am_H} {k : Nat} {e : am_E} (hk : h[k]? = some e) : (am_ws b sa cI h)[k]? = some (b + k, am_e b sa cI e) := by
  simp [am_ws, List.getElem?_mapIdx, hk]
theorem am_ws_inv {b : Nat} {sa : Nat → Nat} {cI : ClassId} {h : am_H} {k : Nat} {q : Nat × va_E} (hk : (am_ws b sa cI h)[k]? = some q) : ∃ e, h[k]? = some e ∧ q = (b + k, am_e b sa cI e) := by
  rw [am_ws, List.getElem?_mapIdx] at hk
  cases hh : h[k]? with
  | none => rw [hh] at hk; cases hk
  | some e => rw [hh] at hk; exact ⟨e, rfl, (Option.some.inj hk).symm⟩
theorem am_ws_set {b : Nat} {sa : Nat → Nat} {cI : ClassId} {h : am_H} {k : Nat} {e : am_E} : (am_ws b sa cI h).set k (b + k, am_e b sa cI e) = am_ws b sa cI (h.set k e) := by
  apply List.ext_getElem?
  intro i
  by_cases hi : k = i
  · subst hi
    by_cases hl : k < h.length
    · rw [List.getElem?_set_self (by rw [am_ws_len]; exact hl), am_ws_get (List.getElem?_set_self hl)]
    · rw [List.getElem?_eq_none (by rw [List.length_set, am_ws_len]; omega), List.getElem?_eq_none (by rw [am_ws_len, List.length_set]; omega)]
  · rw [List.getElem?_set_ne hi]
    simp only [am_ws, List.getElem?_mapIdx]
    rw [List.getElem?_set_ne hi]
theorem am_ws_app {b : Nat} {sa : Nat → Nat} {cI : ClassId} {h : am_H} {e : am_E} : am_ws b sa cI (h ++ [e]) = am_ws b sa cI h ++ [(b + h.length, am_e b sa cI e)] := by
  simp [am_ws, List.mapIdx_append]
theorem am_D {b : Nat} {sa : Nat → Nat} {cI : ClassId} {h : am_H} : va_D (fun q => b ≤ q) (am_ws b sa cI h) := by
  refine ⟨fun i j p q hi hj he => ?_, fun k q hk => ?_⟩
  · obtain ⟨e1, -, rfl⟩ := am_ws_inv hi
    obtain ⟨e2, -, rfl⟩ := am_ws_inv hj
    have : b + i = b + j := he
    omega
  · obtain ⟨e1, -, rfl⟩ := am_ws_inv hk
    exact Nat.le_add_right b k
/-! locals -/
def am_L (nL b : Nat) (sa : Nat → Nat) (cls : Array Slot) (ls : List Value) : Prop := cls.size = nL ∧ lv_wf cls ∧ ls.length ≤ nL ∧ ∀ (i : Nat) (v : Value), ls[i]? = some v → v ≠ .null → cls[i]? = some (.val (am_v b sa v))
def am_ps (b : Nat) (sa : Nat → Nat) (ls : List Value) : List (Nat × Value) := ls.zipIdx.filterMap (fun q => if q.1 = .null then none else some (q.2, am_v b sa q.1))
theorem am_ps_mem {b : Nat} {sa : Nat → Nat} {ls : List Value} {j : Nat} {w : Value} (h : ls[j]? = some w) (hw : w ≠ .null) : (j, am_v b sa w) ∈ am_ps b sa ls := by
  refine List.mem_filterMap.mpr ⟨(w, j), ?_, by simp [hw]⟩
  rw [List.mem_zipIdx_iff_getElem?]
  exact h
theorem am_ps_inv {b : Nat} {sa : Nat → Nat} {ls : List Value} {q : Nat × Value} (h : q ∈ am_ps b sa ls) : ∃ w, ls[q.1]? = some w ∧ w ≠ .null ∧ q.2 = am_v b sa w := by
  obtain ⟨⟨w, j⟩, h1, h2⟩ := List.mem_filterMap.mp h
  rw [List.mem_zipIdx_iff_getElem?] at h1
  by_cases hw : w = .null
  · simp [hw] at h2
  · simp [hw] at h2
    subst h2
    exact ⟨w, h1, hw, rfl⟩
theorem am_L.has {nL b : Nat} {sa : Nat → Nat} {cls : Array Slot} {ls : List Value} (h : am_L nL b sa cls ls) : lv_has cls nL (am_ps b sa ls) := by
  refine ⟨h.1, h.2.1, fun q hq => ?_⟩
  obtain ⟨w, h1, h2, h3⟩ := am_ps_inv hq
  rw [h3]
  exact h.2.2.2 q.1 w h1 h2
def am_c1 (ls : List Value) : Nat → Bool
  | 0 => true
  | j + 1 => (ls.getD j .null).category == 1
theorem am_L.st1 {nL b i : Nat} {sa : Nat → Nat} {cls : Array Slot} {ls : List Value} {v : Value} (hlen : ls.length ≤ nL) (hc : am_c1 ls i = true)
    (h : lv_has cls nL ((i, am_v b sa v) :: (am_ps b sa ls).filter (fun q => !(q.1 == i) && !(q.1 + 1 == i && q.2.category == 2)))) : am_L nL b sa cls (ls.set i v) := by
  refine ⟨h.1, h.2.1, by rw [List.length_set]; exact hlen, fun j w hj hw => ?_⟩
  by_cases hij : i = j
  · subst hij
    have hl : i < ls.length := by
      have := (List.getElem?_eq_some_iff.mp hj).1
      rwa [List.length_set] at this
    rw [List.getElem?_set_self hl] at hj
    cases hj
    exact h.2.2 (i, am_v b sa v) List.mem_cons_self
  · rw [List.getElem?_set_ne hij] at hj
    refine h.2.2 (j, am_v b sa w) (List.mem_cons_of_mem _ (List.mem_filter.mpr ⟨am_ps_mem hj hw, ?_⟩))
    have h1 : (j == i) = false := by simp; omega
    have h2 : ((j + 1 == i) && ((am_v b sa w).category == 2)) = false := by
      by_cases hji : j + 1 = i
      · subst hji
        have h3 : (ls.getD j .null).category = 1 := by simpa [am_c1] using hc
        have h4 : ls.getD j .null = w := by simp [List.getD, hj]
        rw [h4] at h3
        simp [am_v_cat, h3]
      · have : (j + 1 == i) = false := by simp; omega
        simp [this]
    simp [h1, h2]
theorem am_L.st2 {nL b i : Nat} {sa : Nat → Nat} {cls : Array Slot} {ls : List Value} {v : Value} (hlen : ls.length ≤ nL) (hc : am_c1 ls i = true)
    (h : lv_has cls nL ((i, am_v b sa v) :: (am_ps b sa ls).filter (fun q => !(q.1 == i) && (!(q.1 == i + 1) && !(q.1 + 1 == i && q.2.category == 2))))) : am_L nL b sa cls ((ls.set i v).set (i + 1) .null) := by
  refine ⟨h.1, h.2.1, by rw [List.length_set, List.length_set]; exact hlen, fun j w hj hw => ?_⟩
  by_cases hj1 : i + 1 = j
  · subst hj1
    have hl : i + 1 < (ls.set i v).length := by
      have := (List.getElem?_eq_some_iff.mp hj).1
      rwa [List.length_set] at this
    rw [List.getElem?_set_self hl] at hj
    cases hj
    exact absurd rfl hw
  rw [List.getElem?_set_ne hj1] at hj
  by_cases hij : i = j
  · subst hij
    have hl : i < ls.length := by
      have := (List.getElem?_eq_some_iff.mp hj).1
      rwa [List.length_set] at this
    rw [List.getElem?_set_self hl] at hj
    cases hj
    exact h.2.2 (i, am_v b sa v) List.mem_cons_self
  · rw [List.getElem?_set_ne hij] at hj
    refine h.2.2 (j, am_v b sa w) (List.mem_cons_of_mem _ (List.mem_filter.mpr ⟨am_ps_mem hj hw, ?_⟩))
    have h1 : (j == i) = false := by simp; omega
    have h0 : (j == i + 1) = false := by simp; omega
    have h2 : ((j + 1 == i) && ((am_v b sa w).category == 2)) = false := by
      by_cases hji : j + 1 = i
      · subst hji
        have h3 : (ls.getD j .null).category = 1 := by simpa [am_c1] using hc
        have h4 : ls.getD j .null = w := by simp [List.getD, hj]
        rw [h4] at h3
        simp [am_v_cat, h3]
      · have : (j + 1 == i) = false := by simp; omega
        simp [this]
    simp [h1, h0, h2]
/-! a method's first locals -/
def am_sl : List Value → List Value
  | [] => []
  | v :: vs => if v.category = 2 then v :: .null :: am_sl vs else v :: am_sl vs
def am_ini (n : Nat) (as : List Value) : List Value := am_sl as ++ List.replicate (n - (am_sl as).length) .null
theorem am_sl_at {b : Nat} {sa : Nat → Nat} : ∀ (as : List Value) (k i : Nat) (v : Value), (am_sl as)[i]? = some v → v ≠ .null → (k + i, am_v b sa v) ∈ lv_args k (as.map (am_v b sa))
  | [], k, i, v, h, _ => by simp [am_sl] at h
  | a :: as, k, i, v, h, hv => by
    simp only [List.map_cons, lv_args, am_v_cat]
    by_cases hc : a.category = 2
    · simp only [am_sl, hc, if_true] at h ⊢
      match i, h with
      | 0, h => simp at h; subst h; exact List.mem_cons_self
      | 1, h => simp at h; exact absurd h.symm hv
      | i + 2, h =>
        have := am_sl_at (b := b) (sa := sa) as (k + 2) i v (by simpa using h) hv
        rw [show k + (i + 2) = k + 2 + i by omega]
        exact List.mem_cons_of_mem _ this
    · simp only [am_sl, hc, if_false] at h ⊢
      match i, h with
      | 0, h => simp at h; subst h; exact List.mem_cons_self
      | i + 1, h =>
        have := am_sl_at (b := b) (sa := sa) as (k + 1) i v (by simpa using h) hv
        rw [show k + (i + 1) = k + 1 + i by omega]
        exact List.mem_cons_of_mem _ this
theorem am_sl_len {b : Nat} {sa : Nat → Nat} : ∀ as : List Value, (lg_sl (as.map (am_v b sa))).length = (am_sl as).length
  | [] => rfl
  | a :: as => by
    have ih := am_sl_len (b := b) (sa := sa) as
    by_cases hc : a.category = 2
    · simp only [lg_sl, List.map_cons, List.flatMap_cons, am_v_cat, hc, if_true, am_sl] at ih ⊢
      simp only [List.length_append, List.length_cons, List.length_nil]
      omega
    · simp only [lg_sl, List.map_cons, List.flatMap_cons, am_v_cat, hc, if_false, am_sl] at ih ⊢
      simp only [List.length_append, List.length_cons, List.length_nil]
      omega
theorem am_ini_L {n b : Nat} {sa : Nat → Nat} {as : List Value} (hn : (am_sl as).length ≤ n) : am_L n b sa ((lg_sl (as.map (am_v b sa)) ++ List.replicate (n - (lg_sl (as.map (am_v b sa))).length) Slot.unset).toArray) (am_ini n as) := by
  have hl := lv_entry (as.map (am_v b sa)) (n := n) (by rw [am_sl_len]; exact hn)
  refine ⟨hl.1, hl.2.1, by simp [am_ini]; omega, fun i v hi hv => ?_⟩
  have : (am_sl as)[i]? = some v := by
    by_cases hi2 : i < (am_sl as).length
    · rwa [am_ini, List.getElem?_append_left hi2] at hi
    · rw [am_ini, List.getElem?_append_right (by omega)] at hi
      rw [List.getElem?_replicate] at hi
      split at hi
      · cases hi; exact absurd rfl hv
      · cases hi
  have h2 := am_sl_at (b := b) (sa := sa) as 0 i v this hv
  rw [Nat.zero_add] at h2
  exact hl.2.2 _ h2
