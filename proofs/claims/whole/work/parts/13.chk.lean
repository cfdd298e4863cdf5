/-! the tables hold -/
def am_mchk (q : am_M × Nat × Nat × Nat × Nat) : Bool := decide (lw_tbl[q.2.2.1]? = some (.initialized q.1.2.1.cls)) && (if q.1.2.2.2.2.2.1 = 1 then decide (lw_tbl[q.2.2.2.1]? = some (.static q.1.2.1)) else decide (lw_tbl[q.2.2.2.1]? = some (.instanceMethod q.1.2.1))) && (if q.1.2.2.2.2.2.1 = 0 then decide (lw_tbl[q.2.2.2.2]? = some (.selects q.1.2.1.cls q.1.2.1 q.1.2.1)) else true) && decide (q.1.2.1.cls = am_own q.1.1) && decide ((parseMethodDescriptor q.1.2.1.desc).map (fun d => d.parameters.length) = some q.1.2.2.2.2.2.2.1) && plainName q.1.2.1.cls && decide (q.1.2.1.cls ≠ "java/lang/invoke/MethodHandle" ∧ q.1.2.1.cls ≠ "java/lang/invoke/VarHandle") && (if q.1.2.2.2.2.2.1 = 2 then decide (q.1.2.1.name = "<init>" ∧ q.1.2.2.2.2.1 = none) else true) && (decide (q.1.2.2.2.2.1 = none) || decide (q.1.2.2.2.2.1 = some .int) || decide (q.1.2.2.2.2.1 = some .boolean)) && decide (q.1.1 < 10)
set_option maxRecDepth 100000 in
theorem am_mchk_ok : (am_ms.zip am_mw).all am_mchk = true := by decide +kernel
set_option maxRecDepth 100000 in
theorem am_cd : (am_ms.take 170).map (fun M => Cond.code M.2.1 M.2.2.1 M.2.2.2.1 M.2.2.2.2.1) = am_mw.filterMap (fun w => lw_tbl[w.1]?) := rfl
theorem am_lens : am_ms.length = 171 ∧ am_mw.length = 170 := by decide +kernel
def am_flc (q : Nat × Nat × Nat × Nat × Nat) : Bool := match vwCl[q.2.2.1]? with
  | some r => decide (q.2.2.2.1 < r.2.2) && decide (lw_tbl[q.2.2.2.2]? = some (.fieldLink (am_own q.1) q.2.1 (r.2.1 q.2.2.2.1).1 (r.2.1 q.2.2.2.1).2.1 (r.2.1 q.2.2.2.1).2.2.1)) && decide ((r.2.1 q.2.2.2.1).1 = r.1)
  | none => false
set_option maxRecDepth 100000 in
theorem am_flc_ok : am_fls.all am_flc = true := by decide +kernel
def am_gsn (t : Nat) : String × String := match t with
  | 0 => ("GREATEST_LAW", "[I")
  | _ => ("LETTER_OF_KIND", "[C")
def am_gsc (q : Nat × Nat × Nat × Nat × Nat) : Bool := decide (q.2.2.1 < 2) && (if q.2.2.2.2 = 0 then decide (lw_tbl[q.2.2.2.1]? = some (.fieldLink (am_own q.1) q.2.1 "CoinNotThere" (am_gsn q.2.2.1).1 (am_gsn q.2.2.1).2)) else decide (lw_tbl[q.2.2.2.1]? = some (.fieldLinkNest (am_own q.1) q.2.1 "CoinNotThere" (am_gsn q.2.2.1).1 (am_gsn q.2.2.1).2 "CoinNotThere")))
set_option maxRecDepth 100000 in
theorem am_gsc_ok : am_gss.all am_gsc = true := by decide +kernel
def am_mlc (q : Nat × Nat × Nat × Nat × Nat) : Bool := match q.2.2.1 with
  | 0 => (match am_ms[q.2.2.2.1]? with
    | some M => decide (q.2.2.2.1 < 170) && decide (lw_tbl[q.2.2.2.2]? = some (.methodLink (am_own q.1) q.2.1 M.2.1))
    | none => false)
  | 1 => (match am_ms[q.2.2.2.1]? with
    | some M => decide (q.2.2.2.1 < 170) && decide (lw_tbl[q.2.2.2.2]? = some (.methodLinkNest (am_own q.1) q.2.1 M.2.1 "CoinNotThere"))
    | none => false)
  | 6 => decide (lw_tbl[q.2.2.2.2]? = some (.methodLink (am_own q.1) q.2.1 objectInit))
  | 7 => decide (lw_tbl[q.2.2.2.2]? = some (.methodLink (am_own q.1) q.2.1 Lib.Math.max.name))
  | 8 => decide (lw_tbl[q.2.2.2.2]? = some (.methodLink (am_own q.1) q.2.1 Lib.Math.min.name))
  | 9 => decide (lw_tbl[q.2.2.2.2]? = some (.methodLink (am_own q.1) q.2.1 arraycopyName))
  | _ => false
set_option maxRecDepth 100000 in
theorem am_mlc_ok : am_mls.all am_mlc = true := by decide +kernel
set_option maxRecDepth 100000 in
theorem am_cic_ok : am_cis.all (fun q => decide (lw_tbl[q.2.2.2]? = some (.constant (am_own q.1) q.2.1 q.2.2.1))) = true := by decide +kernel
set_option maxRecDepth 100000 in
theorem am_clc_ok : am_cls.all (fun q => decide (lw_tbl[q.2.2.2]? = some (.constantLong (am_own q.1) q.2.1 q.2.2.1))) = true := by decide +kernel
def am_cnc (q : Nat × Nat × Nat × Nat × Nat × Nat) : Bool := match vwCl[q.2.2.1]? with
  | some r => decide (lw_tbl[q.2.2.2.1]? = some (.classLink (am_own q.1) q.2.1 r.1)) && decide (lw_tbl[q.2.2.2.2.1]? = some (.instantiable r.1 r.2.2)) && decide (lw_tbl[q.2.2.2.2.2]? = some (.initialized r.1))
  | none => false
set_option maxRecDepth 100000 in
theorem am_cnc_ok : am_cns.all am_cnc = true := by decide +kernel
set_option maxRecDepth 100000 in
theorem am_jdk : lw_tbl[333]? = some (.static Lib.Math.max.name) ∧ lw_tbl[330]? = some (.static Lib.Math.min.name) ∧ lw_tbl[41]? = some (.initialized "java/lang/Math") ∧ lw_tbl[367]? = some (.static arraycopyName) ∧ lw_tbl[368]? = some (.native arraycopyName) ∧ lw_tbl[42]? = some (.initialized "java/lang/System") ∧ lw_tbl[49]? = some (.instanceMethod objectInit) ∧ lw_tbl[98]? = some (.arrayClass .int) := by decide +kernel
set_option maxRecDepth 100000 in
theorem am_jmax : lw_tbl[334]? = some (.code Lib.Math.max.name Lib.Math.max.code 2 (some .int)) := rfl
set_option maxRecDepth 100000 in
theorem am_jmin : lw_tbl[331]? = some (.code Lib.Math.min.name Lib.Math.min.code 2 (some .int)) := rfl
set_option maxRecDepth 100000 in
theorem am_joc : lw_tbl[50]? = some (.code objectInit ⟨#[0xb1]⟩ 1 none) := rfl
/-! the words, out of the tables -/
theorem am_find {α : Type} {l : List α} {p ok : α → Bool} (hall : l.all ok = true) {q : α} (h : l.find? p = some q) : p q = true ∧ ok q = true :=
  ⟨List.find?_some h, List.all_eq_true.mp hall q (List.mem_of_find?_eq_some h)⟩
theorem am_two {oc i a b : Nat} (h : (a == oc && b == i) = true) : a = oc ∧ b = i := by simpa using h
theorem am_fl_ok {oc i ci k : Nat} (h : am_fl oc i = some (ci, k)) : ∃ r : vw_C, vwCl[ci]? = some r ∧ k < r.2.2 ∧ Cond.fieldLink (am_own oc) i (r.2.1 k).1 (r.2.1 k).2.1 (r.2.1 k).2.2.1 ∈ am_TB ∧ (r.2.1 k).1 = r.1 := by
  unfold am_fl at h
  obtain ⟨q, h1, h2⟩ := Option.map_eq_some_iff.mp h
  obtain ⟨h3, h4⟩ := am_find am_flc_ok h1
  obtain ⟨rfl, rfl⟩ := am_two h3
  obtain ⟨rfl, rfl⟩ := Prod.mk.inj h2
  unfold am_flc at h4
  split at h4
  · rename_i r hr
    simp only [Bool.and_eq_true, decide_eq_true_eq] at h4
    exact ⟨r, hr, h4.1.1, am_mem _ h4.1.2 rfl, h4.2⟩
  · cases h4
theorem am_gs_ok {oc i t : Nat} (h : am_gs oc i = some t) : t < 2 ∧ (Cond.fieldLink (am_own oc) i "CoinNotThere" (am_gsn t).1 (am_gsn t).2 ∈ am_TB ∨ Cond.fieldLinkNest (am_own oc) i "CoinNotThere" (am_gsn t).1 (am_gsn t).2 "CoinNotThere" ∈ am_NW) := by
  unfold am_gs at h
  obtain ⟨q, h1, h2⟩ := Option.map_eq_some_iff.mp h
  obtain ⟨h3, h4⟩ := am_find am_gsc_ok h1
  obtain ⟨rfl, rfl⟩ := am_two h3
  subst h2
  unfold am_gsc at h4
  simp only [Bool.and_eq_true, decide_eq_true_eq] at h4
  refine ⟨h4.1, ?_⟩
  have h5 := h4.2
  split at h5
  · exact Or.inl (am_mem _ (of_decide_eq_true h5) rfl)
  · exact Or.inr (am_memN _ (of_decide_eq_true h5) rfl)
theorem am_ml_ok {oc i kd y : Nat} (h : am_ml oc i = some (kd, y)) : (kd = 0 ∧ ∃ M, am_ms[y]? = some M ∧ y < 170 ∧ Cond.methodLink (am_own oc) i M.2.1 ∈ am_TB) ∨ (kd = 1 ∧ ∃ M, am_ms[y]? = some M ∧ y < 170 ∧ Cond.methodLinkNest (am_own oc) i M.2.1 "CoinNotThere" ∈ am_NW) ∨ (kd = 6 ∧ Cond.methodLink (am_own oc) i objectInit ∈ am_TB) ∨ (kd = 7 ∧ Cond.methodLink (am_own oc) i Lib.Math.max.name ∈ am_TB) ∨ (kd = 8 ∧ Cond.methodLink (am_own oc) i Lib.Math.min.name ∈ am_TB) ∨ (kd = 9 ∧ Cond.methodLink (am_own oc) i arraycopyName ∈ am_TB) := by
  unfold am_ml at h
  obtain ⟨q, h1, h2⟩ := Option.map_eq_some_iff.mp h
  obtain ⟨h3, h4⟩ := am_find am_mlc_ok h1
  obtain ⟨rfl, rfl⟩ := am_two h3
  obtain ⟨rfl, rfl⟩ := Prod.mk.inj h2
  unfold am_mlc at h4
  split at h4
  · rename_i hk
    split at h4
    · rename_i M hM
      simp only [Bool.and_eq_true, decide_eq_true_eq] at h4
      exact Or.inl ⟨hk, M, hM, h4.1, am_mem _ h4.2 rfl⟩
    · cases h4
  · rename_i hk
    split at h4
    · rename_i M hM
      simp only [Bool.and_eq_true, decide_eq_true_eq] at h4
      exact Or.inr (Or.inl ⟨hk, M, hM, h4.1, am_memN _ h4.2 rfl⟩)
    · cases h4
  · rename_i hk
    exact Or.inr (Or.inr (Or.inl ⟨hk, am_mem _ (of_decide_eq_true h4) rfl⟩))
  · rename_i hk
    exact Or.inr (Or.inr (Or.inr (Or.inl ⟨hk, am_mem _ (of_decide_eq_true h4) rfl⟩)))
  · rename_i hk
    exact Or.inr (Or.inr (Or.inr (Or.inr (Or.inl ⟨hk, am_mem _ (of_decide_eq_true h4) rfl⟩))))
  · rename_i hk
    exact Or.inr (Or.inr (Or.inr (Or.inr (Or.inr ⟨hk, am_mem _ (of_decide_eq_true h4) rfl⟩))))
  · cases h4
theorem am_ci_ok {oc i : Nat} {v : Int32} (h : am_ci oc i = some v) : Cond.constant (am_own oc) i v ∈ am_TB := by
  unfold am_ci at h
  obtain ⟨q, h1, h2⟩ := Option.map_eq_some_iff.mp h
  obtain ⟨h3, h4⟩ := am_find am_cic_ok h1
  obtain ⟨rfl, rfl⟩ := am_two h3
  subst h2
  exact am_mem _ (of_decide_eq_true h4) rfl
theorem am_cl_ok {oc i : Nat} {v : Int64} (h : am_cl oc i = some v) : Cond.constantLong (am_own oc) i v ∈ am_TB := by
  unfold am_cl at h
  obtain ⟨q, h1, h2⟩ := Option.map_eq_some_iff.mp h
  obtain ⟨h3, h4⟩ := am_find am_clc_ok h1
  obtain ⟨rfl, rfl⟩ := am_two h3
  subst h2
  exact am_mem _ (of_decide_eq_true h4) rfl
theorem am_cn_ok {oc i ci : Nat} (h : am_cn oc i = some ci) : ∃ r : vw_C, vwCl[ci]? = some r ∧ Cond.classLink (am_own oc) i r.1 ∈ am_TB ∧ Cond.instantiable r.1 r.2.2 ∈ am_TB ∧ Cond.initialized r.1 ∈ am_TB := by
  unfold am_cn at h
  obtain ⟨q, h1, h2⟩ := Option.map_eq_some_iff.mp h
  obtain ⟨h3, h4⟩ := am_find am_cnc_ok h1
  obtain ⟨rfl, rfl⟩ := am_two h3
  subst h2
  unfold am_cnc at h4
  split at h4
  · rename_i r hr
    simp only [Bool.and_eq_true, decide_eq_true_eq] at h4
    exact ⟨r, hr, am_mem _ h4.1.1 rfl, am_mem _ h4.1.2 rfl, am_mem _ h4.2 rfl⟩
  · cases h4
theorem am_jdkT : Cond.static Lib.Math.max.name ∈ am_TB ∧ Cond.static Lib.Math.min.name ∈ am_TB ∧ Cond.initialized "java/lang/Math" ∈ am_TB ∧ Cond.static arraycopyName ∈ am_TB ∧ Cond.native arraycopyName ∈ am_TB ∧ Cond.initialized "java/lang/System" ∈ am_TB ∧ Cond.instanceMethod objectInit ∈ am_TB ∧ Cond.arrayClass .int ∈ am_TB ∧ Cond.code Lib.Math.max.name Lib.Math.max.code 2 (some .int) ∈ am_TB ∧ Cond.code Lib.Math.min.name Lib.Math.min.code 2 (some .int) ∈ am_TB ∧ Cond.code objectInit ⟨#[0xb1]⟩ 1 none ∈ am_TB := by
  obtain ⟨h1, h2, h3, h4, h5, h6, h7, h8⟩ := am_jdk
  exact ⟨am_mem _ h1 rfl, am_mem _ h2 rfl, am_mem _ h3 rfl, am_mem _ h4 rfl, am_mem _ h5 rfl, am_mem _ h6 rfl, am_mem _ h7 rfl, am_mem _ h8 rfl, am_mem _ am_jmax rfl, am_mem _ am_jmin rfl, am_mem _ am_joc rfl⟩
/-- a method's own words -/
theorem am_m_ok {mi : Nat} {M : am_M} (h : am_ms[mi]? = some M) (hl : mi < 170) : Cond.code M.2.1 M.2.2.1 M.2.2.2.1 M.2.2.2.2.1 ∈ am_TB ∧ Cond.initialized M.2.1.cls ∈ am_TB ∧ (M.2.2.2.2.2.1 = 1 → Cond.static M.2.1 ∈ am_TB) ∧ (M.2.2.2.2.2.1 ≠ 1 → Cond.instanceMethod M.2.1 ∈ am_TB) ∧ (M.2.2.2.2.2.1 = 0 → Cond.selects M.2.1.cls M.2.1 M.2.1 ∈ am_TB) ∧ M.2.1.cls = am_own M.1 ∧ ((parseMethodDescriptor M.2.1.desc).map (fun d => d.parameters.length) = some M.2.2.2.2.2.2.1) ∧ plainName M.2.1.cls = true ∧ (M.2.1.cls ≠ "java/lang/invoke/MethodHandle" ∧ M.2.1.cls ≠ "java/lang/invoke/VarHandle") ∧ (M.2.2.2.2.2.1 = 2 → M.2.1.name = "<init>" ∧ M.2.2.2.2.1 = none) ∧ (M.2.2.2.2.1 = none ∨ M.2.2.2.2.1 = some .int ∨ M.2.2.2.2.1 = some .boolean) ∧ M.1 < 10 := by
  have hw : mi < am_mw.length := by rw [am_lens.2]; exact hl
  have hz : (am_ms.zip am_mw)[mi]? = some (M, am_mw[mi]) := by
    rw [List.getElem?_zip_eq_some]
    exact ⟨h, List.getElem?_eq_getElem hw⟩
  have h1 := List.all_eq_true.mp am_mchk_ok _ (List.mem_of_getElem? hz)
  have hc : Cond.code M.2.1 M.2.2.1 M.2.2.2.1 M.2.2.2.2.1 ∈ am_TB := by
    have h2 : Cond.code M.2.1 M.2.2.1 M.2.2.2.1 M.2.2.2.2.1 ∈ (am_ms.take 170).map (fun M => Cond.code M.2.1 M.2.2.1 M.2.2.2.1 M.2.2.2.2.1) := by
      refine List.mem_map.mpr ⟨M, List.mem_of_getElem? (i := mi) ?_, rfl⟩
      rw [List.getElem?_take, if_pos hl]
      exact h
    rw [am_cd] at h2
    obtain ⟨w, -, h3⟩ := List.mem_filterMap.mp h2
    exact am_mem _ h3 rfl
  unfold am_mchk at h1
  simp only [Bool.and_eq_true, Bool.or_eq_true, decide_eq_true_eq] at h1
  obtain ⟨⟨⟨⟨⟨⟨⟨⟨⟨h2, h3⟩, h4⟩, h5⟩, h6⟩, h7⟩, h8⟩, h9⟩, h10⟩, h11⟩ := h1
  refine ⟨hc, am_mem _ h2 rfl, fun hk => ?_, fun hk => ?_, fun hk => ?_, h5, h6, h7, h8, fun hk => ?_, ?_, h11⟩
  · rw [if_pos hk] at h3
    exact am_mem _ (of_decide_eq_true h3) rfl
  · rw [if_neg hk] at h3
    exact am_mem _ (of_decide_eq_true h3) rfl
  · rw [if_pos hk] at h4
    exact am_mem _ (of_decide_eq_true h4) rfl
  · rw [if_pos hk] at h9
    exact of_decide_eq_true h9
  · rcases h10 with (h | h) | h
    · exact Or.inl h
    · exact Or.inr (Or.inl h)
    · exact Or.inr (Or.inr h)
/-! the classes' words -/
set_option maxRecDepth 100000 in
theorem am_lay0 : (vwCl.all (fun r => (u_ws r.1 r.2.1 r.2.2).all (fun w => decide (w ∈ lw_tbl) && goodWord w))) = true := by decide +kernel
theorem am_lay {ci : Nat} {r : vw_C} (h : vwCl[ci]? = some r) : ∀ w ∈ u_ws r.1 r.2.1 r.2.2, w ∈ am_TB := by
  intro w hw
  have h1 := List.all_eq_true.mp am_lay0 r (List.mem_of_getElem? h)
  have h2 := List.all_eq_true.mp h1 w hw
  simp only [Bool.and_eq_true, decide_eq_true_eq] at h2
  exact List.mem_filter.mpr h2
theorem am_lt10 {ci : Nat} {r : vw_C} (h : vwCl[ci]? = some r) : ci < 10 := by
  have := (List.getElem?_eq_some_iff.mp h).1
  simpa [vwCl] using this
theorem am_tyk {ci : Nat} {r : vw_C} (h : vwCl[ci]? = some r) : (∀ k, k < r.2.2 → parseFieldDescriptor (r.2.1 k).2.2.1 = some (am_ty ci k)) ∧ (∀ a, a < r.2.2 → ∀ b, b < r.2.2 → a ≠ b → (r.2.1 a).2.1 ≠ (r.2.1 b).2.1) ∧ am_N ci = r.2.2 ∧ ∀ k, am_fin ci k = (r.2.1 k).2.2.2 := by
  have hl := am_lt10 h
  have h3 : am_N ci = r.2.2 ∧ ∀ k, am_fin ci k = (r.2.1 k).2.2.2 := by
    constructor
    · simp only [am_N, h]; rfl
    · intro k; simp only [am_fin, h]; rfl
  match ci, hl, h with
  | 0, _, h => cases h; exact ⟨tyX0_ok, nmX0, h3⟩
  | 1, _, h => cases h; exact ⟨tyX1_ok, nmX1, h3⟩
  | 2, _, h => cases h; exact ⟨tyX2_ok, nmX2, h3⟩
  | 3, _, h => cases h; exact ⟨tyX3_ok, nmX3, h3⟩
  | 4, _, h => cases h; exact ⟨tyX4_ok, nmX4, h3⟩
  | 5, _, h => cases h; exact ⟨tyX5_ok, nmX5, h3⟩
  | 6, _, h => cases h; exact ⟨tyX6_ok, nmX6, h3⟩
  | 7, _, h => cases h; exact ⟨tyX7_ok, nmX7, h3⟩
  | 8, _, h => cases h; exact ⟨tyX8_ok, nmX8, h3⟩
  | 9, _, h => cases h; exact ⟨tyX9_ok, nmX9, h3⟩
