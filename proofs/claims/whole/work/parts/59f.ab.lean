/-! what was weighed last is nobody's business -/
section I59f
variable {σ : am_S} {x y : Int32}
theorem Inv_wl {j : Nat} {u : Int64} (hI : Inv σ) : Inv (am_wl σ j u) := hI
theorem Inv_ab (hI : Inv σ) : Inv (am_wr σ 1 (upd (upd (σ.1 1) 8 x) 7 y)) := by
  refine Inv_mk (V := mV σ) hI ⟨?_, ?_, ?_, ?_, ?_, ?_, ?_, ?_, ?_, ?_, ?_, ?_, ?_, fun k q1 q2 => ?_⟩ ?_ ?_ hI.2.1
  iterate 13 (simp only [Option.toList_some, Option.toList_none, List.cons_append, List.nil_append, cat_i, cat_r, cat_n, cat_f, cs_n, cs_i, cs_r, cs_l, cs_f, Nat.reduceAdd, Nat.reduceLeDiff, Nat.zero_le, if_true, if_false, true_or, or_true, am_wr_at, Nat.reduceEqDiff, not_true_eq_false, not_false_eq_true, i_one, ite_not, bI_z, bI_nz, bI_t, bI_f, bI_or, Bool.false_eq_true, Bool.true_eq_false, reduceCtorEq])
  · rw [am_wr_ne (by omega)]
  · rw [← hI.1]
    exact cV_of (fun k q1 q2 => am_wr_ne (by omega)) (by simp only [Option.toList_some, Option.toList_none, List.cons_append, List.nil_append, cat_i, cat_r, cat_n, cat_f, cs_n, cs_i, cs_r, cs_l, cs_f, Nat.reduceAdd, Nat.reduceLeDiff, Nat.zero_le, if_true, if_false, true_or, or_true, am_wr_at, Nat.reduceEqDiff, not_true_eq_false, not_false_eq_true, i_one, ite_not, bI_z, bI_nz, bI_t, bI_f, bI_or, Bool.false_eq_true, Bool.true_eq_false, reduceCtorEq, upd_at])
  · exact mV_of (fun k q1 q2 => am_wr_ne (by omega)) ⟨am_wr_ne (by omega), am_wr_ne (by omega), am_wr_ne (by omega)⟩ ⟨by rw [am_wr_ne (by omega)], by rw [am_wr_ne (by omega)], by rw [am_wr_ne (by omega)], by rw [am_wr_ne (by omega)]⟩
end I59f
