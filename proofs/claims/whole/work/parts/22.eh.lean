theorem am_gf_of {σ : am_S} {ci a j t : Nat} {r : List Value} (ha : am_is ci a) (hs : (am_ly ci a)[j]? = some t) : am_gf (am_toH σ) a ci j r = some (am_slot σ a j t :: r) := by
  have e1 : ((am_ly ci a).mapIdx (fun j t => am_slot σ a j t))[j]? = some (am_slot σ a j t) := by rw [List.getElem?_mapIdx, hs, Option.map_some]
  unfold am_gf
  rw [am_toH_obj ha]
  simp only [if_true]
  rw [e1]
section AWH
variable {sv : am_V} {mi pc : Nat} {ls st r : List Value} {σ : am_S} {cu su : Nat} {Q : Option Value → am_H → Prop} {M : am_M}
theorem e_hq {i : Instr} {st' : List Value} {h h' : am_H} {cu' su' len : Nat} (hM : am_ms[mi]? = some M) (hd : decode M.2.2.1 pc = .ok (i, len)) (hb : am_br i pc len st = none) (hr : am_rt M.2.2.2.2.1 i len st = none) (hl : len = am_len i) (hp : am_pu M.1 i ls st = none) (hai : am_ai i st = none) (hal : am_al i st = none) (hh : am_hp sv M.1 M.2.2.2.2.2.1 M.2.2.2.2.2.2.2 i st h cu su = some (st', h', cu', su')) : AW sv mi pc ls st h cu su Q = AW sv mi (pc + len) ls st' h' cu' su' Q := e_hp hM hd hb hr hl hp hai hal hh
set_option maxHeartbeats 40000 in
theorem e_getI {k ci j a : Nat} (hM : am_ms[mi]? = some M) (hd : decode M.2.2.1 pc = .ok (.getfield k, 3)) (hf : am_fl M.1 k = some (ci, j)) (ha : am_is ci a) (hs : (am_ly ci a)[j]? = some 0) : AW sv mi pc ls (.ref a :: r) (am_toH σ) cu su Q = AW sv mi (pc + 3) ls (.int (σ.1 a j) :: r) (am_toH σ) cu su Q := e_hq hM hd rfl rfl rfl rfl rfl rfl (by
  show (am_fl M.1 k).bind (fun q => (am_gf (am_toH σ) a q.1 q.2 r).map (fun st' => (st', am_toH σ, cu, su))) = _
  rw [hf, Option.bind_some, am_gf_of ha hs]
  rfl)
set_option maxHeartbeats 40000 in
theorem e_getL {k ci j a : Nat} (hM : am_ms[mi]? = some M) (hd : decode M.2.2.1 pc = .ok (.getfield k, 3)) (hf : am_fl M.1 k = some (ci, j)) (ha : am_is ci a) (hs : (am_ly ci a)[j]? = some 1) : AW sv mi pc ls (.ref a :: r) (am_toH σ) cu su Q = AW sv mi (pc + 3) ls (.long (σ.2 j) :: r) (am_toH σ) cu su Q := e_hq hM hd rfl rfl rfl rfl rfl rfl (by
  show (am_fl M.1 k).bind (fun q => (am_gf (am_toH σ) a q.1 q.2 r).map (fun st' => (st', am_toH σ, cu, su))) = _
  rw [hf, Option.bind_some, am_gf_of ha hs]
  rfl)
set_option maxHeartbeats 40000 in
theorem e_getR {k ci j a t : Nat} (hM : am_ms[mi]? = some M) (hd : decode M.2.2.1 pc = .ok (.getfield k, 3)) (hf : am_fl M.1 k = some (ci, j)) (ha : am_is ci a) (hs : (am_ly ci a)[j]? = some (t + 2)) : AW sv mi pc ls (.ref a :: r) (am_toH σ) cu su Q = AW sv mi (pc + 3) ls (.ref t :: r) (am_toH σ) cu su Q := e_hq hM hd rfl rfl rfl rfl rfl rfl (by
  show (am_fl M.1 k).bind (fun q => (am_gf (am_toH σ) a q.1 q.2 r).map (fun st' => (st', am_toH σ, cu, su))) = _
  rw [hf, Option.bind_some, am_gf_of ha hs]
  rfl)
set_option maxHeartbeats 40000 in
theorem e_putI {k ci j a : Nat} {x : Int32} (hM : am_ms[mi]? = some M) (hd : decode M.2.2.1 pc = .ok (.putfield k, 3)) (hf : am_fl M.1 k = some (ci, j)) (ha : am_is ci a) (hs : (am_ly ci a)[j]? = some 0) (hfin : am_fin ci j = false) (hv : am_vz (am_ty ci j) (.int x) = true) : AW sv mi pc ls (.int x :: .ref a :: r) (am_toH σ) cu su Q = AW sv mi (pc + 3) ls r (am_toH (am_wr σ a (upd (σ.1 a) j x))) cu su Q := e_hq hM hd rfl rfl rfl rfl rfl rfl (by
  have hlt := (List.getElem?_eq_some_iff.mp hs).1
  show (am_fl M.1 k).bind (fun q => (am_pf M.1 M.2.2.2.2.2.1 (am_toH σ) _ q.1 q.2 _).map (fun h' => (r, h', cu, su))) = _
  rw [hf, Option.bind_some]
  unfold am_pf
  rw [am_toH_obj ha]
  simp only
  rw [if_pos ⟨trivial, by simpa using hlt, hv, Or.inl hfin⟩, am_toH_wr_obj ha hs]
  rfl)
set_option maxHeartbeats 40000 in
theorem e_putL {k j : Nat} {x : Int64} (hM : am_ms[mi]? = some M) (hd : decode M.2.2.1 pc = .ok (.putfield k, 3)) (hf : am_fl M.1 k = some (9, j)) (hs : (am_ly 9 71)[j]? = some 1) (hfin : am_fin 9 j = false) (hv : am_vz (am_ty 9 j) (.long x) = true) : AW sv mi pc ls (.long x :: .ref 71 :: r) (am_toH σ) cu su Q = AW sv mi (pc + 3) ls r (am_toH (am_wl σ j x)) cu su Q := e_hq hM hd rfl rfl rfl rfl rfl rfl (by
  have hlt := (List.getElem?_eq_some_iff.mp hs).1
  have ha : am_is 9 71 := am_is9
  show (am_fl M.1 k).bind (fun q => (am_pf M.1 M.2.2.2.2.2.1 (am_toH σ) _ q.1 q.2 _).map (fun h' => (r, h', cu, su))) = _
  rw [hf, Option.bind_some]
  unfold am_pf
  rw [am_toH_obj ha]
  simp only
  rw [if_pos ⟨trivial, by simpa using hlt, hv, Or.inl hfin⟩, am_toH_wl hs]
  rfl)
set_option maxHeartbeats 40000 in
theorem e_iald {a : Nat} {i : Int32} (hM : am_ms[mi]? = some M) (hd : decode M.2.2.1 pc = .ok (.iaload, 1)) (hi : am_in i (am_ln a) = true) : AW sv mi pc ls (.int i :: .ref a :: r) (am_toH σ) cu su Q = AW sv mi (pc + 1) ls (.int (σ.1 a i.toNatClampNeg) :: r) (am_toH σ) cu su Q := e_hq hM hd rfl rfl rfl rfl rfl rfl (by
  show (am_ial sv (am_toH σ) (.ref a) i r).map (fun st' => (st', am_toH σ, cu, su)) = _
  unfold am_ial
  simp only
  rw [am_toH_arr hi]
  simp only
  rw [if_pos hi]
  rfl)
set_option maxHeartbeats 40000 in
theorem e_iast {a : Nat} {i x : Int32} (hM : am_ms[mi]? = some M) (hd : decode M.2.2.1 pc = .ok (.iastore, 1)) (hi : am_in i (am_ln a) = true) : AW sv mi pc ls (.int x :: .int i :: .ref a :: r) (am_toH σ) cu su Q = AW sv mi (pc + 1) ls r (am_toH (am_wr σ a (upd (σ.1 a) i.toNatClampNeg x))) cu su Q := e_hq hM hd rfl rfl rfl rfl rfl rfl (by
  show (am_ias (am_toH σ) a i x).map (fun h' => (r, h', cu, su)) = _
  unfold am_ias
  rw [am_toH_arr hi]
  simp only
  rw [if_pos hi, am_toH_wr_arr (am_in_pos hi)]
  rfl)
set_option maxHeartbeats 40000 in
theorem e_alen {a : Nat} (hM : am_ms[mi]? = some M) (hd : decode M.2.2.1 pc = .ok (.arraylength, 1)) (hi : 0 < am_ln a) : AW sv mi pc ls (.ref a :: r) (am_toH σ) cu su Q = AW sv mi (pc + 1) ls (.int (Int32.ofNat (am_ln a)) :: r) (am_toH σ) cu su Q := e_hq hM hd rfl rfl rfl rfl rfl rfl (by
  show (am_aln sv (am_toH σ) (.ref a)).map (fun n => (.int n :: r, am_toH σ, cu, su)) = _
  unfold am_aln
  simp only
  rw [am_toH_arr0 hi]
  rfl)
set_option maxHeartbeats 40000 in
theorem e_cpy {k a0 a1 : Nat} {sp dp n : Int32} (hM : am_ms[mi]? = some M) (hd : decode M.2.2.1 pc = .ok (.invokestatic k, 3)) {y0 : Nat} (hk : am_ml M.1 k = some (9, y0)) (hrm : 1 ≤ M.2.2.2.2.2.2.2.frames ∧ am_cs r + 18 ≤ M.2.2.2.2.2.2.2.locals) (h0 : 0 < am_ln a0) (h1 : 0 < am_ln a1) (hc : (0 ≤ sp.toInt ∧ 0 ≤ dp.toInt ∧ 0 ≤ n.toInt) ∧ sp.toNatClampNeg + n.toNatClampNeg ≤ am_ln a0 ∧ dp.toNatClampNeg + n.toNatClampNeg ≤ am_ln a1) : AW sv mi pc ls (.int n :: .int dp :: .ref a1 :: .int sp :: .ref a0 :: r) (am_toH σ) cu su Q = AW sv mi (pc + 3) ls r (am_toH (am_wr σ a1 (va_cpy (σ.1 a0) (σ.1 a1) sp.toNatClampNeg dp.toNatClampNeg n.toNatClampNeg))) cu su Q := e_hq hM hd rfl rfl rfl rfl rfl rfl (by
  show am_js (am_ml M.1 k) _ _ _ _ _ = _
  rw [hk]
  show (if _ then (am_cpy (am_toH σ) a0 sp a1 dp n).map (fun h' => (r, h', cu, su)) else none) = _
  rw [if_pos hrm]
  unfold am_cpy
  rw [am_toH_arr0 h0, am_toH_arr0 h1]
  simp only
  rw [if_pos hc, am_toH_wr_arr h1]
  rfl)
set_option maxHeartbeats 40000 in
theorem e_cS {k kd y : Nat} {Y : am_M} {as rest : List Value} {h : am_H} (hM : am_ms[mi]? = some M) (hd : decode M.2.2.1 pc = .ok (.invokestatic k, 3)) (hk : am_ml M.1 k = some (kd, y)) (hkd : kd ≤ 1) (hY : am_ms[y]? = some Y) (hs : Y.2.2.2.2.2.1 = 1) (hst : st = as.reverse ++ rest) (hn : as.length = Y.2.2.2.2.2.2.1) (hc : y < 170 ∧ (am_sl as).length ≤ Y.2.2.2.1 ∧ am_rc M Y rest cu su = true) : AW sv mi pc ls st h cu su Q = AM sv y as h (fun v h1 => AW sv mi (pc + 3) ls (v.toList ++ rest) h1 (cu + Y.2.2.2.2.2.2.2.cells) (su + Y.2.2.2.2.2.2.2.slots) Q) := by
  refine AW_call (z := (y, as, rest)) hM hd ?_ hY hc
  have hca : am_ca M.1 (.invokestatic k) st h = some (y, as, rest) := by
    have h1 : (as.reverse ++ rest).take Y.2.2.2.2.2.2.1 = as.reverse := by rw [← hn]; simp
    have h2 : (as.reverse ++ rest).drop Y.2.2.2.2.2.2.1 = rest := by rw [← hn]; simp
    simp only [am_ca, hk, Option.bind_some]
    rw [if_pos hkd, hY]
    simp only [Option.bind_some]
    rw [if_pos ⟨hs, by rw [hst, ← hn]; simp⟩, hst, h1, h2, List.reverse_reverse]
  have hh : am_hp sv M.1 M.2.2.2.2.2.1 M.2.2.2.2.2.2.2 (.invokestatic k) st h cu su = none := by
    show am_js (am_ml M.1 k) _ _ _ _ _ = none
    rw [hk]
    rcases (show kd = 0 ∨ kd = 1 by omega) with rfl | rfl <;> rfl
  unfold am_step
  rw [show am_br (.invokestatic k) pc 3 st = none from rfl, show am_rt M.2.2.2.2.1 (.invokestatic k) 3 st = none from rfl]
  simp only
  rw [if_pos (show 3 = am_len (.invokestatic k) from rfl), show am_pu M.1 (.invokestatic k) ls st = none from rfl, show am_ai (.invokestatic k) st = none from rfl, show am_al (.invokestatic k) st = none from rfl, hh, hca]
  rfl
set_option maxHeartbeats 40000 in
theorem e_cV {k kd y a : Nat} {Y : am_M} {as rest : List Value} (hM : am_ms[mi]? = some M) (hd : decode M.2.2.1 pc = .ok (.invokevirtual k, 3)) (hk : am_ml M.1 k = some (kd, y)) (hkd : kd ≤ 1) (hY : am_ms[y]? = some Y) (hs : Y.2.2.2.2.2.1 = 0) (ha : am_is Y.1 a) (hst : st = as.reverse ++ .ref a :: rest) (hn : as.length = Y.2.2.2.2.2.2.1) (hc : y < 170 ∧ (am_sl (.ref a :: as)).length ≤ Y.2.2.2.1 ∧ am_rc M Y rest cu su = true) : AW sv mi pc ls st (am_toH σ) cu su Q = AM sv y (.ref a :: as) (am_toH σ) (fun v h1 => AW sv mi (pc + 3) ls (v.toList ++ rest) h1 (cu + Y.2.2.2.2.2.2.2.cells) (su + Y.2.2.2.2.2.2.2.slots) Q) := by
  refine AW_call (z := (y, .ref a :: as, rest)) hM hd ?_ hY hc
  have hca : am_ca M.1 (.invokevirtual k) st (am_toH σ) = some (y, .ref a :: as, rest) := by
    have h1 : (as.reverse ++ .ref a :: rest).take Y.2.2.2.2.2.2.1 = as.reverse := by rw [← hn]; simp
    have h2 : (as.reverse ++ .ref a :: rest).drop Y.2.2.2.2.2.2.1 = .ref a :: rest := by rw [← hn]; simp
    simp only [am_ca, hk, Option.bind_some]
    rw [if_pos hkd, hY]
    simp only [Option.bind_some]
    rw [if_pos ⟨hs, by rw [hst, ← hn]; simp⟩, hst, h1, h2, List.reverse_reverse]
    simp only [am_toH_obj ha, if_true]
  unfold am_step
  rw [show am_br (.invokevirtual k) pc 3 st = none from rfl, show am_rt M.2.2.2.2.1 (.invokevirtual k) 3 st = none from rfl]
  simp only
  rw [if_pos (show 3 = am_len (.invokevirtual k) from rfl), show am_pu M.1 (.invokevirtual k) ls st = none from rfl, show am_ai (.invokevirtual k) st = none from rfl, show am_al (.invokevirtual k) st = none from rfl, show am_hp sv M.1 M.2.2.2.2.2.1 M.2.2.2.2.2.2.2 (.invokevirtual k) st (am_toH σ) cu su = none from rfl, hca]
  rfl
end AWH
