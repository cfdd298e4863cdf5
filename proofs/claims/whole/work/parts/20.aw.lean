/-! WHAT A RUN COMES TO: AW, as equations, an instruction a row -/
def AW (sv : am_V) (mi pc : Nat) (ls st : List Value) (h : am_H) (cu su : Nat) (Q : Option Value → am_H → Prop) : Prop := ∃ n u, am_run sv n mi pc ls st h cu su = some u ∧ Q u.1 u.2
def am_mx (mi : Nat) : Nat := ((am_ms[mi]?).map (fun M => M.2.2.2.1)).getD 0
def AM (sv : am_V) (mi : Nat) (as : List Value) (h : am_H) (Q : Option Value → am_H → Prop) : Prop := AW sv mi 0 (am_ini (am_mx mi) as) [] h 0 0 Q
theorem am_run_next {sv : am_V} {n mi pc : Nat} {ls st : List Value} {h : am_H} {cu su : Nat} {M : am_M} {i : Instr} {len : Nat} {z : Nat × List Value × List Value × am_H × Nat × Nat} (hM : am_ms[mi]? = some M) (hd : decode M.2.2.1 pc = .ok (i, len)) (hs : am_step sv M pc i len ls st h cu su = some (.inl z)) : am_run sv (n + 1) mi pc ls st h cu su = am_run sv n mi z.1 z.2.1 z.2.2.1 z.2.2.2.1 z.2.2.2.2.1 z.2.2.2.2.2 := by
  rw [am_run]
  simp only [hM, hd, hs]
theorem am_run_ret {sv : am_V} {n mi pc : Nat} {ls st : List Value} {h : am_H} {cu su : Nat} {M : am_M} {i : Instr} {len : Nat} {v : Option Value} (hM : am_ms[mi]? = some M) (hd : decode M.2.2.1 pc = .ok (i, len)) (hs : am_step sv M pc i len ls st h cu su = some (.inr (.inl v))) (hc : cu = M.2.2.2.2.2.2.2.cells ∧ su = M.2.2.2.2.2.2.2.slots) : am_run sv (n + 1) mi pc ls st h cu su = some (v, h) := by
  rw [am_run]
  simp only [hM, hd, hs]
  rw [if_pos hc]
theorem am_run_call {sv : am_V} {n mi pc : Nat} {ls st : List Value} {h : am_H} {cu su : Nat} {M Y : am_M} {i : Instr} {len : Nat} {z : Nat × List Value × List Value} (hM : am_ms[mi]? = some M) (hd : decode M.2.2.1 pc = .ok (i, len)) (hs : am_step sv M pc i len ls st h cu su = some (.inr (.inr z))) (hY : am_ms[z.1]? = some Y) (hc : z.1 < 170 ∧ (am_sl z.2.1).length ≤ Y.2.2.2.1 ∧ am_rc M Y z.2.2 cu su = true) : am_run sv (n + 1) mi pc ls st h cu su = (match am_run sv n z.1 0 (am_ini Y.2.2.2.1 z.2.1) [] h 0 0 with
    | none => none
    | some u => am_run sv n mi (pc + 3) ls (u.1.toList ++ z.2.2) u.2 (cu + Y.2.2.2.2.2.2.2.cells) (su + Y.2.2.2.2.2.2.2.slots)) := by
  rw [am_run]
  simp only [hM, hd, hs, hY]
  rw [if_pos hc]
  cases am_run sv n z.1 0 (am_ini Y.2.2.2.1 z.2.1) [] h 0 0 <;> rfl
theorem am_mono {sv : am_V} : ∀ (n : Nat) {mi pc : Nat} {ls st : List Value} {h : am_H} {cu su : Nat} {u : Option Value × am_H}, am_run sv n mi pc ls st h cu su = some u → am_run sv (n + 1) mi pc ls st h cu su = some u := by
  intro n
  induction n with
  | zero => intro mi pc ls st h cu su u hr; cases hr
  | succ n ih =>
    intro mi pc ls st h cu su u hr
    obtain ⟨M, q, w, hM, hq, hs, hw⟩ := am_run_inv hr
    rcases hw with ⟨z, rfl, h1⟩ | ⟨v, rfl, h1, h2, rfl⟩ | ⟨z, Y, u1, rfl, hY, hc, h1, h2⟩
    · rw [am_run_next hM hq hs]; exact ih h1
    · exact am_run_ret hM hq hs ⟨h1, h2⟩
    · rw [am_run_call hM hq hs hY hc, ih h1]; exact ih h2
theorem am_mono_le {sv : am_V} {n k mi pc : Nat} {ls st : List Value} {h : am_H} {cu su : Nat} {u : Option Value × am_H} (hr : am_run sv n mi pc ls st h cu su = some u) (hk : n ≤ k) : am_run sv k mi pc ls st h cu su = some u := by
  induction k with
  | zero =>
    have : n = 0 := by omega
    subst this; exact hr
  | succ k ih =>
    by_cases h1 : n ≤ k
    · exact am_mono k (ih h1)
    · have : n = k + 1 := by omega
      subst this; exact hr
section AWE
variable {sv : am_V} {mi pc : Nat} {ls st r : List Value} {h : am_H} {cu su : Nat} {Q : Option Value → am_H → Prop} {M : am_M}
theorem AW_next {i : Instr} {len : Nat} {z : Nat × List Value × List Value × am_H × Nat × Nat} (hM : am_ms[mi]? = some M) (hd : decode M.2.2.1 pc = .ok (i, len)) (hs : am_step sv M pc i len ls st h cu su = some (.inl z)) : AW sv mi pc ls st h cu su Q = AW sv mi z.1 z.2.1 z.2.2.1 z.2.2.2.1 z.2.2.2.2.1 z.2.2.2.2.2 Q := by
  apply propext
  constructor
  · rintro ⟨n, u, h1, h2⟩
    cases n with
    | zero => cases h1
    | succ n => rw [am_run_next hM hd hs] at h1; exact ⟨n, u, h1, h2⟩
  · rintro ⟨n, u, h1, h2⟩
    exact ⟨n + 1, u, by rw [am_run_next hM hd hs]; exact h1, h2⟩
theorem AW_ret {i : Instr} {len : Nat} {v : Option Value} (hM : am_ms[mi]? = some M) (hd : decode M.2.2.1 pc = .ok (i, len)) (hs : am_step sv M pc i len ls st h cu su = some (.inr (.inl v))) (hc : cu = M.2.2.2.2.2.2.2.cells ∧ su = M.2.2.2.2.2.2.2.slots) : AW sv mi pc ls st h cu su Q = Q v h := by
  apply propext
  constructor
  · rintro ⟨n, u, h1, h2⟩
    cases n with
    | zero => cases h1
    | succ n => rw [am_run_ret hM hd hs hc] at h1; cases h1; exact h2
  · intro h2
    exact ⟨1, (v, h), am_run_ret hM hd hs hc, h2⟩
theorem AW_call {i : Instr} {len : Nat} {z : Nat × List Value × List Value} {Y : am_M} (hM : am_ms[mi]? = some M) (hd : decode M.2.2.1 pc = .ok (i, len)) (hs : am_step sv M pc i len ls st h cu su = some (.inr (.inr z))) (hY : am_ms[z.1]? = some Y) (hc : z.1 < 170 ∧ (am_sl z.2.1).length ≤ Y.2.2.2.1 ∧ am_rc M Y z.2.2 cu su = true) : AW sv mi pc ls st h cu su Q = AM sv z.1 z.2.1 h (fun v h1 => AW sv mi (pc + 3) ls (v.toList ++ z.2.2) h1 (cu + Y.2.2.2.2.2.2.2.cells) (su + Y.2.2.2.2.2.2.2.slots) Q) := by
  have hx : am_mx z.1 = Y.2.2.2.1 := by unfold am_mx; rw [hY]; rfl
  unfold AM
  rw [hx]
  apply propext
  constructor
  · rintro ⟨n, u, h1, h2⟩
    cases n with
    | zero => cases h1
    | succ n =>
      rw [am_run_call hM hd hs hY hc] at h1
      split at h1
      · cases h1
      · rename_i u1 hu
        exact ⟨n, u1, hu, n, u, h1, h2⟩
  · rintro ⟨n, u1, h1, k, u, h3, h2⟩
    refine ⟨max n k + 1, u, ?_, h2⟩
    rw [am_run_call hM hd hs hY hc, am_mono_le h1 (Nat.le_max_left n k)]
    exact am_mono_le h3 (Nat.le_max_right n k)
/-- what a method answers is one thing: a contract is an equation -/
theorem AW_fun {v : Option Value} {h' : am_H} (hf : AW sv mi pc ls st h cu su (fun a b => a = v ∧ b = h')) : AW sv mi pc ls st h cu su Q = Q v h' := by
  obtain ⟨n, u, h1, rfl, rfl⟩ := hf
  apply propext
  constructor
  · rintro ⟨k, w, h2, h3⟩
    have e1 := am_mono_le h1 (Nat.le_max_left n k)
    have e2 := am_mono_le h2 (Nat.le_max_right n k)
    cases e1.symm.trans e2
    exact h3
  · intro h2
    exact ⟨n, u, h1, h2⟩
theorem AW_mono {Q' : Option Value → am_H → Prop} (hf : AW sv mi pc ls st h cu su Q') (hq : ∀ v h', Q' v h' → Q v h') : AW sv mi pc ls st h cu su Q := by
  obtain ⟨n, u, h1, h2⟩ := hf
  exact ⟨n, u, h1, hq _ _ h2⟩
theorem AW_nx {i : Instr} {len : Nat} {pc' : Nat} {ls' st' : List Value} {h' : am_H} {cu' su' : Nat} (hM : am_ms[mi]? = some M) (hd : decode M.2.2.1 pc = .ok (i, len)) (hs : am_step sv M pc i len ls st h cu su = some (.inl (pc', ls', st', h', cu', su'))) : AW sv mi pc ls st h cu su Q = AW sv mi pc' ls' st' h' cu' su' Q := AW_next hM hd hs
/-! instructions -/
theorem e_iconst {k : Int} (hM : am_ms[mi]? = some M) (hd : decode M.2.2.1 pc = .ok (.iconst k, 1)) : AW sv mi pc ls st h cu su Q = AW sv mi (pc + 1) ls (.int (Int32.ofInt k) :: st) h cu su Q := AW_nx hM hd rfl
theorem e_bipush {k : Int} (hM : am_ms[mi]? = some M) (hd : decode M.2.2.1 pc = .ok (.bipush k, 2)) : AW sv mi pc ls st h cu su Q = AW sv mi (pc + 2) ls (.int ((Int8.ofInt k).toInt32) :: st) h cu su Q := AW_nx hM hd rfl
theorem e_sipush {k : Int} (hM : am_ms[mi]? = some M) (hd : decode M.2.2.1 pc = .ok (.sipush k, 3)) : AW sv mi pc ls st h cu su Q = AW sv mi (pc + 3) ls (.int ((Int16.ofInt k).toInt32) :: st) h cu su Q := AW_nx hM hd rfl
theorem e_lconst {k : Fin 2} (hM : am_ms[mi]? = some M) (hd : decode M.2.2.1 pc = .ok (.lconst k, 1)) : AW sv mi pc ls st h cu su Q = AW sv mi (pc + 1) ls (.long (Int64.ofNat (k : Nat)) :: st) h cu su Q := AW_nx hM hd rfl
theorem e_ldc {k : Nat} {v : Int32} (hM : am_ms[mi]? = some M) (hd : decode M.2.2.1 pc = .ok (.ldc k, 2)) (hc : am_ci M.1 k = some v) : AW sv mi pc ls st h cu su Q = AW sv mi (pc + 2) ls (.int v :: st) h cu su Q := AW_nx hM hd (by simp [am_step, am_br, am_rt, am_len, am_pu, hc])
theorem e_ldc2 {k : Nat} {v : Int64} (hM : am_ms[mi]? = some M) (hd : decode M.2.2.1 pc = .ok (.ldc2_w k, 3)) (hc : am_cl M.1 k = some v) : AW sv mi pc ls st h cu su Q = AW sv mi (pc + 3) ls (.long v :: st) h cu su Q := AW_nx hM hd (by simp [am_step, am_br, am_rt, am_len, am_pu, hc])
theorem e_pu {i : Instr} {q : List Value × List Value} {len : Nat} (hM : am_ms[mi]? = some M) (hd : decode M.2.2.1 pc = .ok (i, len)) (hb : am_br i pc len st = none) (hr : am_rt M.2.2.2.2.1 i len st = none) (hl : len = am_len i) (hp : am_pu M.1 i ls st = some q) : AW sv mi pc ls st h cu su Q = AW sv mi (pc + len) q.1 q.2 h cu su Q := AW_nx hM hd (by
  unfold am_step
  rw [hb, hr]
  simp only
  rw [if_pos hl, hp])
theorem e_hp {i : Instr} {q : List Value × am_H × Nat × Nat} {len : Nat} (hM : am_ms[mi]? = some M) (hd : decode M.2.2.1 pc = .ok (i, len)) (hb : am_br i pc len st = none) (hr : am_rt M.2.2.2.2.1 i len st = none) (hl : len = am_len i) (hp : am_pu M.1 i ls st = none) (hai : am_ai i st = none) (hal : am_al i st = none) (hh : am_hp sv M.1 M.2.2.2.2.2.1 M.2.2.2.2.2.2.2 i st h cu su = some q) : AW sv mi pc ls st h cu su Q = AW sv mi (pc + len) ls q.1 q.2.1 q.2.2.1 q.2.2.2 Q := AW_nx hM hd (by
  unfold am_step
  rw [hb, hr]
  simp only
  rw [if_pos hl, hp, hai, hal, hh])
theorem e_iadd {x y : Int32} (hM : am_ms[mi]? = some M) (hd : decode M.2.2.1 pc = .ok (.iadd, 1)) : AW sv mi pc ls (.int y :: .int x :: r) h cu su Q = AW sv mi (pc + 1) ls (.int (x + y) :: r) h cu su Q := AW_nx hM hd rfl
theorem e_isub {x y : Int32} (hM : am_ms[mi]? = some M) (hd : decode M.2.2.1 pc = .ok (.isub, 1)) : AW sv mi pc ls (.int y :: .int x :: r) h cu su Q = AW sv mi (pc + 1) ls (.int (x - y) :: r) h cu su Q := AW_nx hM hd rfl
theorem e_imul {x y : Int32} (hM : am_ms[mi]? = some M) (hd : decode M.2.2.1 pc = .ok (.imul, 1)) : AW sv mi pc ls (.int y :: .int x :: r) h cu su Q = AW sv mi (pc + 1) ls (.int (x * y) :: r) h cu su Q := AW_nx hM hd rfl
theorem e_idiv {x y : Int32} (hM : am_ms[mi]? = some M) (hd : decode M.2.2.1 pc = .ok (.idiv, 1)) (hy : ¬ y = 0) : AW sv mi pc ls (.int y :: .int x :: r) h cu su Q = AW sv mi (pc + 1) ls (.int (x / y) :: r) h cu su Q := AW_nx hM hd (by simp [am_step, am_br, am_rt, am_len, am_pu, am_ai, hy])
theorem e_irem {x y : Int32} (hM : am_ms[mi]? = some M) (hd : decode M.2.2.1 pc = .ok (.irem, 1)) (hy : ¬ y = 0) : AW sv mi pc ls (.int y :: .int x :: r) h cu su Q = AW sv mi (pc + 1) ls (.int (x - x / y * y) :: r) h cu su Q := AW_nx hM hd (by simp [am_step, am_br, am_rt, am_len, am_pu, am_ai, hy])
theorem e_iand {x y : Int32} (hM : am_ms[mi]? = some M) (hd : decode M.2.2.1 pc = .ok (.iand, 1)) : AW sv mi pc ls (.int y :: .int x :: r) h cu su Q = AW sv mi (pc + 1) ls (.int (x &&& y) :: r) h cu su Q := AW_nx hM hd rfl
theorem e_ior {x y : Int32} (hM : am_ms[mi]? = some M) (hd : decode M.2.2.1 pc = .ok (.ior, 1)) : AW sv mi pc ls (.int y :: .int x :: r) h cu su Q = AW sv mi (pc + 1) ls (.int (x ||| y) :: r) h cu su Q := AW_nx hM hd rfl
theorem e_ixor {x y : Int32} (hM : am_ms[mi]? = some M) (hd : decode M.2.2.1 pc = .ok (.ixor, 1)) : AW sv mi pc ls (.int y :: .int x :: r) h cu su Q = AW sv mi (pc + 1) ls (.int (x ^^^ y) :: r) h cu su Q := AW_nx hM hd rfl
theorem e_ishl {x y : Int32} (hM : am_ms[mi]? = some M) (hd : decode M.2.2.1 pc = .ok (.ishl, 1)) : AW sv mi pc ls (.int y :: .int x :: r) h cu su Q = AW sv mi (pc + 1) ls (.int (x <<< (y &&& 31)) :: r) h cu su Q := AW_nx hM hd rfl
theorem e_ishr {x y : Int32} (hM : am_ms[mi]? = some M) (hd : decode M.2.2.1 pc = .ok (.ishr, 1)) : AW sv mi pc ls (.int y :: .int x :: r) h cu su Q = AW sv mi (pc + 1) ls (.int (x >>> (y &&& 31)) :: r) h cu su Q := AW_nx hM hd rfl
theorem e_ineg {x : Int32} (hM : am_ms[mi]? = some M) (hd : decode M.2.2.1 pc = .ok (.ineg, 1)) : AW sv mi pc ls (.int x :: r) h cu su Q = AW sv mi (pc + 1) ls (.int (-x) :: r) h cu su Q := AW_nx hM hd rfl
theorem e_i2l {x : Int32} (hM : am_ms[mi]? = some M) (hd : decode M.2.2.1 pc = .ok (.i2l, 1)) : AW sv mi pc ls (.int x :: r) h cu su Q = AW sv mi (pc + 1) ls (.long x.toInt64 :: r) h cu su Q := AW_nx hM hd rfl
theorem e_i2b {x : Int32} (hM : am_ms[mi]? = some M) (hd : decode M.2.2.1 pc = .ok (.i2b, 1)) : AW sv mi pc ls (.int x :: r) h cu su Q = AW sv mi (pc + 1) ls (.int x.toInt8.toInt32 :: r) h cu su Q := AW_nx hM hd rfl
theorem e_i2s {x : Int32} (hM : am_ms[mi]? = some M) (hd : decode M.2.2.1 pc = .ok (.i2s, 1)) : AW sv mi pc ls (.int x :: r) h cu su Q = AW sv mi (pc + 1) ls (.int x.toInt16.toInt32 :: r) h cu su Q := AW_nx hM hd rfl
theorem e_ladd {x y : Int64} (hM : am_ms[mi]? = some M) (hd : decode M.2.2.1 pc = .ok (.ladd, 1)) : AW sv mi pc ls (.long y :: .long x :: r) h cu su Q = AW sv mi (pc + 1) ls (.long (x + y) :: r) h cu su Q := AW_nx hM hd rfl
theorem e_lsub {x y : Int64} (hM : am_ms[mi]? = some M) (hd : decode M.2.2.1 pc = .ok (.lsub, 1)) : AW sv mi pc ls (.long y :: .long x :: r) h cu su Q = AW sv mi (pc + 1) ls (.long (x - y) :: r) h cu su Q := AW_nx hM hd rfl
theorem e_lmul {x y : Int64} (hM : am_ms[mi]? = some M) (hd : decode M.2.2.1 pc = .ok (.lmul, 1)) : AW sv mi pc ls (.long y :: .long x :: r) h cu su Q = AW sv mi (pc + 1) ls (.long (x * y) :: r) h cu su Q := AW_nx hM hd rfl
theorem e_ldiv {x y : Int64} (hM : am_ms[mi]? = some M) (hd : decode M.2.2.1 pc = .ok (.ldiv, 1)) (hy : ¬ y = 0) : AW sv mi pc ls (.long y :: .long x :: r) h cu su Q = AW sv mi (pc + 1) ls (.long (x / y) :: r) h cu su Q := AW_nx hM hd (by simp [am_step, am_br, am_rt, am_len, am_pu, am_ai, am_al, hy])
theorem e_lrem {x y : Int64} (hM : am_ms[mi]? = some M) (hd : decode M.2.2.1 pc = .ok (.lrem, 1)) (hy : ¬ y = 0) : AW sv mi pc ls (.long y :: .long x :: r) h cu su Q = AW sv mi (pc + 1) ls (.long (x - x / y * y) :: r) h cu su Q := AW_nx hM hd (by simp [am_step, am_br, am_rt, am_len, am_pu, am_ai, am_al, hy])
theorem e_land {x y : Int64} (hM : am_ms[mi]? = some M) (hd : decode M.2.2.1 pc = .ok (.land, 1)) : AW sv mi pc ls (.long y :: .long x :: r) h cu su Q = AW sv mi (pc + 1) ls (.long (x &&& y) :: r) h cu su Q := AW_nx hM hd rfl
theorem e_lor {x y : Int64} (hM : am_ms[mi]? = some M) (hd : decode M.2.2.1 pc = .ok (.lor, 1)) : AW sv mi pc ls (.long y :: .long x :: r) h cu su Q = AW sv mi (pc + 1) ls (.long (x ||| y) :: r) h cu su Q := AW_nx hM hd rfl
theorem e_lshl {x : Int64} {y : Int32} (hM : am_ms[mi]? = some M) (hd : decode M.2.2.1 pc = .ok (.lshl, 1)) : AW sv mi pc ls (.int y :: .long x :: r) h cu su Q = AW sv mi (pc + 1) ls (.long (x <<< (y.toInt64 &&& 63)) :: r) h cu su Q := AW_nx hM hd rfl
theorem e_lshr {x : Int64} {y : Int32} (hM : am_ms[mi]? = some M) (hd : decode M.2.2.1 pc = .ok (.lshr, 1)) : AW sv mi pc ls (.int y :: .long x :: r) h cu su Q = AW sv mi (pc + 1) ls (.long (x >>> (y.toInt64 &&& 63)) :: r) h cu su Q := AW_nx hM hd rfl
theorem e_lcmp {x y : Int64} (hM : am_ms[mi]? = some M) (hd : decode M.2.2.1 pc = .ok (.lcmp, 1)) : AW sv mi pc ls (.long y :: .long x :: r) h cu su Q = AW sv mi (pc + 1) ls (.int (lg_cmp x y) :: r) h cu su Q := AW_nx hM hd rfl
theorem e_l2i {x : Int64} (hM : am_ms[mi]? = some M) (hd : decode M.2.2.1 pc = .ok (.l2i, 1)) : AW sv mi pc ls (.long x :: r) h cu su Q = AW sv mi (pc + 1) ls (.int x.toInt32 :: r) h cu su Q := AW_nx hM hd rfl
theorem e_dup {v : Value} (hM : am_ms[mi]? = some M) (hd : decode M.2.2.1 pc = .ok (.dup, 1)) (hv : v.category = 1) : AW sv mi pc ls (v :: r) h cu su Q = AW sv mi (pc + 1) ls (v :: v :: r) h cu su Q := AW_nx hM hd (by simp [am_step, am_br, am_rt, am_len, am_pu, am_ai, am_al, hv])
theorem e_pop {v : Value} (hM : am_ms[mi]? = some M) (hd : decode M.2.2.1 pc = .ok (.pop, 1)) (hv : v.category = 1) : AW sv mi pc ls (v :: r) h cu su Q = AW sv mi (pc + 1) ls r h cu su Q := AW_nx hM hd (by simp [am_step, am_br, am_rt, am_len, am_pu, am_ai, am_al, hv])
theorem e_dup2 {v w : Value} (hM : am_ms[mi]? = some M) (hd : decode M.2.2.1 pc = .ok (.dup2, 1)) (hv : v.category = 1) (hw : w.category = 1) : AW sv mi pc ls (v :: w :: r) h cu su Q = AW sv mi (pc + 1) ls (v :: w :: v :: w :: r) h cu su Q := AW_nx hM hd (by simp [am_step, am_br, am_rt, am_len, am_pu, am_ai, am_al, hv, hw])
theorem e_goto {off : Int} {t : Nat} (hM : am_ms[mi]? = some M) (hd : decode M.2.2.1 pc = .ok (.goto off, 3)) (ht : (pc : Int) + off = (t : Int)) : AW sv mi pc ls st h cu su Q = AW sv mi t ls st h cu su Q := AW_nx hM hd (by
  simp [am_step, am_br, am_if, ht])
theorem e_ifz {cd : ClassFile.Cond} {off : Int} {x : Int32} {t : Nat} (hM : am_ms[mi]? = some M) (hd : decode M.2.2.1 pc = .ok (.ifCond cd off, 3)) (ht : (pc : Int) + off = (t : Int)) : AW sv mi pc ls (.int x :: r) h cu su Q = if am_z cd x 0 = true then AW sv mi t ls r h cu su Q else AW sv mi (pc + 3) ls r h cu su Q := by
  rw [AW_nx (pc' := if am_z cd x 0 then t else pc + 3) (ls' := ls) (st' := r) (h' := h) (cu' := cu) (su' := su) hM hd (by simp [am_step, am_br, am_if, ht])]
  split <;> rfl
theorem e_ifc {cd : ClassFile.Cond} {off : Int} {x y : Int32} {t : Nat} (hM : am_ms[mi]? = some M) (hd : decode M.2.2.1 pc = .ok (.if_icmp cd off, 3)) (ht : (pc : Int) + off = (t : Int)) : AW sv mi pc ls (.int y :: .int x :: r) h cu su Q = if am_z cd x y = true then AW sv mi t ls r h cu su Q else AW sv mi (pc + 3) ls r h cu su Q := by
  rw [AW_nx (pc' := if am_z cd x y then t else pc + 3) (ls' := ls) (st' := r) (h' := h) (cu' := cu) (su' := su) hM hd (by simp [am_step, am_br, am_if, ht])]
  split <;> rfl
theorem am_z_eq {x y : Int32} : (am_z .eq x y = true) = (x = y) := by simp [am_z]
theorem am_z_ne {x y : Int32} : (am_z .ne x y = true) = (¬ x = y) := by simp [am_z]
theorem am_z_lt {x y : Int32} : (am_z .lt x y = true) = (x < y) := by simp [am_z]
theorem am_z_ge {x y : Int32} : (am_z .ge x y = true) = (y ≤ x) := by simp [am_z]
theorem am_z_gt {x y : Int32} : (am_z .gt x y = true) = (y < x) := by simp [am_z]
theorem am_z_le {x y : Int32} : (am_z .le x y = true) = (x ≤ y) := by simp [am_z]
theorem e_iret {x : Int32} (hM : am_ms[mi]? = some M) (hd : decode M.2.2.1 pc = .ok (.ireturn, 1)) (hr : M.2.2.2.2.1 = some .int) (hc : cu = M.2.2.2.2.2.2.2.cells ∧ su = M.2.2.2.2.2.2.2.slots) : AW sv mi pc ls [.int x] h cu su Q = Q (some (.int x)) h := AW_ret hM hd (by simp [am_step, am_br, am_rt, hr]) hc
theorem e_zret {x : Int32} (hM : am_ms[mi]? = some M) (hd : decode M.2.2.1 pc = .ok (.ireturn, 1)) (hr : M.2.2.2.2.1 = some .boolean) (hc : cu = M.2.2.2.2.2.2.2.cells ∧ su = M.2.2.2.2.2.2.2.slots) (hx : x = 0 ∨ x = 1) : AW sv mi pc ls [.int x] h cu su Q = Q (some (.int x)) h := AW_ret hM hd (by simp [am_step, am_br, am_rt, hr, hx]) hc
theorem e_vret (hM : am_ms[mi]? = some M) (hd : decode M.2.2.1 pc = .ok (.return_, 1)) (hr : M.2.2.2.2.1 = none) (hc : cu = M.2.2.2.2.2.2.2.cells ∧ su = M.2.2.2.2.2.2.2.slots) : AW sv mi pc ls [] h cu su Q = Q none h := AW_ret hM hd (by simp [am_step, am_br, am_rt, hr]) hc
theorem e_mmax {k y0 : Nat} {x y : Int32} (hM : am_ms[mi]? = some M) (hd : decode M.2.2.1 pc = .ok (.invokestatic k, 3)) (hk : am_ml M.1 k = some (7, y0)) (hrm : 1 ≤ M.2.2.2.2.2.2.2.frames ∧ am_cs r + 13 ≤ M.2.2.2.2.2.2.2.locals ∧ cu ≤ M.2.2.2.2.2.2.2.cells ∧ su ≤ M.2.2.2.2.2.2.2.slots) : AW sv mi pc ls (.int y :: .int x :: r) h cu su Q = AW sv mi (pc + 3) ls (.int (if x < y then y else x) :: r) h cu su Q := e_hp (q := (.int (if x < y then y else x) :: r, h, cu, su)) hM hd rfl rfl rfl rfl rfl rfl (by
  show am_js (am_ml M.1 k) _ _ _ _ _ = _
  rw [hk]
  exact if_pos hrm)
theorem e_mmin {k y0 : Nat} {x y : Int32} (hM : am_ms[mi]? = some M) (hd : decode M.2.2.1 pc = .ok (.invokestatic k, 3)) (hk : am_ml M.1 k = some (8, y0)) (hrm : 1 ≤ M.2.2.2.2.2.2.2.frames ∧ am_cs r + 13 ≤ M.2.2.2.2.2.2.2.locals ∧ cu ≤ M.2.2.2.2.2.2.2.cells ∧ su ≤ M.2.2.2.2.2.2.2.slots) : AW sv mi pc ls (.int y :: .int x :: r) h cu su Q = AW sv mi (pc + 3) ls (.int (if y < x then y else x) :: r) h cu su Q := e_hp (q := (.int (if y < x then y else x) :: r, h, cu, su)) hM hd rfl rfl rfl rfl rfl rfl (by
  show am_js (am_ml M.1 k) _ _ _ _ _ = _
  rw [hk]
  exact if_pos hrm)
end AWE
