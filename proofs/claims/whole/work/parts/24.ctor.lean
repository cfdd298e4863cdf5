/-! THE CONSTRUCTORS, BY THE KERNEL: a run that touches no static array is one, whatever these hold -/
def am_nf (st : List Value) : Bool := st.all (fun v => match v with
  | .float _ => false
  | _ => true)
def am_v0 : am_V := fun _ => (0, fun _ => 0)
def am_run0 : Nat → Nat → Nat → List Value → List Value → am_H → Nat → Nat → Option (Option Value × am_H)
  | 0, _, _, _, _, _, _, _ => none
  | n + 1, mi, pc, ls, st, h, cu, su => if am_nf st = true then (match am_ms[mi]? with
    | none => none
    | some M => match decode M.2.2.1 pc with
      | .error _ => none
      | .ok q => match am_step am_v0 M pc q.1 q.2 ls st h cu su with
        | none => none
        | some (.inl w) => am_run0 n mi w.1 w.2.1 w.2.2.1 w.2.2.2.1 w.2.2.2.2.1 w.2.2.2.2.2
        | some (.inr (.inl v)) => if cu = M.2.2.2.2.2.2.2.cells ∧ su = M.2.2.2.2.2.2.2.slots then some (v, h) else none
        | some (.inr (.inr w)) => match am_ms[w.1]? with
          | none => none
          | some Y => if w.1 < 170 ∧ (am_sl w.2.1).length ≤ Y.2.2.2.1 ∧ am_rc M Y w.2.2 cu su = true then (match am_run0 n w.1 0 (am_ini Y.2.2.2.1 w.2.1) [] h 0 0 with
            | none => none
            | some u => am_run0 n mi (pc + 3) ls (u.1.toList ++ w.2.2) u.2 (cu + Y.2.2.2.2.2.2.2.cells) (su + Y.2.2.2.2.2.2.2.slots)) else none) else none
theorem am_nf_mem {st : List Value} (h : am_nf st = true) {t : UInt32} : Value.float t ∉ st := by
  intro hm
  have := List.all_eq_true.mp h _ hm
  cases this
theorem am_hp_nf {sv sv' : am_V} {oc kd : Nat} {rm : Room} {i : Instr} {st : List Value} {h : am_H} {cu su : Nat} (hf : am_nf st = true) : am_hp sv oc kd rm i st h cu su = am_hp sv' oc kd rm i st h cu su := by
  unfold am_hp
  split
  · rfl
  · rfl
  · rename_i j v r
    have hv : ∀ t, v ≠ .float t := fun t q => am_nf_mem hf (t := t) (by rw [q]; simp)
    cases v with
    | float t => exact absurd rfl (hv t)
    | _ => rfl
  · rename_i j t r
    exact absurd (show Value.float t ∈ _ by simp) (am_nf_mem hf)
  · rfl
  · rename_i v r
    have hv : ∀ t, v ≠ .float t := fun t q => am_nf_mem hf (t := t) (by rw [q]; simp)
    cases v with
    | float t => exact absurd rfl (hv t)
    | _ => rfl
  · rfl
  · rfl
  · rfl
  · rfl
  · rfl
  · rfl
theorem am_step_nf {sv sv' : am_V} {M : am_M} {pc : Nat} {i : Instr} {len : Nat} {ls st : List Value} {h : am_H} {cu su : Nat} (hf : am_nf st = true) : am_step sv M pc i len ls st h cu su = am_step sv' M pc i len ls st h cu su := by
  unfold am_step
  rw [am_hp_nf (sv := sv) (sv' := sv') hf]
theorem am_run0_ok {sv : am_V} : ∀ (n : Nat) {mi pc : Nat} {ls st : List Value} {h : am_H} {cu su : Nat} {u : Option Value × am_H}, am_run0 n mi pc ls st h cu su = some u → am_run sv n mi pc ls st h cu su = some u := by
  intro n
  induction n with
  | zero => intro mi pc ls st h cu su u hr; cases hr
  | succ n ih =>
    intro mi pc ls st h cu su u hr
    rw [am_run0] at hr
    split at hr
    · rename_i hf
      split at hr
      · cases hr
      · rename_i M hM
        split at hr
        · cases hr
        · rename_i q hq
          split at hr
          · cases hr
          · rename_i z hz
            rw [am_step_nf (sv' := sv) hf] at hz
            rw [am_run_next hM hq hz]
            exact ih hr
          · rename_i v hv
            rw [am_step_nf (sv' := sv) hf] at hv
            split at hr
            · rename_i hc
              rw [am_run_ret hM hq hv hc]
              exact hr
            · cases hr
          · rename_i z hz
            rw [am_step_nf (sv' := sv) hf] at hz
            split at hr
            · cases hr
            · rename_i Y hY
              split at hr
              · rename_i hc
                split at hr
                · cases hr
                · rename_i u1 hu
                  rw [am_run_call hM hq hz hY hc, ih hu]
                  exact ih hr
              · cases hr
    · cases hr
def am_code : Value → Nat
  | .int _ => 0
  | .long _ => 1
  | .ref t => t + 2
  | _ => 999
def am_shape : am_E → Nat ⊕ (Nat × List Nat)
  | .inl q => .inl q.1
  | .inr q => .inr (q.1, q.2.map am_code)
def am_c1h : Option (Option Value × am_H) := am_run0 400 60 0 (am_ini 1 [.ref 0]) [] [.inr (8, am_def 8)] 0 0
def am_c2h : Option (Option Value × am_H) := am_c1h.bind (fun u => am_run0 1200 105 0 (am_ini 2 [.ref 71]) [] (u.2 ++ [.inr (9, am_def 9)]) 0 0)
set_option maxRecDepth 100000 in
theorem am_c1_ok : am_c1h.map (fun u => (u.1, u.2.map am_shape)) = some (none, am_sh.take 71) := by decide +kernel
set_option maxRecDepth 100000 in
theorem am_c2_ok : am_c2h.map (fun u => (u.1, u.2.map am_shape)) = some (none, am_sh) := by decide +kernel
def am_obs (h : am_H) : List (List Int32) := h.map (fun c => match c with
  | .inl q => (List.range q.1).map q.2
  | .inr q => q.2.map (fun v => match v with
    | .int x => x
    | _ => 0))
def am_tab0 : List (List Int32) := [[0, 0, 0, 0, 0, 0], [0, 0, 0, 0, 0, 1, 0, 0, 1], [0, 0, 0, 0, 0], [0, 0, 0, 0, 0, 0, 0, 0, 0, 0, 0, 0, 0, 0, 0, 0], [0, 0, 0, 0, 0, 0, 0, 0, 0, 0, 0, 0, 0, 0, 0, 0], [0, 0, 0, 0, 0, 0, 0, 0, 0, 0, 0, 0, 0, 0, 0, 0], [0, 0, 0, 0, 0, 0, 0, 0, 0, 0, 0, 0, 0, 0, 0, 0], [0, 0, 0, 0, 0, 0, 0, 0, 0, 0, 0, 0, 0, 0, 0, 0], [0, 0, 0, 0], [0, 0, 0, 0, 0, 0, 0, 0, 0, 0, 0, 0], [0, 0, 0, 0, 0, 0, 0, 0, 0, 0, 0, 0], [0, 0, 0, 0, 0, 0, 0, 0, 0, 0, 0, 0], [0, 0, 0, 0, 0], [0, 0, 0, 0, 0, 0, 0, 0], [0, 0, 0, 0, 0, 0, 0, 0], [0, 0, 0, 0, 0, 0, 0, 0], [0, 0, 0, 0, 0, 0, 0, 0], [0, 0, 0], [0, 0, 0, 0, 0, 0, 0, 0, 0, 0, 0, 0, 0, 0, 0, 0, 0, 0, 0, 0, 0, 0, 0, 0], [0, 0, 0, 0, 0, 0, 0, 0, 0, 0, 0, 0, 0, 0, 0, 0, 0, 0, 0, 0, 0, 0, 0, 0], [4, 3, 3, 2, 2], [0, 0, 0, 0], [0, 0, 0, 0, 0, 1, 0, 0, 1], [0, 0, 0, 0, 0], [0, 0, 0, 0, 0, 0, 0, 0, 0, 0, 0, 0, 0, 0, 0, 0], [0, 0, 0, 0, 0, 0, 0, 0, 0, 0, 0, 0, 0, 0, 0, 0], [0, 0, 0, 0, 0, 0, 0, 0, 0, 0, 0, 0, 0, 0, 0, 0], [0, 0, 0, 0, 0, 0, 0, 0, 0, 0, 0, 0, 0, 0, 0, 0], [0, 0, 0, 0, 0, 0, 0, 0, 0, 0, 0, 0, 0, 0, 0, 0], [0, 0, 0, 0], [0, 0, 0, 0, 0, 0, 0, 0, 0, 0, 0, 0], [0, 0, 0, 0, 0, 0, 0, 0, 0, 0, 0, 0], [0, 0, 0, 0, 0, 0, 0, 0, 0, 0, 0, 0], [0, 0, 0, 0, 0], [0, 0, 0, 0, 0, 0, 0, 0], [0, 0, 0, 0, 0, 0, 0, 0], [0, 0, 0, 0, 0, 0, 0, 0], [0, 0, 0, 0, 0, 0, 0, 0], [0, 0, 0], [0, 0, 0, 0, 0, 0, 0, 0, 0, 0, 0, 0, 0, 0, 0, 0, 0, 0, 0, 0, 0, 0, 0, 0], [0, 0, 0, 0, 0, 0, 0, 0, 0, 0, 0, 0, 0, 0, 0, 0, 0, 0, 0, 0, 0, 0, 0, 0], [4, 3, 3, 2, 2], [0, 0, 0, 0], [0], [0, 0, 0, 0, 0, 1, 0, 0, 1], [0, 0, 0, 0, 0], [0, 0, 0, 0, 0, 0, 0, 0, 0, 0, 0, 0, 0, 0, 0, 0], [0, 0, 0, 0, 0, 0, 0, 0, 0, 0, 0, 0, 0, 0, 0, 0], [0, 0, 0, 0, 0, 0, 0, 0, 0, 0, 0, 0, 0, 0, 0, 0], [0, 0, 0, 0, 0, 0, 0, 0, 0, 0, 0, 0, 0, 0, 0, 0], [0, 0, 0, 0, 0, 0, 0, 0, 0, 0, 0, 0, 0, 0, 0, 0], [0, 0, 0, 0], [0, 0, 0, 0, 0, 0, 0, 0, 0, 0, 0, 0], [0, 0, 0, 0, 0, 0, 0, 0, 0, 0, 0, 0], [0, 0, 0, 0, 0, 0, 0, 0, 0, 0, 0, 0], [0, 0, 0, 0, 0], [0, 0, 0, 0, 0, 0, 0, 0], [0, 0, 0, 0, 0, 0, 0, 0], [0, 0, 0, 0, 0, 0, 0, 0], [0, 0, 0, 0, 0, 0, 0, 0], [0, 0, 0], [0, 0, 0, 0, 0, 0, 0, 0, 0, 0, 0, 0, 0, 0, 0, 0, 0, 0, 0, 0, 0, 0, 0, 0], [0, 0, 0, 0, 0, 0, 0, 0, 0, 0, 0, 0, 0, 0, 0, 0, 0, 0, 0, 0, 0, 0, 0, 0], [4, 3, 3, 2, 2], [0, 0, 0, 0], [0, 0, 0, 0], [0, 0, 0, 0, 0, 0, 0, 0, 0, 0, 0, 0, 0, 0, 0, 0, 0, 0, 0, 0, 0, 0, 0, 0, 0, 0, 0, 0, 0, 0, 0, 0, 0, 0, 0, 0, 0, 0, 0, 0, 0, 0, 0, 0, 0, 0, 0, 0, 0, 0, 0, 0, 0, 0, 0, 0, 0, 0, 0, 0, 0, 0, 0, 0, 0, 0, 0, 0, 0, 0, 0, 0, 0, 0, 0, 0, 0, 0, 0, 0, 0, 0, 0, 0, 0, 0, 0, 0, 0, 0, 0, 0, 0, 0, 0, 0, 0, 0, 0, 0], [0, 0, 0], [-1, -1, -1, -1], [0, 0, 0, 0], [0, 0, 0, 0, 0, 0, 0, 0, 0, 0, 0, 0, 0, 0, 0, 0, 0, 0, 0, 0, 0, 0, 0, 0, 0, 0, 0, 0, 0, 0, 0, 0, 0, 0, 0, 0, 0, 0, 0, 0, 0, 0, 0, 0, 0, 0, 0, 0, 0, 0, 0, 0, 0, 0, 0, 0, 0, 0, 0, 0, 0, 0, 0, 0], [0, 0, 0, 0, 0, 1, 0, 0, 0, 0, 0, 0, 0, 0, 0, 0, 0, 0, 0, 0, 0, 0, 0, 0, 0, 0, 0, 0], [0, 0, 0, 0, 0, 0, 0, 0, 0, 0, 0, 0, 0, 0, 0, 0], [0, 0, 0, 0, 0, 0, 0, 0, 0, 0, 0, 0, 0, 0, 0, 0], [-1, -1, -1, -1, -1, -1, -1, -1, -1, -1, -1, -1, -1, -1, -1, -1], [-1, -1, -1, -1, -1, -1, -1, -1, -1, -1, -1, -1, -1, -1, -1, -1], [0, 0, 0, 0, 0, 0, 0, 0, 0, 0, 0, 0, 0, 0, 0, 0], [4, 3, 3, 2, 2], [0, 0, 0, 0, 0, 0, 0, 0, 0, 0, 0, 0, 0, 0, 0, 0, 0, 0, 0, 0, 0, 0, 0, 0], [0, 0, 0, 0, 0, 0, 0, 0, 0, 0, 0, 0, 0, 0, 0, 0, 0, 0, 0, 0, 0, 0, 0, 0, 0, 0, 0, 0, 0, 0, 0, 0, 0, 0, 0, 0, 0, 0, 0, 0, 0, 0, 0, 0, 0, 0, 0, 0, 0, 0, 0, 0, 0, 0, 0, 0, 0, 0, 0, 0, 0, 0, 0, 0, 0, 0, 0, 0, 0, 0, 0, 0, 0, 0, 0, 0, 0, 0, 0, 0, 0, 0, 0, 0, 0, 0, 0, 0, 0, 0, 0, 0, 0, 0, 0, 0, 0, 0, 0, 0], [0, 0, 0, 0, 0, 0, 0, 0, 0, 0, 0, 0, 0, 0, 0, 0, 0, 0, 0, 0, 0, 0, 0, 0, 0, 0, 0, 0, 0, 0, 0, 0, 0, 0, 0, 0, 0, 0, 0, 0, 0, 0, 0, 0, 0, 0, 0, 0], [0, 0, 0, 0, 0, 0, 0, 0, 0, 0, 0, 0, 0, 0, 0, 0, 0, 0, 0, 0, 0, 0, 0, 0, 0, 0, 0, 0, 0, 0, 0, 0], [0, 0, 0, 0, 0, 0, 0, 0, 0, 0, 0, 0, 0, 0, 0, 0, 0, 0, 0, 0, 0, 0, 0, 0, 0, 0, 0, 0, 0, 0, 0, 0, 0, 0, 0, 0, 0, 0, 0, 0, 0, 0, 0, 0, 0, 0, 0, 0, 0, 0, 0, 0, 0, 0, 0, 0, 0, 0, 0, 0, 0, 0, 0, 0], [0, 0, 0, 0, 0, 0, 0, 0, 0, 0, 0, 0, 0, 0, 0, 0, 0, 0, 0, 0, 0, 0, 0, 0], [0, 0, 0, 0, 0, 0, 0, 0, 0, 0, 0, 0, 0, 0, 0, 0, 0, 0, 0, 0, 0, 0, 0, 0], [0, 0, 0, 0, 0, 0, 0, 0, 0, 0, 0, 0, 0, 0, 0, 0, 0, 0, 0, 0, 0, 0, 0, 0, 0, 0, 0, 0, 0, 0, 0, 0, 0, 0, 0, 0, 0, 0, 0, 0, 0, 0, 0, 0, 0, 0, 0, 0, 0, 0, 0, 0, 0, 0, 0, 0, 0, 0, 0, 0, 0, 0, 0, 0, 0, 0, 0, 0, 0, 0, 0, 0, 0, 0, 0, 0, 0, 0, 0, 0, 0, 0, 0, 0, 0, 0, 0, 0, 0, 0, 0, 0, 0, 0, 0, 0, 0, 0, 0, 0, 0, 0, 0, 0, 0, 0, 0, 0, 0, 0, 0, 0, 0, 0, 0, 0, 0, 0, 0, 0, 0, 0, 0, 0, 0, 0, 0, 0, 0, 0, 0, 0, 0, 0, 0, 0, 0, 0, 0, 0, 0, 0, 0, 0, 0, 0, 0, 0, 0, 0, 0, 0, 0, 0, 0, 0, 0, 0, 0, 0, 0, 0, 0, 0, 0, 0, 0, 0, 0, 0, 0, 0, 0, 0, 0, 0, 0, 0, 0, 0, 0, 0, 0, 0, 0, 0, 0, 0, 0, 0, 0, 0, 0, 0, 0, 0, 0, 0, 0, 0], [-1, -1, -1, -1], [0, 0, 0, 0], [0, 0, 0, 0, 0, 0, 0, 0, 0, 0, 0, 0, 0, 0, 0, 0, 0, 0, 0, 0, 0, 0, 0, 0, 0, 0, 0, 0, 0, 0, 0, 0, 0, 0, 0, 0, 0, 0, 0, 0, 0, 0, 0, 0, 0, 0, 0, 0, 0, 0, 0, 0, 0, 0, 0, 0, 0, 0, 0, 0, 0, 0, 0, 0], [0, 0, 0, 0, 0, 0, 0, 0, 0, 0, 0, 0, 0, 0, 0, 0]]
set_option maxRecDepth 100000 in
theorem am_c2_val : am_c2h.map (fun u => am_obs u.2) = some am_tab0 := by decide +kernel
