/-! THE CLAIM OUT OF ONE WALK OF THE LAW'S BODY. Your part is whole_start (and what it stands on); all else here is the same for every law, but numbers. -/
def R_law : String := "CoinNotThereLaw"
def lw_P (b : Addr) (xs : List Int32) (args : Array Value) (s : State) : Prop := args = #[.ref b] ∧ s.IntsAt b xs ∧ xs.length ≤ 3072 ∧ (Jvm.Cond.and given_1 narrow_1).before args s = true
def lw_Q (_ : Array Value) (s : State) (o : Outcome) (t : State) : Prop := o = .returned (some (.int 1)) ∧ Framed s o t [] 90 1596
def lw_Z (below : List Frame) (a : Array Value) (s : State) : State → Prop := fun t => ∃ o, t.status = .running ∧ Ended t below o ∧ lw_Q a s o t
/-- the law's own end, with 1 on the stack, nothing written that was there before, its room as the claim has it -/
theorem lw_ret {p : Program} {l : Launch} {e : Env} {s : State} {m : MethodId} {below : List Frame} {meth : Method} {c : Code} {b : Nat} (hx : p.tables.exec = Jvm.exec) (hb : c.code = code) (hr : meth.sig.returnType = ret) (hlocks : meth.locks = false) {pc : Nat} {H : Heap} {ls : Array Slot} (hdg : decode code pc = .ok (.ireturn, 1)) : W p l e room_1 s m #[Value.ref b] below meth c H [] 90 1596 (lw_Z below #[Value.ref b] s) (F0 m pc ls [.int 1]) := by
  intro T hT X
  obtain ⟨fs, hret, hrun, hended, hW, hframe⟩ := X.leave (v := some (.int 1)) (hlocks := hlocks) (fun h => by rw [hr] at h; cases h)
  have hmeth' : T.vm.method? m = some meth := X.method'
  refine ⟨T.setFrames fs, ?_, .returned (some (.int 1)), hrun, hended, rfl, ⟨_, rfl⟩, hW, hframe⟩
  jvm_step X.here [X.here.top, hx, hb, hdg, hmeth', hr, ret, narrow_b1]
  (try refine ⟨rfl, ?_⟩); (try refine ⟨rfl, ?_⟩)
  first | (intro acts; rw [hret _ acts rfl rfl rfl]) | rw [hret _ _ rfl rfl rfl]
  exact Steps.refl _
/-- what holds at the law's entry: the machine, the code, the tables' words (any of lw_tbl by 'hts w (by decide +kernel)'), the script of L ints xs at the cell b, what the Statement gives of the start (any of its parts by flat_of_before) -/
def lw_At (p : Program) (s : State) (m : MethodId) (meth : Method) (c : Code) (b L : Nat) (xs : Nat → Int32) : Prop :=
  p.tables.exec = Jvm.exec ∧ c.code = code ∧ meth.sig.returnType = ret ∧ c.maxLocals = 4 ∧ s.vm.findClass R_law = some m.cls ∧ (∀ w ∈ lw_tbl, w.before #[Value.ref b] s = true) ∧ va_X b L xs s s.heap ∧ b < s.heap.size ∧ meth.locks = false ∧ (Jvm.Cond.and given_1 narrow_1).before #[Value.ref b] s = true
/-! THE LAW's START, OUT OF A RUN -/
/-- the static arrays: 0 GREATEST_LAW, 1 LETTER_OF_KIND, 2 the script -/
def am_sv (L : Nat) (xs : Nat → Int32) : am_V := fun t => match t with
  | 0 => (5, fun j => if j = 4 then 10 else 9)
  | 1 => (4, fun j => match j with
    | 0 => 112
    | 1 => 119
    | 2 => 99
    | _ => 120)
  | _ => (L, xs)
theorem am_cases5 {P : Nat → Prop} (h0 : P 0) (h1 : P 1) (h2 : P 2) (h3 : P 3) (h4 : P 4) : ∀ j, j < 5 → P j := by
  intro j hj
  match j, hj with
  | 0, _ => exact h0
  | 1, _ => exact h1
  | 2, _ => exact h2
  | 3, _ => exact h3
  | 4, _ => exact h4
theorem am_cases4 {P : Nat → Prop} (h0 : P 0) (h1 : P 1) (h2 : P 2) (h3 : P 3) : ∀ j, j < 4 → P j := by
  intro j hj
  match j, hj with
  | 0, _ => exact h0
  | 1, _ => exact h1
  | 2, _ => exact h2
  | 3, _ => exact h3
set_option maxRecDepth 100000 in
theorem am_stat : lw_tbl[304]? = some (.laysStatic "CoinNotThere" "GREATEST_LAW" "[I") ∧ lw_tbl[425]? = some (.laysStatic "CoinNotThere" "LETTER_OF_KIND" "[C") ∧ lw_tbl[31]? = some (.initialized "CoinNotThere") := by decide +kernel
set_option maxRecDepth 100000 in
set_option maxHeartbeats 4000000 in
theorem am_start {p : Program} {e : Env} {s : State} {m : MethodId} {below : List Frame} {meth : Method} {c : Code} (l : Launch) {b L : Nat} {xs : Nat → Int32} (C0 : lw_At p s m meth c b L xs) (hrun : ∃ n h', am_run (am_sv L xs) n 170 0 [.float 2, .null, .null, .null] [] [] 0 0 = some (some (.int 1), h')) : W p l e room_1 s m #[Value.ref b] below meth c s.heap [] 0 0 (lw_Z below #[Value.ref b] s) (entryFrame m ([Value.ref b] : List Value).toArray 4) := by
  obtain ⟨hx, hb, hr, hml, hown, hts, hX, hbl, hlocks, hgv⟩ := id C0
  obtain ⟨n, h', hrun⟩ := hrun
  have hts2 : ∀ w ∈ am_TB, w.before #[Value.ref b] s = true := fun w hw => hts w (List.mem_filter.mp hw).1
  have hgs := flat_of_before _ hgv
  -- classes
  have hcls : ∀ k : Nat, ∃ (cC : ClassId) (iS : Nat → Nat), ∀ q : vw_C, vwCl[k]? = some q → u_Kn s q.1 q.2.1 q.2.2 cC iS := by
    intro k
    cases hk : vwCl[k]? with
    | none => exact ⟨0, fun _ => 0, fun q hq => by cases hq⟩
    | some q =>
      obtain ⟨i, hi⟩ : ∃ n, (Cond.instantiable q.1 n).before #[Value.ref b] s = true := by
        have hall : vwCl.all (fun r => am_cns.any (fun z => decide (lw_tbl[z.2.2.2.2.1]? = some (.instantiable r.1 r.2.2)))) = true := by decide +kernel
        have h1 := List.all_eq_true.mp hall q (List.mem_of_getElem? hk)
        obtain ⟨z, -, h2⟩ := List.any_eq_true.mp h1
        exact ⟨_, hts _ (List.mem_of_getElem? (of_decide_eq_true h2))⟩
      obtain ⟨cC, iS, h⟩ := u_known (C := q.1) (T := q.2.1) (N := q.2.2) hts2 (am_lay hk) hi
      exact ⟨cC, iS, fun q' hq' => by cases hq'; exact h⟩
  have hch := fun k => Classical.choose_spec (hcls k)
  have hD : ∃ D : va_G, ∀ (k : Nat) (q : vw_C), vwCl[k]? = some q → u_Kn s q.1 q.2.1 q.2.2 (D.1 k) (D.2 k) := ⟨(fun k => Classical.choose (hcls k), fun k => Classical.choose (hch k)), fun k q hq => Classical.choose_spec (hch k) q hq⟩
  obtain ⟨D, hD⟩ := hD
  -- the array class
  obtain ⟨cI, kA, comp, a1, a2, a3⟩ := Cond.arrayClass_spec (hts2 _ am_jdkT.2.2.2.2.2.2.2.1)
  have hKK : va_K D vwCl [(cI, .int)] s := by
    refine ⟨hD, fun k q hk => ?_⟩
    have hz : k < 1 := (List.getElem?_eq_some_iff.mp hk).1
    rw [show k = 0 by omega] at hk
    cases hk
    exact ⟨fun n z => ⟨fun k h => (by cases h), kA, a2, comp, a3⟩, a1⟩
  have hA : ∀ a : Nat, a < s.heap.size → ¬ am_A s.heap.size a := fun a h q => Nat.not_le.mpr h q
  -- the static arrays
  obtain ⟨t0, ht0, hT0⟩ := va_Tof (args := #[Value.ref b]) (s := s) (tm := .static "CoinNotThere" "GREATEST_LAW" "[I") (ty := .int) (N := 5) (f := fun j => .int (((am_sv L xs) 0).2 j)) (A := am_A s.heap.size) (by decide) (hgs _ (by decide +kernel)) (va_eqt (z := 5) (hgs _ (by decide +kernel)))
    (am_cases5 (va_eqt (z := 9) (hgs _ (by decide +kernel))) (va_eqt (z := 9) (hgs _ (by decide +kernel))) (va_eqt (z := 9) (hgs _ (by decide +kernel))) (va_eqt (z := 9) (hgs _ (by decide +kernel))) (va_eqt (z := 10) (hgs _ (by decide +kernel)))) hA
  obtain ⟨t1, ht1, hT1⟩ := va_Tof (args := #[Value.ref b]) (s := s) (tm := .static "CoinNotThere" "LETTER_OF_KIND" "[C") (ty := .char) (N := 4) (f := fun j => .int (((am_sv L xs) 1).2 j)) (A := am_A s.heap.size) (by decide) (hgs _ (by decide +kernel)) (va_eqt (z := 4) (hgs _ (by decide +kernel)))
    (am_cases4 (va_eqt (z := 112) (hgs _ (by decide +kernel))) (va_eqt (z := 119) (hgs _ (by decide +kernel))) (va_eqt (z := 99) (hgs _ (by decide +kernel))) (va_eqt (z := 120) (hgs _ (by decide +kernel)))) hA
  have hZ0 := va_Zref (A := am_A s.heap.size) (hts _ (List.mem_of_getElem? am_stat.1)) (hts _ (List.mem_of_getElem? am_stat.2.2)) ht0 hA
  have hZ1 := va_Zref (A := am_A s.heap.size) (hts _ (List.mem_of_getElem? am_stat.2.1)) (hts _ (List.mem_of_getElem? am_stat.2.2)) ht1 hA
  have hT2 : va_T .int b L (fun j => .int (xs j)) (am_A s.heap.size) s s.heap := by
    obtain ⟨scr, h1, h2, h3, h4, h5⟩ := hX
    exact ⟨scr, h1, h2, h3, by omega, by rw [h4], h5, hA b hbl⟩
  have hG : am_G D cI s.heap.size (fun t => match t with
    | 0 => t0
    | 1 => t1
    | _ => b) (am_sv L xs) s s.heap := by
    refine ⟨hKK, fun t ht => ?_, hT0, hT1, hT2, fun w hw => va_Nw.of (am_isN_on (List.mem_filter.mp hw).2) (hts w (List.mem_filter.mp hw).1)⟩
    match t, ht with
    | 0, _ => exact hZ0
    | 1, _ => exact hZ1
  have hM : am_ms[170]? = some am_m170 := rfl
  rw [lg_entry_eq]
  refine am_sound (l := l) (D := D) (cI := cI) (b := s.heap.size) (sa := fun t => match t with
    | 0 => t0
    | 1 => t1
    | _ => b) n hM hrun (h0 := 0) ⟨hx, hb, hml, hown, hts2, hG, fun h => by cases h⟩ ?_ ⟨fun k q hk => by simp [am_ws] at hk, va_S.rf, rfl, rfl⟩ ?_
  · have h1 := am_ini_L (n := 4) (b := s.heap.size) (sa := fun t => match t with
      | 0 => t0
      | 1 => t1
      | _ => b) (as := [.float 2]) (by decide)
    exact h1
  · intro H' locs' cls' pc' i len st' hd hrt hC
    refine va_forget (fun q hq => hC.2.1.2.2 q hq) ?_
    unfold am_rt at hrt
    split at hrt
    · rename_i x
      split at hrt
      · rename_i hl1
        subst hl1
        change (if x = 0 ∨ x = 1 then some (some (Value.int x)) else none) = some (some (Value.int 1)) at hrt
        split at hrt
        · have hu := Option.some.inj (Option.some.inj hrt)
          cases hu
          exact lw_ret hx hb hr hlocks hd
        · cases hrt
      · cases hrt
    · split at hrt
      · cases hrt
      · cases hrt
    · cases hrt
