/-! the whole step, calls, the run -/
theorem am_ml6 {oc k y : Nat} (h : am_ml oc k = some (6, y)) : Cond.methodLink (am_own oc) k objectInit ∈ am_TB := by
  rcases am_ml_ok h with q | q | q | q | q | q
  · cases q.1
  · cases q.1
  · exact q.2
  · cases q.1
  · cases q.1
  · cases q.1
theorem am_ml7 {oc k y : Nat} (h : am_ml oc k = some (7, y)) : Cond.methodLink (am_own oc) k Lib.Math.max.name ∈ am_TB := by
  rcases am_ml_ok h with q | q | q | q | q | q
  · cases q.1
  · cases q.1
  · cases q.1
  · exact q.2
  · cases q.1
  · cases q.1
theorem am_ml8 {oc k y : Nat} (h : am_ml oc k = some (8, y)) : Cond.methodLink (am_own oc) k Lib.Math.min.name ∈ am_TB := by
  rcases am_ml_ok h with q | q | q | q | q | q
  · cases q.1
  · cases q.1
  · cases q.1
  · cases q.1
  · exact q.2
  · cases q.1
theorem am_ml6' {oc k : Nat} (h : (am_ml oc k).map (fun q => q.1) = some 6) : Cond.methodLink (am_own oc) k objectInit ∈ am_TB := by
  obtain ⟨q, h1, h2⟩ := Option.map_eq_some_iff.mp h
  obtain ⟨a, y⟩ := q
  simp only at h2
  subst h2
  exact am_ml6 h1
section AMC
variable {p : Program} {l : Launch} {e : Env} {R : Room} {s : State} {m : MethodId} {args : Array Value} {below : List Frame} {meth : Method} {c : Code} {H : Heap} {locs : List Loc} {cu su : Nat} {Q : State → Prop}
variable {pc b h0 : Nat} {sa : Nat → Nat} {sv : am_V} {cls : Array Slot} {st st' : List Value} {D : va_G} {cI : ClassId} {M : am_M} {h h' : am_H}
theorem am_hp_ok (F : am_Fr D cI b sa sv M p s m args meth c) (hC : am_Cf D cI b sa h0 s h H locs cu) (hsz : cls.size = M.2.2.2.1) {i : Instr} (hd : decode M.2.2.1 pc = .ok (i, am_len i)) {cu' su' : Nat} (hg : am_hp sv M.1 M.2.2.2.2.2.1 R i st h cu su = some (st', h', cu', su'))
    (kk : ∀ H' locs', am_Cf D cI b sa h0 s h' H' locs' cu' → W p l e R s m args below meth c H' locs' cu' su' Q (F0 m (pc + am_len i) cls (st'.map (am_v b sa)))) : W p l e R s m args below meth c H locs cu su Q (F0 m pc cls (st.map (am_v b sa))) := by
  obtain ⟨hx, hb, hml, hown, hts, hG, hin⟩ := id F
  obtain ⟨j1, j2, j3, j4, j5, j6, j7, j8, j9, j10, j11⟩ := am_jdkT
  unfold am_hp at hg
  split at hg
  · obtain ⟨q, h1, h2⟩ := Option.bind_eq_some_iff.mp hg
    obtain ⟨s2, h3, h4⟩ := Option.map_eq_some_iff.mp h2
    cases h4
    exact am_gf_ok F hC hd h1 h3 (kk H locs hC)
  · obtain ⟨q, h1, h2⟩ := Option.bind_eq_some_iff.mp hg
    obtain ⟨s2, h3, h4⟩ := Option.map_eq_some_iff.mp h2
    cases h4
    exact am_pf_ok F hC hd h1 h3 kk
  · obtain ⟨s2, h3, h4⟩ := Option.map_eq_some_iff.mp hg
    cases h4
    exact am_ial_ok F hC hd h3 (kk H locs hC)
  · split at hg
    · rename_i ht
      obtain ⟨rfl, hi⟩ := ht
      cases hg
      exact va_tc hx hb hG.2.2.2.1 hC.2.1 (am_in_vp hi) rfl hd (kk H locs hC)
    · cases hg
  · obtain ⟨s2, h3, h4⟩ := Option.map_eq_some_iff.mp hg
    cases h4
    exact am_ias_ok F hC hd h3 kk
  · obtain ⟨n, h3, h4⟩ := Option.map_eq_some_iff.mp hg
    cases h4
    unfold am_aln at h3
    split at h3
    · rename_i a
      split at h3
      · rename_i n f ha
        cases h3
        exact va_alen (D := D) hx hb hG.1 hC.1 a 0 (am_ws_get ha) rfl rfl hd (kk H locs hC)
      · cases h3
    · split at h3
      · rename_i t ht
        subst ht
        cases h3
        exact va_tlen hx hb hG.2.2.2.2.1 hC.2.1 rfl hd (kk H locs hC)
      · cases h3
    · cases h3
  · obtain ⟨t, h3, h4⟩ := Option.map_eq_some_iff.mp hg
    cases h4
    obtain ⟨h5, h6⟩ := am_gs_ok h3
    have ht : (UInt32.ofNat t).toNat = t := by
      rcases (show t = 0 ∨ t = 1 by omega) with rfl | rfl <;> rfl
    have k2 := kk H locs hC
    rw [List.map_cons] at k2
    simp only [am_v, ht] at k2
    rcases h6 with h6 | h6
    · exact va_gets hx hb (hG.2.1 t h5) hC.2.1 hown (hts _ h6) (fun _ h9 => h9) hd k2
    · exact va_getsN hx hb (hG.2.1 t h5) hC.2.1 hown ((hG.2.2.2.2.2 _ h6).use rfl) (fun _ h9 => h9) hd k2
  · obtain ⟨ci, h3, h4⟩ := Option.bind_eq_some_iff.mp hg
    split at h4
    · rename_i hc
      cases h4
      exact am_new_ok F hC hd h3 hc.1 hc.2 kk
    · cases h4
  · split at hg
    · rename_i hc
      cases hg
      exact am_newa_ok F hC hd hc.1 hc.2.1 hc.2.2.1 hc.2.2.2 kk
    · cases hg
  · split at hg
    · rename_i a r hc
      cases hg
      refine W.objInit hx hb hown (hts _ (am_ml6' hc.1)) (hts _ j7) (hts _ j11) rfl (hsz.trans hml.symm) rfl hd hc.2.1 ?_ (kk H locs hC)
      have := hc.2.2
      have h7 := am_cs_map (b := b) (sa := sa) st'
      show 2 * 0 + _ + 12 ≤ _
      omega
    · cases hg
  · unfold am_js at hg
    split at hg
    · rename_i hk
      split at hg
      · rename_i hc
        obtain ⟨s2, h3, h4⟩ := Option.map_eq_some_iff.mp hg
        cases h4
        exact am_cpy_ok F hC hsz hd hk hc.1 hc.2 h3 kk
      · cases hg
    · rename_i hk
      split at hg
      · rename_i hc
        cases hg
        exact va_mmax hx hb (hml.trans hsz.symm) hown (hts _ (am_ml7 hk)) (hts _ j1) (hts _ j3) (hts _ j9) hc.1 (by rw [am_cs_map]; exact hc.2.1) hc.2.2.1 hc.2.2.2 hd (kk H locs hC)
      · cases hg
    · rename_i hk
      split at hg
      · rename_i hc
        cases hg
        exact va_mmin hx hb (hml.trans hsz.symm) hown (hts _ (am_ml8 hk)) (hts _ j2) (hts _ j3) (hts _ j10) hc.1 (by rw [am_cs_map]; exact hc.2.1) hc.2.2.1 hc.2.2.2 hd (kk H locs hC)
      · cases hg
    · cases hg
  · cases hg
/-- how many cells a step makes -/
theorem am_hp_len {oc kd : Nat} {i : Instr} {cu' su' : Nat} (hg : am_hp sv oc kd R i st h cu su = some (st', h', cu', su')) : h'.length + cu = h.length + cu' := by
  unfold am_hp at hg
  split at hg
  · obtain ⟨q, h1, h2⟩ := Option.bind_eq_some_iff.mp hg
    obtain ⟨s2, h3, h4⟩ := Option.map_eq_some_iff.mp h2
    cases h4; rfl
  · obtain ⟨q, h1, h2⟩ := Option.bind_eq_some_iff.mp hg
    obtain ⟨s2, h3, h4⟩ := Option.map_eq_some_iff.mp h2
    cases h4
    unfold am_pf at h3
    split at h3
    · split at h3
      · cases h3; rw [List.length_set]
      · cases h3
    · cases h3
  · obtain ⟨s2, h3, h4⟩ := Option.map_eq_some_iff.mp hg
    cases h4; rfl
  · split at hg
    · cases hg; rfl
    · cases hg
  · obtain ⟨s2, h3, h4⟩ := Option.map_eq_some_iff.mp hg
    cases h4
    unfold am_ias at h3
    split at h3
    · split at h3
      · cases h3; rw [List.length_set]
      · cases h3
    · cases h3
  · obtain ⟨n, h3, h4⟩ := Option.map_eq_some_iff.mp hg
    cases h4; rfl
  · obtain ⟨t, h3, h4⟩ := Option.map_eq_some_iff.mp hg
    cases h4; rfl
  · obtain ⟨ci, h3, h4⟩ := Option.bind_eq_some_iff.mp hg
    split at h4
    · cases h4; simp; omega
    · cases h4
  · split at hg
    · cases hg; simp; omega
    · cases hg
  · split at hg
    · cases hg; rfl
    · cases hg
  · unfold am_js at hg
    split at hg
    · split at hg
      · obtain ⟨s2, h3, h4⟩ := Option.map_eq_some_iff.mp hg
        cases h4
        unfold am_cpy at h3
        split at h3
        · split at h3
          · cases h3; rw [List.length_set]
          · cases h3
        · cases h3
      · cases hg
    · split at hg
      · cases hg; rfl
      · cases hg
    · split at hg
      · cases hg; rfl
      · cases hg
    · cases hg
  · cases hg
/-- a step, by its kind -/
theorem am_step_inv {i : Instr} {len : Nat} {ls : List Value} {w : am_R} (hs : am_step sv M pc i len ls st h cu su = some w) :
    (∃ q, am_br i pc len st = some q ∧ w = .inl (q.1, ls, q.2, h, cu, su)) ∨ (∃ v, am_rt M.2.2.2.2.1 i len st = some v ∧ w = .inr (.inl v)) ∨ (len = am_len i ∧ ((∃ q, am_pu M.1 i ls st = some q ∧ w = .inl (pc + len, q.1, q.2, h, cu, su)) ∨ (∃ s2, am_ai i st = some s2 ∧ w = .inl (pc + len, ls, s2, h, cu, su)) ∨ (∃ s2, am_al i st = some s2 ∧ w = .inl (pc + len, ls, s2, h, cu, su)) ∨ (∃ q, am_hp sv M.1 M.2.2.2.2.2.1 M.2.2.2.2.2.2.2 i st h cu su = some q ∧ w = .inl (pc + len, ls, q.1, q.2.1, q.2.2.1, q.2.2.2)) ∨ (∃ q, am_ca M.1 i st h = some q ∧ w = .inr (.inr q)))) := by
  unfold am_step at hs
  split at hs
  · rename_i q hq; cases hs; exact Or.inl ⟨q, hq, rfl⟩
  · split at hs
    · rename_i v hv; cases hs; exact Or.inr (Or.inl ⟨v, hv, rfl⟩)
    · split at hs
      · rename_i hlen
        refine Or.inr (Or.inr ⟨hlen, ?_⟩)
        split at hs
        · rename_i q hq; cases hs; exact Or.inl ⟨q, hq, rfl⟩
        · split at hs
          · rename_i q hq; cases hs; exact Or.inr (Or.inl ⟨q, hq, rfl⟩)
          · split at hs
            · rename_i q hq; cases hs; exact Or.inr (Or.inr (Or.inl ⟨q, hq, rfl⟩))
            · split at hs
              · rename_i q hq; cases hs; exact Or.inr (Or.inr (Or.inr (Or.inl ⟨q, hq, rfl⟩)))
              · obtain ⟨q, h1, h2⟩ := Option.map_eq_some_iff.mp hs
                exact Or.inr (Or.inr (Or.inr (Or.inr ⟨q, h1, h2.symm⟩)))
      · cases hs
/-- a run, by its first step -/
theorem am_run_inv {n mi : Nat} {ls : List Value} {u : Option Value × am_H} (hr : am_run sv (n + 1) mi pc ls st h cu su = some u) :
    ∃ M q w, am_ms[mi]? = some M ∧ decode M.2.2.1 pc = .ok q ∧ am_step sv M pc q.1 q.2 ls st h cu su = some w ∧
      ((∃ z, w = .inl z ∧ am_run sv n mi z.1 z.2.1 z.2.2.1 z.2.2.2.1 z.2.2.2.2.1 z.2.2.2.2.2 = some u) ∨ (∃ v, w = .inr (.inl v) ∧ cu = M.2.2.2.2.2.2.2.cells ∧ su = M.2.2.2.2.2.2.2.slots ∧ u = (v, h)) ∨
       (∃ z Y u1, w = .inr (.inr z) ∧ am_ms[z.1]? = some Y ∧ (z.1 < 170 ∧ (am_sl z.2.1).length ≤ Y.2.2.2.1 ∧ am_rc M Y z.2.2 cu su = true) ∧ am_run sv n z.1 0 (am_ini Y.2.2.2.1 z.2.1) [] h 0 0 = some u1 ∧ am_run sv n mi (pc + 3) ls (u1.1.toList ++ z.2.2) u1.2 (cu + Y.2.2.2.2.2.2.2.cells) (su + Y.2.2.2.2.2.2.2.slots) = some u)) := by
  rw [am_run] at hr
  split at hr
  · cases hr
  · rename_i M hM
    split at hr
    · cases hr
    · rename_i q hq
      split at hr
      · cases hr
      · rename_i z hz
        exact ⟨M, q, _, hM, hq, hz, Or.inl ⟨z, rfl, hr⟩⟩
      · rename_i v hv
        split at hr
        · rename_i hc
          cases hr
          exact ⟨M, q, _, hM, hq, hv, Or.inr (Or.inl ⟨v, rfl, hc.1, hc.2, rfl⟩)⟩
        · cases hr
      · rename_i z hz
        split at hr
        · cases hr
        · rename_i Y hY
          split at hr
          · rename_i hc
            split at hr
            · cases hr
            · rename_i u1 hu
              exact ⟨M, q, _, hM, hq, hz, Or.inr (Or.inr ⟨z, Y, u1, rfl, hY, hc, hu, hr⟩)⟩
          · cases hr
theorem am_run_len : ∀ (n : Nat) {mi pc : Nat} {ls st : List Value} {h : am_H} {cu su : Nat} {u : Option Value × am_H} {M : am_M}, am_run sv n mi pc ls st h cu su = some u → am_ms[mi]? = some M → u.2.length + cu = h.length + M.2.2.2.2.2.2.2.cells := by
  intro n
  induction n with
  | zero => intro mi pc ls st h cu su u M hr _; cases hr
  | succ n ih =>
    intro mi pc ls st h cu su u M hr hM
    obtain ⟨M', q, w, hM', hq, hs, hw⟩ := am_run_inv hr
    cases hM.symm.trans hM'
    rcases hw with ⟨z, rfl, h1⟩ | ⟨v, rfl, h1, h2, rfl⟩ | ⟨z, Y, u1, rfl, hY, hc, h1, h2⟩
    · have h3 := ih h1 hM
      rcases am_step_inv hs with ⟨q, -, h5⟩ | ⟨v, -, h5⟩ | ⟨-, ⟨q, -, h5⟩ | ⟨q, -, h5⟩ | ⟨q, -, h5⟩ | ⟨q, h4, h5⟩ | ⟨q, -, h5⟩⟩
      · cases h5; exact h3
      · cases h5
      · cases h5; exact h3
      · cases h5; exact h3
      · cases h5; exact h3
      · obtain ⟨s2, hh, c2, u2⟩ := q
        cases h5
        have h6 := am_hp_len h4
        simp only at h3
        omega
      · cases h5
    · show h.length + cu = h.length + _
      omega
    · have h3 := ih h1 hY
      have h4 := ih h2 hM
      try simp only at h3 h4
      omega
/-- a call that comes back -/
theorem am_callW {mc ms : Nat} {rest st0 : List Value} {Qa : State → Outcome → State → Prop} {free : Addr → Prop} (hr : va_Run p l e R s m args below meth c H locs cu su mc ms (F0 m pc cls st0) rest Qa free)
    (kk : ∀ (v : Option Value) (s0 t : State) (L : List Loc), s0.heap = H → Qa s0 (.returned v) t → (∀ q ∈ L, free q.base) → W p l e R s m args below meth c t.heap (locs ++ L) (cu + mc) (su + ms) Q (F0 m (pc + 3) cls (v.toList ++ rest))) : W p l e R s m args below meth c H locs cu su Q (F0 m pc cls st0) := by
  intro T hT X
  obtain ⟨v, s0, t, T', L, e0, X', hL, e1, e2, hq, stp⟩ := hr T hT X
  obtain ⟨t2, a1, b1⟩ := kk v s0 t L e0 hq hL T' e1 X'
  exact ⟨t2, stp t2 a1, b1⟩
end AMC
/-- the world of a call -/
def am_Wd (D : va_G) (cI : ClassId) (b : Nat) (sa : Nat → Nat) (sv : am_V) (h : am_H) (U : State) : Prop := U.heap.size = b + h.length ∧ va_P D vwCl (am_ws b sa cI h) U.heap ∧ am_G D cI b sa sv U U.heap
def am_Qc (D : va_G) (cI : ClassId) (b : Nat) (sa : Nat → Nat) (r : Option Value) (h' : am_H) : Array Value → State → Outcome → State → Prop := fun _ s0 o t => o = .returned (r.map (am_v b sa)) ∧ va_P D vwCl (am_ws b sa cI h') t.heap ∧ va_F (am_A b) s0 t
def am_wsM (M : am_M) : List Cond := Cond.code M.2.1 M.2.2.1 M.2.2.2.1 M.2.2.2.2.1 :: am_TB
/-- a method's contract at one call -/
def am_Met (l : Launch) (D : va_G) (cI : ClassId) (b : Nat) (sa : Nat → Nat) (sv : am_V) (M : am_M) (as : List Value) (h : am_H) (r : Option Value) (h' : am_H) : Prop :=
  Met l M.2.1 (am_wsM M) M.2.2.2.2.2.2.2 (va_Pc (as.map (am_v b sa)) (am_Wd D cI b sa sv h)) (am_Qc D cI b sa r h') M.2.2.2.2.2.2.2.cells M.2.2.2.2.2.2.2.slots (am_A b)
theorem am_good {M : am_M} {mi : Nat} (hM : am_ms[mi]? = some M) (hl : mi < 170) : GoodIn am_TB (am_wsM M) := by
  intro w hw
  rcases List.mem_cons.mp hw with rfl | hw
  · exact ⟨(am_m_ok hM hl).1, am_TB_good (am_m_ok hM hl).1⟩
  · exact ⟨hw, am_TB_good hw⟩
section AMD
variable {p : Program} {l : Launch} {e : Env} {R : Room} {s : State} {m : MethodId} {args : Array Value} {below : List Frame} {meth : Method} {c : Code} {H : Heap} {locs : List Loc} {cu su : Nat} {Q : State → Prop}
variable {pc b h0 : Nat} {sa : Nat → Nat} {sv : am_V} {cls : Array Slot} {st st' : List Value} {D : va_G} {cI : ClassId} {M : am_M} {h h' : am_H}
theorem am_blind {as : List Value} : FrameBlind (va_Pc (as.map (am_v b sa)) (am_Wd D cI b sa sv h)) := fun a U g mk q => ⟨q.1, q.2.1, q.2.2.1, am_G.same (s := U) (U := U.calling g mk a) rfl q.2.2.2⟩
theorem am_Cf.G (hC : am_Cf D cI b sa h0 s h H locs cu) (hG : am_G D cI b sa sv s s.heap) : am_G D cI b sa sv s H := hG.kept hC.2.1.2.1
theorem am_Cf.sz (hC : am_Cf D cI b sa h0 s h H locs cu) (hz : H.size ≤ s.heap.size + cu) : H.size = b + h.length := by
  have h1 := hC.2.2.1
  have h2 := hC.2.2.2
  have h3 := hC.2.1.1
  by_cases h4 : h.length = 0
  · omega
  · obtain ⟨e1, he⟩ : ∃ e1, h[h.length - 1]? = some e1 := ⟨_, List.getElem?_eq_getElem (by omega)⟩
    have h5 := (hC.1 _ _ (am_ws_get he)).lt
    simp only at h5
    omega
theorem am_Cf.pre (hC : am_Cf D cI b sa h0 s h H locs cu) (hG : am_G D cI b sa sv s s.heap) (hz : H.size ≤ s.heap.size + cu) (as : List Value) : ∀ U : State, U.heap = H → s.WarmedH U.vm → va_Pc (as.map (am_v b sa)) (am_Wd D cI b sa sv h) (as.map (am_v b sa)).toArray U :=
  fun U hU hW => ⟨rfl, by rw [hU]; exact hC.sz hz, by rw [hU]; exact hC.1, by rw [hU]; exact (hC.G hG).warm hW⟩
theorem am_Cf.back (hC : am_Cf D cI b sa h0 s h H locs cu) {mc : Nat} {s0 t : State} {L : List Loc} {r v : Option Value} {a : Array Value} (e0 : s0.heap = H) (hq : am_Qc D cI b sa r h' a s0 (.returned v) t) (hL : ∀ q ∈ L, am_A b q.base) (hlen : h'.length = h.length + mc) : am_Cf D cI b sa h0 s h' t.heap (locs ++ L) (cu + mc) := by
  refine ⟨hq.2.1, ⟨?_, ?_, ?_⟩, hC.2.2.1, by rw [hlen, ← hC.2.2.2]; omega⟩
  · have := hq.2.2.1
    rw [e0] at this
    exact Nat.le_trans hC.2.1.1 this
  · intro q h1 h2
    have := hq.2.2.2 q (by rw [e0]; exact Nat.lt_of_lt_of_le h1 hC.2.1.1) h2
    rw [this, e0]
    exact hC.2.1.2.1 q h1 h2
  · intro q h1
    rcases List.mem_append.mp h1 with h2 | h2
    · exact hC.2.1.2.2 q h2
    · exact hL q h2
theorem am_rev (as rest : List Value) (f : Value → Value) : (as.reverse ++ rest).map f = (as.map f).reverse ++ rest.map f := by simp
theorem am_ca_ok (F : am_Fr D cI b sa sv M p s m args meth c) (hR : R = M.2.2.2.2.2.2.2) (hC : am_Cf D cI b sa h0 s h H locs cu) (hsz : cls.size = M.2.2.2.1) {i : Instr} (hd : decode M.2.2.1 pc = .ok (i, am_len i)) {z : Nat × List Value × List Value} (hz : am_ca M.1 i st h = some z) {Y : am_M} (hY : am_ms[z.1]? = some Y) (hl : z.1 < 170) (hrc : am_rc M Y z.2.2 cu su = true) {r : Option Value} (hM : am_Met l D cI b sa sv Y z.2.1 h r h') (hlen : h'.length = h.length + Y.2.2.2.2.2.2.2.cells)
    (kk : ∀ H' locs', am_Cf D cI b sa h0 s h' H' locs' (cu + Y.2.2.2.2.2.2.2.cells) → W p l e R s m args below meth c H' locs' (cu + Y.2.2.2.2.2.2.2.cells) (su + Y.2.2.2.2.2.2.2.slots) Q (F0 m (pc + 3) cls ((r.toList ++ z.2.2).map (am_v b sa)))) : W p l e R s m args below meth c H locs cu su Q (F0 m pc cls (st.map (am_v b sa))) := by
  subst hR
  obtain ⟨hx, hb, hml, hown, hts, hG, hin⟩ := F
  obtain ⟨y1, y2, y3, y4, y5, y6, y7, y8, y9, y10, y11, y12⟩ := am_m_ok hY hl
  have hgood := am_good hY hl
  obtain ⟨r1, r2, r3, r4, r5⟩ := of_decide_eq_true hrc
  have goes : ∀ {Q0 : Array Value} {st0 : List Value}, va_Run p l e M.2.2.2.2.2.2.2 s m args below meth c H locs cu su Y.2.2.2.2.2.2.2.cells Y.2.2.2.2.2.2.2.slots (F0 m pc cls st0) (z.2.2.map (am_v b sa)) (am_Qc D cI b sa r h' Q0) (am_A b) → W p l e M.2.2.2.2.2.2.2 s m args below meth c H locs cu su Q (F0 m pc cls st0) := by
    intro Q0 st0 hrun
    refine am_callW hrun (fun v s0 t L e0 hq hL => ?_)
    have hv : v = r.map (am_v b sa) := by have := hq.1; cases this; rfl
    have k2 := kk t.heap (locs ++ L) (hC.back e0 hq hL hlen)
    rw [List.map_append] at k2
    have e3 : r.toList.map (am_v b sa) = v.toList := by rw [hv]; cases r <;> rfl
    rw [e3] at k2
    exact k2
  refine am_size (fun hzz => ?_)
  have hroom : 2 * (F0 m pc cls (st.map (am_v b sa))).monitorRoom + ((z.2.2.map (am_v b sa)).map fun v => v.category).sum ≤ 8 := by
    rw [am_cs_map]
    show 2 * 0 + _ ≤ 8
    omega
  unfold am_ca at hz
  split at hz
  · obtain ⟨q, h1, h2⟩ := Option.bind_eq_some_iff.mp hz
    split at h2
    · rename_i hq1
      obtain ⟨Y', h3, h4⟩ := Option.bind_eq_some_iff.mp h2
      split at h4
      · rename_i hk
        cases h4
        cases h3.symm.trans hY
        have hst : st.map (am_v b sa) = (((st.take Y.2.2.2.2.2.2.1).reverse.map (am_v b sa)).reverse) ++ (st.drop Y.2.2.2.2.2.2.1).map (am_v b sa) := by
          rw [← am_rev, List.reverse_reverse, List.take_append_drop]
        have hn : ((st.take Y.2.2.2.2.2.2.1).reverse.map (am_v b sa)).length = Y.2.2.2.2.2.2.1 := by simp; omega
        rcases am_ml_ok h1 with ⟨q0, M2, q1, q2, q3⟩ | ⟨q0, M2, q1, q2, q3⟩ | ⟨q0, -⟩ | ⟨q0, -⟩ | ⟨q0, -⟩ | ⟨q0, -⟩
        · cases q1.symm.trans hY
          exact goes (va_runS ⟨hx, hb, hml, hown, hts⟩ hM ⟨callB_of _ hts hgood rfl rfl rfl (hts _ y2) (hts _ q3) ⟨y9.1, y9.2, y7⟩ ⟨r1, r2⟩, hts _ (y3 hk.1)⟩ ⟨am_blind, hC.pre hG hzz _⟩ rfl hn hsz hst hroom hd ⟨r3, r4⟩)
        · cases q1.symm.trans hY
          exact goes (va_runSN ⟨hx, hb, hml, hown, hts⟩ hM ⟨va_cnB _ hts hgood rfl rfl rfl (hG.2.2.2.2.2 _ q3) (hts _ y2) ⟨y9.1, y9.2, y7⟩ ⟨r1, r2⟩, hts _ (y3 hk.1), trivial⟩ ⟨am_blind, hC.pre hG hzz _⟩ rfl hn hsz hst hroom hd ⟨r3, r4⟩)
        · omega
        · omega
        · omega
        · omega
      · cases h4
    · cases h2
  · obtain ⟨q, h1, h2⟩ := Option.bind_eq_some_iff.mp hz
    split at h2
    · rename_i hq1
      obtain ⟨Y', h3, h4⟩ := Option.bind_eq_some_iff.mp h2
      split at h4
      · rename_i hk
        split at h4
        · rename_i a rr hdrop
          split at h4
          · rename_i cc fs ha
            split at h4
            · rename_i hcc
              cases h4
              cases h3.symm.trans hY
              subst hcc
              have hst : st.map (am_v b sa) = (((st.take Y.2.2.2.2.2.2.1).reverse.map (am_v b sa)).reverse) ++ .ref (b + a) :: rr.map (am_v b sa) := by
                have e1 : st.map (am_v b sa) = (((st.take Y.2.2.2.2.2.2.1).reverse.map (am_v b sa)).reverse) ++ (st.drop Y.2.2.2.2.2.2.1).map (am_v b sa) := by
                  rw [← am_rev, List.reverse_reverse, List.take_append_drop]
                rw [hdrop] at e1
                exact e1
              have hn : ((st.take Y.2.2.2.2.2.2.1).reverse.map (am_v b sa)).length = Y.2.2.2.2.2.2.1 := by simp; omega
              obtain ⟨rc, hrc2⟩ : ∃ rc, vwCl[Y.1]? = some rc := ⟨_, List.getElem?_eq_getElem (by show Y.1 < 10; exact y12)⟩
              have hrecv := va_recv hG.1 hC.1 hrc2 (am_ws_get ha)
              rw [am_ownC hrc2, ← y6] at hrecv
              rcases am_ml_ok h1 with ⟨q0, M2, q1, q2, q3⟩ | ⟨q0, M2, q1, q2, q3⟩ | ⟨q0, -⟩ | ⟨q0, -⟩ | ⟨q0, -⟩ | ⟨q0, -⟩
              · cases q1.symm.trans hY
                exact goes (va_runV (C := Y.2.1.cls) ⟨hx, hb, hml, hown, hts⟩ hM ⟨callB_of _ hts hgood rfl rfl rfl (hts _ y2) (hts _ q3) ⟨y9.1, y9.2, y7⟩ ⟨r1, r2⟩, hts _ (y4 (by omega)), hts _ (y5 hk.1)⟩ ⟨am_blind, hrecv, hC.pre hG hzz (.ref a :: _)⟩ rfl hn hsz hst hroom hd ⟨r3, r4⟩)
              · cases q1.symm.trans hY
                exact goes (va_runVN (C := Y.2.1.cls) ⟨hx, hb, hml, hown, hts⟩ hM ⟨va_cnB _ hts hgood rfl rfl rfl (hG.2.2.2.2.2 _ q3) (hts _ y2) ⟨y9.1, y9.2, y7⟩ ⟨r1, r2⟩, hts _ (y4 (by omega)), hts _ (y5 hk.1)⟩ ⟨am_blind, hrecv, hC.pre hG hzz (.ref a :: _)⟩ rfl hn hsz hst hroom hd ⟨r3, r4⟩)
              · omega
              · omega
              · omega
              · omega
            · cases h4
          · cases h4
        · cases h4
      · cases h4
    · cases h2
  · obtain ⟨q, h1, h2⟩ := Option.bind_eq_some_iff.mp hz
    split at h2
    · rename_i hq1
      obtain ⟨Y', h3, h4⟩ := Option.bind_eq_some_iff.mp h2
      split at h4
      · rename_i hk
        split at h4
        · rename_i a rr hdrop
          cases h4
          cases h3.symm.trans hY
          have hst : st.map (am_v b sa) = (((st.take Y.2.2.2.2.2.2.1).reverse.map (am_v b sa)).reverse) ++ .ref (b + a) :: rr.map (am_v b sa) := by
            have e1 : st.map (am_v b sa) = (((st.take Y.2.2.2.2.2.2.1).reverse.map (am_v b sa)).reverse) ++ (st.drop Y.2.2.2.2.2.2.1).map (am_v b sa) := by
              rw [← am_rev, List.reverse_reverse, List.take_append_drop]
            rw [hdrop] at e1
            exact e1
          have hn : ((st.take Y.2.2.2.2.2.2.1).reverse.map (am_v b sa)).length = Y.2.2.2.2.2.2.1 := by simp; omega
          have hnone := (y10 hk.1).2
          rcases am_ml_ok h1 with ⟨q0, M2, q1, q2, q3⟩ | ⟨q0, M2, q1, q2, q3⟩ | ⟨q0, -⟩ | ⟨q0, -⟩ | ⟨q0, -⟩ | ⟨q0, -⟩
          · cases q1.symm.trans hY
            have hgood2 : am_wsM Y = Cond.code Y.2.1 Y.2.2.1 Y.2.2.2.1 none :: am_TB := by unfold am_wsM; rw [hnone]
            exact goes (va_runI ⟨hx, hb, hml, hown, hts⟩ hM ⟨callB_of _ hts hgood hgood2 rfl rfl (hts _ y2) (hts _ q3) ⟨y9.1, y9.2, y7⟩ ⟨r1, r2⟩, (y10 hk.1).1, hts _ (y4 (by omega))⟩ ⟨am_blind, hC.pre hG hzz (.ref a :: _)⟩ rfl hn hsz hst hroom hd ⟨r3, r4⟩)
          · cases q1.symm.trans hY
            have hgood2 : am_wsM Y = Cond.code Y.2.1 Y.2.2.1 Y.2.2.2.1 none :: am_TB := by unfold am_wsM; rw [hnone]
            exact goes (va_runIN ⟨hx, hb, hml, hown, hts⟩ hM ⟨va_cnB _ hts hgood hgood2 rfl rfl (hG.2.2.2.2.2 _ q3) (hts _ y2) ⟨y9.1, y9.2, y7⟩ ⟨r1, r2⟩, (y10 hk.1).1, hts _ (y4 (by omega))⟩ ⟨am_blind, hC.pre hG hzz (.ref a :: _)⟩ rfl hn hsz hst hroom hd ⟨r3, r4⟩)
          · omega
          · omega
          · omega
          · omega
        · cases h4
      · cases h4
    · cases h2
  · cases hz
end AMD
