/-! THE RUN IS THE MACHINE's -/
def am_cast {l : Launch} {D : va_G} {cI : ClassId} {b : Nat} {sa : Nat → Nat} {sv : am_V} (n : Nat) : Prop :=
  ∀ {mi : Nat} {M : am_M} {pc : Nat} {ls st : List Value} {h : am_H} {cu su : Nat} {u : Option Value × am_H}, am_ms[mi]? = some M → am_run sv n mi pc ls st h cu su = some u →
  ∀ {p : Program} {e : Env} {s : State} {m : MethodId} {args : Array Value} {below : List Frame} {meth : Method} {c : Code} {Q : State → Prop} {H : Heap} {locs : List Loc} {cls : Array Slot} {h0 : Nat},
  am_Fr D cI b sa sv M p s m args meth c → am_L M.2.2.2.1 b sa cls ls → am_Cf D cI b sa h0 s h H locs cu →
  (∀ (H' : Heap) (locs' : List Loc) (cls' : Array Slot) (pc' : Nat) (i : Instr) (len : Nat) (st' : List Value), decode M.2.2.1 pc' = .ok (i, len) → am_rt M.2.2.2.2.1 i len st' = some u.1 → am_Cf D cI b sa h0 s u.2 H' locs' M.2.2.2.2.2.2.2.cells → W p l e M.2.2.2.2.2.2.2 s m args below meth c H' locs' M.2.2.2.2.2.2.2.cells M.2.2.2.2.2.2.2.slots Q (F0 m pc' cls' (st'.map (am_v b sa)))) →
  W p l e M.2.2.2.2.2.2.2 s m args below meth c H locs cu su Q (F0 m pc cls (st.map (am_v b sa)))
theorem am_met_of {l : Launch} {D : va_G} {cI : ClassId} {b : Nat} {sa : Nat → Nat} {sv : am_V} {n : Nat} (ih : am_cast (l := l) (D := D) (cI := cI) (b := b) (sa := sa) (sv := sv) n) {mi : Nat} {Y : am_M} (hY : am_ms[mi]? = some Y) (hl : mi < 170) {as : List Value} {h : am_H} {u : Option Value × am_H} (hlen : (am_sl as).length ≤ Y.2.2.2.1) (hrun : am_run sv n mi 0 (am_ini Y.2.2.2.1 as) [] h 0 0 = some u) : am_Met l D cI b sa sv Y as h u.1 u.2 := by
  obtain ⟨y1, y2, y3, y4, y5, y6, y7, y8, y9, y10, y11, y12⟩ := am_m_ok hY hl
  refine Met.ofW (cc := Y.2.2.1) (maxL := Y.2.2.2.1) (ret := Y.2.2.2.2.1) y8 rfl ?_
  intro p e s m args below meth c s₁ B hml hv
  obtain ⟨rfl, hsz, hP, hG⟩ := hv
  have hts := atoms_spec (ws := am_wsM Y) B.pre
  have hown : s.vm.findClass Y.2.1.cls = some m.cls := findClass_of_methodNamed B.named
  have hlocks := B.notSynchronized
  have hx := B.exec
  have hb := B.bytes
  have hr := B.returns
  rw [lg_entry_eq]
  refine ih hY hrun (h0 := h.length) ⟨hx, hb, hml, by rw [← y6]; exact hown, fun w hw => hts w (List.mem_cons_of_mem _ hw), hG, fun hk => ((name_of_methodNamed B.named B.method).1).trans (y10 hk).1⟩ (am_ini_L hlen) ⟨hP, va_S.rf, hsz, rfl⟩ ?_
  intro H' locs' cls' pc' i len st' hd hrt hC
  unfold am_rt at hrt
  split at hrt
  · rename_i x
    split at hrt
    · rename_i hl1
      subst hl1
      split at hrt
      · rename_i hrty
        have hu : u.1 = some (.int x) := (Option.some.inj hrt).symm
        exact W.iret hx hb (hr.trans hrty) (fun t ht hW => ⟨by rw [hu]; rfl, by rw [ht]; exact hC.1, hC.2.1.F ht⟩) hC.2.1.2.2 hd
      · rename_i hrty
        split at hrt
        · rename_i hx01
          have hu : u.1 = some (.int x) := (Option.some.inj hrt).symm
          exact W.zret hx hb (hr.trans hrty) (by rcases hx01 with rfl | rfl <;> rfl) (fun t ht hW => ⟨by rw [hu]; rfl, by rw [ht]; exact hC.1, hC.2.1.F ht⟩) hC.2.1.2.2 hd
        · cases hrt
      · cases hrt
    · cases hrt
  · split at hrt
    · rename_i hl1
      obtain ⟨rfl, hrty⟩ := hl1
      have hu : u.1 = none := (Option.some.inj hrt).symm
      exact W.vret hx hb (hr.trans hrty) (fun t ht hW => ⟨by rw [hu]; rfl, by rw [ht]; exact hC.1, hC.2.1.F ht⟩) hC.2.1.2.2 hd
    · cases hrt
  · cases hrt
theorem am_sound {l : Launch} {D : va_G} {cI : ClassId} {b : Nat} {sa : Nat → Nat} {sv : am_V} : ∀ n : Nat, am_cast (l := l) (D := D) (cI := cI) (b := b) (sa := sa) (sv := sv) n := by
  intro n
  induction n with
  | zero =>
    intro mi M pc ls st h cu su u hM hr
    cases hr
  | succ n ih =>
    intro mi M pc ls st h cu su u hM hr p e s m args below meth c Q H locs cls h0 F hL hC hret
    obtain ⟨M', q, w, hM', hq, hs, hw⟩ := am_run_inv hr
    cases hM.symm.trans hM'
    obtain ⟨i, len⟩ := q
    obtain ⟨hx, hb, hml, hown, hts, hG, hin⟩ := id F
    rcases am_step_inv hs with ⟨q, h4, h5⟩ | ⟨v, h4, h5⟩ | ⟨hlen, ⟨q, h4, h5⟩ | ⟨s2, h4, h5⟩ | ⟨s2, h4, h5⟩ | ⟨q, h4, h5⟩ | ⟨q, h4, h5⟩⟩
    · subst h5
      rcases hw with ⟨z, hz, h1⟩ | ⟨v, hz, h1⟩ | ⟨z, Y, u1, hz, h1⟩
      · cases hz
        exact am_br_ok hx hb hq h4 (ih hM h1 F hL hC hret)
      · cases hz
      · cases hz
    · subst h5
      rcases hw with ⟨z, hz, h1⟩ | ⟨v2, hz, h1, h2, rfl⟩ | ⟨z, Y, u1, hz, h1⟩
      · cases hz
      · cases hz
        subst h1
        subst h2
        exact hret H locs cls pc i len st hq h4 hC
      · cases hz
    · subst h5
      simp only at hlen hq
      subst hlen
      rcases hw with ⟨z, hz, h1⟩ | ⟨v, hz, h1⟩ | ⟨z, Y, u1, hz, h1⟩
      · cases hz
        exact am_pu_ok hx hb hown hts hq hL h4 (fun cls' hL' => ih hM h1 F hL' hC hret)
      · cases hz
      · cases hz
    · subst h5
      simp only at hlen hq
      subst hlen
      rcases hw with ⟨z, hz, h1⟩ | ⟨v, hz, h1⟩ | ⟨z, Y, u1, hz, h1⟩
      · cases hz
        exact am_ai_ok hx hb hq h4 (ih hM h1 F hL hC hret)
      · cases hz
      · cases hz
    · subst h5
      simp only at hlen hq
      subst hlen
      rcases hw with ⟨z, hz, h1⟩ | ⟨v, hz, h1⟩ | ⟨z, Y, u1, hz, h1⟩
      · cases hz
        exact am_al_ok hx hb hq h4 (ih hM h1 F hL hC hret)
      · cases hz
      · cases hz
    · subst h5
      simp only at hlen hq
      subst hlen
      rcases hw with ⟨z, hz, h1⟩ | ⟨v, hz, h1⟩ | ⟨z, Y, u1, hz, h1⟩
      · cases hz
        exact am_hp_ok F hC hL.1 hq h4 (fun H' locs' hC' => ih hM h1 F hL hC' hret)
      · cases hz
      · cases hz
    · subst h5
      simp only at hlen hq
      subst hlen
      rcases hw with ⟨z, hz, h1⟩ | ⟨v, hz, h1⟩ | ⟨z, Y, u1, hz, hY, hc, h1, h2⟩
      · cases hz
      · cases hz
      · cases hz
        have hlen2 := am_run_len n h1 hY
        exact am_ca_ok F rfl hC hL.1 hq h4 hY hc.1 hc.2.2 (am_met_of ih hY hc.1 hc.2.1 h1) (by simp only [Nat.add_zero] at hlen2; exact hlen2) (fun H' locs' hC' => ih hM h2 F hL hC' hret)
