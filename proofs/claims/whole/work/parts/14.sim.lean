/-! a step of the abstract machine is a step of the machine: numbers, locals, arithmetic, branches -/
section AMS
variable {p : Program} {l : Launch} {e : Env} {R : Room} {s : State} {m : MethodId} {args : Array Value} {below : List Frame} {meth : Method} {c : Code} {H : Heap} {locs : List Loc} {cells slots : Nat} {Q : State → Prop}
variable {cc : ByteArray} {pc nL b : Nat} {sa : Nat → Nat} {cls : Array Slot} {ls ls' st st' : List Value} {oc : Nat}
theorem am_L.at {nL b : Nat} {sa : Nat → Nat} {cls : Array Slot} {ls : List Value} (h : am_L nL b sa cls ls) {k : Nat} {v : Value} (hk : ls[k]? = some v) (hv : v ≠ .null) : cls[k]? = some (.val (am_v b sa v)) := h.2.2.2 k v hk hv
theorem am_ldi_inv {k : Nat} (h : am_ldi ls k st = some (ls', st')) : ∃ x, ls[k]? = some (.int x) ∧ ls' = ls ∧ st' = .int x :: st := by
  unfold am_ldi at h
  split at h
  · rename_i x hx
    cases h
    exact ⟨x, hx, rfl, rfl⟩
  · cases h
theorem am_ldl_inv {k : Nat} (h : am_ldl ls k st = some (ls', st')) : ∃ x, ls[k]? = some (.long x) ∧ ls' = ls ∧ st' = .long x :: st := by
  unfold am_ldl at h
  split at h
  · rename_i x hx
    cases h
    exact ⟨x, hx, rfl, rfl⟩
  · cases h
theorem am_lda_inv {k : Nat} (h : am_lda ls k st = some (ls', st')) : ∃ v a, ls[k]? = some v ∧ v ≠ .null ∧ am_v b sa v = .ref a ∧ ls' = ls ∧ st' = v :: st := by
  unfold am_lda at h
  split at h
  · rename_i x hx
    cases h
    exact ⟨.ref x, b + x, hx, by simp, rfl, rfl, rfl⟩
  · rename_i x hx
    cases h
    exact ⟨.float x, sa x.toNat, hx, by simp, rfl, rfl, rfl⟩
  · cases h
theorem am_sti_inv {k : Nat} (h : am_sti ls k st = some (ls', st')) : ∃ x, st = .int x :: st' ∧ k < ls.length ∧ am_c1 ls k = true ∧ ls' = ls.set k (.int x) := by
  unfold am_sti at h
  split at h
  · rename_i x r
    split at h
    · rename_i hc
      cases h
      exact ⟨x, rfl, hc.1, hc.2, rfl⟩
    · cases h
  · cases h
theorem am_stl_inv {k : Nat} (h : am_stl ls k st = some (ls', st')) : ∃ x, st = .long x :: st' ∧ k + 1 < ls.length ∧ am_c1 ls k = true ∧ ls' = (ls.set k (.long x)).set (k + 1) .null := by
  unfold am_stl at h
  split at h
  · rename_i x r
    split at h
    · rename_i hc
      cases h
      exact ⟨x, rfl, hc.1, hc.2, rfl⟩
    · cases h
  · cases h
theorem am_sta_inv {k : Nat} (h : am_sta ls k st = some (ls', st')) : ∃ x, st = .ref x :: st' ∧ k < ls.length ∧ am_c1 ls k = true ∧ ls' = ls.set k (.ref x) := by
  unfold am_sta at h
  split at h
  · rename_i x r
    split at h
    · rename_i hc
      cases h
      exact ⟨x, rfl, hc.1, hc.2, rfl⟩
    · cases h
  · cases h
theorem am_inc_inv {k : Nat} {d : Int} (h : am_inc ls k d st = some (ls', st')) : ∃ x, ls[k]? = some (.int x) ∧ am_c1 ls k = true ∧ ls' = ls.set k (.int (x + Int32.ofInt d)) ∧ st' = st := by
  unfold am_inc at h
  split at h
  · rename_i x hx
    split at h
    · rename_i hc
      cases h
      exact ⟨x, hx, hc, rfl, rfl⟩
    · cases h
  · cases h
theorem am_pu_ok (hx : p.tables.exec = Jvm.exec) (hb : c.code = cc) (hown : s.vm.findClass (am_own oc) = some m.cls) (hts : ∀ w ∈ am_TB, w.before args s = true) {i : Instr} (hd : decode cc pc = .ok (i, am_len i)) (hL : am_L nL b sa cls ls) (h : am_pu oc i ls st = some (ls', st'))
    (k : ∀ cls', am_L nL b sa cls' ls' → W p l e R s m args below meth c H locs cells slots Q (F0 m (pc + am_len i) cls' (st'.map (am_v b sa)))) : W p l e R s m args below meth c H locs cells slots Q (F0 m pc cls (st.map (am_v b sa))) := by
  unfold am_pu at h
  split at h
  · cases h; exact lv_iconst hx hb hd rfl (k _ hL)
  · cases h; exact lv_bipush hx hb hd rfl (k _ hL)
  · cases h; exact lv_sipush hx hb hd rfl (k _ hL)
  · cases h; exact lv_lconst hx hb hd rfl (k _ hL)
  · obtain ⟨v, h1, h2⟩ := Option.map_eq_some_iff.mp h
    cases h2
    exact lv_ldc hx hb hown (hts _ (am_ci_ok h1)) hd (k _ hL)
  · obtain ⟨v, h1, h2⟩ := Option.map_eq_some_iff.mp h
    cases h2
    exact lv_ldc2 hx hb hown (hts _ (am_cl_ok h1)) hd (k _ hL)
  · obtain ⟨x, h1, rfl, rfl⟩ := am_ldi_inv h
    exact lv_iload_n hx hb hd rfl (hL.at h1 (by simp)) (k _ hL)
  · obtain ⟨x, h1, rfl, rfl⟩ := am_ldi_inv h
    exact lv_iload hx hb hd (hL.at h1 (by simp)) (k _ hL)
  · obtain ⟨x, h1, rfl, rfl⟩ := am_ldl_inv h
    exact lv_lload_n hx hb hd rfl (hL.at h1 (by simp)) (k _ hL)
  · obtain ⟨x, h1, rfl, rfl⟩ := am_ldl_inv h
    exact lv_lload hx hb hd (hL.at h1 (by simp)) (k _ hL)
  · obtain ⟨v, a, h1, hn, h2, rfl, rfl⟩ := am_lda_inv (b := b) (sa := sa) h
    have h3 := hL.at h1 hn
    rw [h2] at h3
    refine lv_aload_n hx hb hd rfl h3 ?_
    have h4 := k _ hL
    rw [List.map_cons, h2] at h4
    exact h4
  · obtain ⟨x, rfl, h1, h2, rfl⟩ := am_sti_inv h
    exact lv_istore_n hx hb hd rfl hL.has (Nat.lt_of_lt_of_le h1 hL.2.2.1) rfl (fun ls' hl => k _ (am_L.st1 (v := .int x) hL.2.2.1 h2 hl))
  · obtain ⟨x, rfl, h1, h2, rfl⟩ := am_sti_inv h
    exact lv_istore hx hb hd hL.has (Nat.lt_of_lt_of_le h1 hL.2.2.1) rfl (fun ls' hl => k _ (am_L.st1 (v := .int x) hL.2.2.1 h2 hl))
  · obtain ⟨x, rfl, h1, h2, rfl⟩ := am_stl_inv h
    exact lv_lstore hx hb hd hL.has (Nat.lt_of_lt_of_le h1 hL.2.2.1) rfl (fun ls' hl => k _ (am_L.st2 (v := .long x) hL.2.2.1 h2 hl))
  · obtain ⟨x, rfl, h1, h2, rfl⟩ := am_sta_inv h
    exact lv_astore_n hx hb hd rfl hL.has (Nat.lt_of_lt_of_le h1 hL.2.2.1) rfl (fun ls' hl => k _ (am_L.st1 (v := .ref x) hL.2.2.1 h2 hl))
  · obtain ⟨x, h1, h2, rfl, rfl⟩ := am_inc_inv h
    obtain ⟨q, hq⟩ := List.getElem?_of_mem (am_ps_mem (b := b) (sa := sa) h1 (by simp))
    exact lv_iinc hx hb hd hL.has hq rfl (Nat.lt_of_lt_of_le (List.getElem?_eq_some_iff.mp h1).1 hL.2.2.1) rfl (fun ls' hl => k _ (am_L.st1 (v := .int _) hL.2.2.1 h2 hl))
  · cases h
theorem am_ai_ok (hx : p.tables.exec = Jvm.exec) (hb : c.code = cc) {i : Instr} (hd : decode cc pc = .ok (i, am_len i)) (h : am_ai i st = some st')
    (k : W p l e R s m args below meth c H locs cells slots Q (F0 m (pc + am_len i) cls (st'.map (am_v b sa)))) : W p l e R s m args below meth c H locs cells slots Q (F0 m pc cls (st.map (am_v b sa))) := by
  unfold am_ai at h
  split at h
  · cases h; exact lv_iadd hx hb hd k
  · cases h; exact lv_isub hx hb hd k
  · cases h; exact lv_imul hx hb hd k
  · split at h
    · cases h
    · rename_i hy; cases h; exact lv_idiv hx hb hd hy k
  · split at h
    · cases h
    · rename_i hy; cases h; exact lv_irem hx hb hd hy k
  · cases h; exact lv_iand hx hb hd k
  · cases h; exact lv_ior hx hb hd k
  · cases h; exact lv_ixor hx hb hd k
  · cases h; exact lv_ishl hx hb hd k
  · cases h; exact lv_ishr hx hb hd k
  · cases h; exact lv_ineg hx hb hd k
  · cases h; exact lv_i2l hx hb hd rfl k
  · cases h; exact lv_i2b hx hb hd rfl k
  · cases h; exact lv_i2s hx hb hd rfl k
  · cases h
theorem am_al_ok (hx : p.tables.exec = Jvm.exec) (hb : c.code = cc) {i : Instr} (hd : decode cc pc = .ok (i, am_len i)) (h : am_al i st = some st')
    (k : W p l e R s m args below meth c H locs cells slots Q (F0 m (pc + am_len i) cls (st'.map (am_v b sa)))) : W p l e R s m args below meth c H locs cells slots Q (F0 m pc cls (st.map (am_v b sa))) := by
  unfold am_al at h
  split at h
  · cases h; exact lv_ladd hx hb hd k
  · cases h; exact lv_lsub hx hb hd k
  · cases h; exact lv_lmul hx hb hd k
  · split at h
    · cases h
    · rename_i hy; cases h; exact lv_ldiv hx hb hd hy k
  · split at h
    · cases h
    · rename_i hy; cases h; exact lv_lrem hx hb hd hy k
  · cases h; exact lv_land hx hb hd k
  · cases h; exact lv_lor hx hb hd k
  · cases h; exact lv_lshl hx hb hd rfl k
  · cases h; exact lv_lshr hx hb hd rfl k
  · cases h; exact W.lcmp hx hb hd k
  · cases h; exact lv_l2i hx hb hd rfl k
  · split at h
    · rename_i hv; cases h; exact lv_dup hx hb hd (by rw [am_v_cat]; exact hv) k
    · cases h
  · split at h
    · rename_i hv; cases h; exact lv_pop hx hb hd (by rw [am_v_cat]; exact hv) k
    · cases h
  · split at h
    · rename_i hv; cases h; exact lv_dup2_11 hx hb hd (by rw [am_v_cat]; exact hv.1) (by rw [am_v_cat]; exact hv.2) k
    · cases h
  · cases h
theorem am_if_inv {t : Bool} {off : Int} {pc' : Nat} {r : List Value} (h : am_if t pc off r = some (pc', st')) : (pc : Int) + off = ((((pc : Int) + off).toNat : Nat) : Int) ∧ pc' = (if t then ((pc : Int) + off).toNat else pc + 3) ∧ st' = r := by
  unfold am_if at h
  split at h
  · rename_i h0
    cases h
    exact ⟨(Int.toNat_of_nonneg h0).symm, rfl, rfl⟩
  · cases h
theorem am_sw_ok (hx : p.tables.exec = Jvm.exec) (hb : c.code = cc) {dflt lo hi : Int} {offs : Array Int} {len pc' : Nat} {x : Int32} {r : List Value} (hd : decode cc pc = .ok (.tableswitch dflt lo hi offs, len)) (h : am_sw pc dflt lo hi offs x r = some (pc', st'))
    (k : W p l e R s m args below meth c H locs cells slots Q (F0 m pc' cls (st'.map (am_v b sa)))) : W p l e R s m args below meth c H locs cells slots Q (F0 m pc cls (.int x :: r.map (am_v b sa))) := by
  unfold am_sw at h
  split at h
  · rename_i ho
    split at h
    · rename_i h0
      cases h
      exact lv_tableOut hx hb hd ho (Int.toNat_of_nonneg h0).symm k
    · cases h
  · rename_i ho
    split at h
    · rename_i off hoff
      split at h
      · rename_i h0
        cases h
        exact lv_tableIn hx hb hd (fun q => ho (Or.inl q)) (fun q => ho (Or.inr q)) hoff (Int.toNat_of_nonneg h0).symm k
      · cases h
    · cases h
theorem am_br_ok (hx : p.tables.exec = Jvm.exec) (hb : c.code = cc) {i : Instr} {len pc' : Nat} (hd : decode cc pc = .ok (i, len)) (h : am_br i pc len st = some (pc', st'))
    (k : W p l e R s m args below meth c H locs cells slots Q (F0 m pc' cls (st'.map (am_v b sa)))) : W p l e R s m args below meth c H locs cells slots Q (F0 m pc cls (st.map (am_v b sa))) := by
  unfold am_br at h
  split at h
  · split at h
    · rename_i h3
      subst h3
      obtain ⟨h1, rfl, rfl⟩ := am_if_inv h
      exact lv_goto hx hb hd h1 k
    · cases h
  · rename_i cd off x r
    split at h
    · rename_i h3
      subst h3
      obtain ⟨h1, rfl, rfl⟩ := am_if_inv h
      cases cd with
      | eq => exact lv_if_eq hx hb hd h1 (fun q => by simpa [am_z, q] using k) (fun q => by simpa [am_z, q] using k)
      | ne => exact lv_if_ne hx hb hd h1 (fun q => by simpa [am_z, q] using k) (fun q => by simpa [am_z, q] using k)
      | lt => exact lv_if_lt hx hb hd h1 (fun q => by simpa [am_z, q] using k) (fun q => by simpa [am_z, q] using k)
      | ge => exact lv_if_ge hx hb hd h1 (fun q => by simpa [am_z, q] using k) (fun q => by simpa [am_z, q] using k)
      | gt => exact lv_if_gt hx hb hd h1 (fun q => by simpa [am_z, q] using k) (fun q => by simpa [am_z, q] using k)
      | le => exact lv_if_le hx hb hd h1 (fun q => by simpa [am_z, q] using k) (fun q => by simpa [am_z, q] using k)
    · cases h
  · rename_i cd off y x r
    split at h
    · rename_i h3
      subst h3
      obtain ⟨h1, rfl, rfl⟩ := am_if_inv h
      cases cd with
      | eq => exact lv_icmp_eq hx hb hd h1 (fun q => by simpa [am_z, q] using k) (fun q => by simpa [am_z, q] using k)
      | ne => exact lv_icmp_ne hx hb hd h1 (fun q => by simpa [am_z, q] using k) (fun q => by simpa [am_z, q] using k)
      | lt => exact lv_icmp_lt hx hb hd h1 (fun q => by simpa [am_z, q] using k) (fun q => by simpa [am_z, q] using k)
      | ge => exact lv_icmp_ge hx hb hd h1 (fun q => by simpa [am_z, q] using k) (fun q => by simpa [am_z, q] using k)
      | gt => exact lv_icmp_gt hx hb hd h1 (fun q => by simpa [am_z, q] using k) (fun q => by simpa [am_z, q] using k)
      | le => exact lv_icmp_le hx hb hd h1 (fun q => by simpa [am_z, q] using k) (fun q => by simpa [am_z, q] using k)
    · cases h
  · exact am_sw_ok hx hb hd h k
  · cases h
end AMS
