/-! a step of the abstract machine is a step of the machine: the heap -/
def am_A (b : Nat) : Nat → Prop := fun q => b ≤ q
/-- what holds of a state whatever the law has done: the classes, the static arrays, the nest's words -/
def am_G (D : va_G) (cI : ClassId) (b : Nat) (sa : Nat → Nat) (sv : am_V) (U : State) (H : Heap) : Prop :=
  va_K D vwCl [(cI, .int)] U ∧ (∀ t, t < 2 → va_Z "CoinNotThere" (am_gsn t).1 (am_gsn t).2 (.ref (sa t)) (am_A b) U H) ∧ va_T .int (sa 0) (sv 0).1 (fun j => .int ((sv 0).2 j)) (am_A b) U H ∧ va_T .char (sa 1) (sv 1).1 (fun j => .int ((sv 1).2 j)) (am_A b) U H ∧ va_T .int (sa 2) (sv 2).1 (fun j => .int ((sv 2).2 j)) (am_A b) U H ∧ ∀ w ∈ am_NW, va_Nw w U
theorem am_isN_on {w : Cond} (h : am_isN w = true) : w.onTables = true := by
  cases w <;> first | rfl | (simp [am_isN] at h; done)
theorem am_NW_warm {w : Cond} (hw : w ∈ am_NW) {s U : State} (hW : s.WarmedH U.vm) (h : va_Nw w s) : va_Nw w U := by
  have h1 := (List.mem_filter.mp hw).2
  cases w <;> first | (simp [am_isN] at h1; done) | exact va_Nw.warmF hW h | exact va_Nw.warmM hW h
theorem am_G.warm {D : va_G} {cI : ClassId} {b : Nat} {sa : Nat → Nat} {sv : am_V} {s U : State} {H : Heap} (hW : s.WarmedH U.vm) (h : am_G D cI b sa sv s H) : am_G D cI b sa sv U H :=
  ⟨va_K.moved hW.alike h.1, fun t ht => (h.2.1 t ht).moved hW.alike, h.2.2.1.moved hW.alike, h.2.2.2.1.moved hW.alike, h.2.2.2.2.1.moved hW.alike, fun w hw => am_NW_warm hw hW (h.2.2.2.2.2 w hw)⟩
theorem am_G.same {D : va_G} {cI : ClassId} {b : Nat} {sa : Nat → Nat} {sv : am_V} {s U : State} {H : Heap} (hW : s.vm = U.vm) (h : am_G D cI b sa sv s H) : am_G D cI b sa sv U H := by
  have ha : s.vm.Alike U.vm := by rw [hW]; exact Vm.Alike.refl _
  exact ⟨va_K.moved ha h.1, fun t ht => (h.2.1 t ht).moved ha, h.2.2.1.moved ha, h.2.2.2.1.moved ha, h.2.2.2.2.1.moved ha, fun w hw => (h.2.2.2.2.2 w hw).same (am_isN_on (List.mem_filter.mp hw).2) hW⟩
theorem am_G.kept {D : va_G} {cI : ClassId} {b : Nat} {sa : Nat → Nat} {sv : am_V} {s : State} {H H1 : Heap} (hq : ∀ a : Nat, a < H.size → ¬ am_A b a → H1[a]? = H[a]?) (h : am_G D cI b sa sv s H) : am_G D cI b sa sv s H1 :=
  ⟨h.1, fun t ht => (h.2.1 t ht).kept hq, h.2.2.1.kept hq, h.2.2.2.1.kept hq, h.2.2.2.2.1.kept hq, h.2.2.2.2.2⟩
/-- a frame of the method M -/
def am_Fr (D : va_G) (cI : ClassId) (b : Nat) (sa : Nat → Nat) (sv : am_V) (M : am_M) (p : Program) (s : State) (m : MethodId) (args : Array Value) (meth : Method) (c : Code) : Prop :=
  p.tables.exec = Jvm.exec ∧ c.code = M.2.2.1 ∧ c.maxLocals = M.2.2.2.1 ∧ s.vm.findClass (am_own M.1) = some m.cls ∧ (∀ w ∈ am_TB, w.before args s = true) ∧ am_G D cI b sa sv s s.heap ∧ (M.2.2.2.2.2.1 = 2 → meth.name = "<init>")
/-- the heap is as pictured; h0 cells stood when the method began -/
def am_Cf (D : va_G) (cI : ClassId) (b : Nat) (sa : Nat → Nat) (h0 : Nat) (s : State) (h : am_H) (H : Heap) (locs : List Loc) (cu : Nat) : Prop :=
  va_P D vwCl (am_ws b sa cI h) H ∧ va_S (am_A b) s.heap H locs ∧ s.heap.size = b + h0 ∧ h0 + cu = h.length
theorem am_cs_map {b : Nat} {sa : Nat → Nat} (st : List Value) : ((st.map (am_v b sa)).map fun v => v.category).sum = am_cs st := by
  rw [List.map_map]
  unfold am_cs
  congr 1
  apply List.map_congr_left
  intro v _
  exact am_v_cat b sa v
theorem am_ownC {ci : Nat} {r : vw_C} (h : vwCl[ci]? = some r) : r.1 = am_own ci := by
  have hl := am_lt10 h
  match ci, hl, h with
  | 0, _, h => cases h; rfl
  | 1, _, h => cases h; rfl
  | 2, _, h => cases h; rfl
  | 3, _, h => cases h; rfl
  | 4, _, h => cases h; rfl
  | 5, _, h => cases h; rfl
  | 6, _, h => cases h; rfl
  | 7, _, h => cases h; rfl
  | 8, _, h => cases h; rfl
  | 9, _, h => cases h; rfl
theorem am_vz_ok {ty : FieldType} {v : Value} {b : Nat} {sa : Nat → Nat} (h : am_vz ty v = true) : narrow ty (am_v b sa v) = am_v b sa v ∧ fits ty (am_v b sa v) = true := by
  unfold am_vz at h
  split at h
  · exact ⟨rfl, rfl⟩
  · exact ⟨rfl, rfl⟩
  · rename_i x
    simp only [Bool.or_eq_true, beq_iff_eq] at h
    rcases h with rfl | rfl
    · exact ⟨rfl, rfl⟩
    · exact ⟨rfl, rfl⟩
  · exact ⟨rfl, rfl⟩
  · exact ⟨rfl, rfl⟩
  · cases h
theorem am_in_vp {i : Int32} {n : Nat} (h : am_in i n = true) : vp_in i n := vp_in_iff.mpr (of_decide_eq_true h)
theorem am_nneg {i : Int32} (h : 0 ≤ i.toInt) : ¬ i < 0 := by
  intro q
  have := Int32.lt_iff_toInt_lt.mp q
  simp at this
  omega
section AMH
variable {p : Program} {l : Launch} {e : Env} {R : Room} {s : State} {m : MethodId} {args : Array Value} {below : List Frame} {meth : Method} {c : Code} {H : Heap} {locs : List Loc} {cu su : Nat} {Q : State → Prop}
variable {pc b h0 : Nat} {sa : Nat → Nat} {sv : am_V} {cls : Array Slot} {st st' : List Value} {D : va_G} {cI : ClassId} {M : am_M} {h h' : am_H}
theorem am_size {g : JFrame} (k : H.size ≤ s.heap.size + cu → W p l e R s m args below meth c H locs cu su Q g) : W p l e R s m args below meth c H locs cu su Q g := by
  intro T hT X
  have h1 := X.same.2.2.1
  have h2 : T.heap.size ≤ s.heap.size + cu := h1
  exact k (by rw [← hT]; exact h2) T hT X
theorem am_gf_ok (F : am_Fr D cI b sa sv M p s m args meth c) (hC : am_Cf D cI b sa h0 s h H locs cu) {k a ci sl : Nat} {r : List Value} (hd : decode M.2.2.1 pc = .ok (.getfield k, 3)) (hf : am_fl M.1 k = some (ci, sl)) (hg : am_gf h a ci sl r = some st')
    (kk : W p l e R s m args below meth c H locs cu su Q (F0 m (pc + 3) cls (st'.map (am_v b sa)))) : W p l e R s m args below meth c H locs cu su Q (F0 m pc cls ((.ref a :: r).map (am_v b sa))) := by
  obtain ⟨hx, hb, hml, hown, hts, hG, hin⟩ := F
  obtain ⟨rc, h1, h2, h3, h4⟩ := am_fl_ok hf
  unfold am_gf at hg
  split at hg
  · rename_i c' fs ha
    split at hg
    · rename_i hc
      subst hc
      split at hg
      · rename_i v hv
        cases hg
        exact va_get (D := D) hx hb hts (am_lay h1) hown hG.1 hC.1 a (am_ws_get ha) h1 sl h2 (hts _ h3) (fun _ h9 => h9) (v := am_v b sa v) (by rw [List.getElem?_map, hv]; rfl) hd kk
      · cases hg
    · cases hg
  · cases hg
theorem am_pf_ok (F : am_Fr D cI b sa sv M p s m args meth c) (hC : am_Cf D cI b sa h0 s h H locs cu) {k a ci sl : Nat} {r : List Value} {v : Value} (hd : decode M.2.2.1 pc = .ok (.putfield k, 3)) (hf : am_fl M.1 k = some (ci, sl)) (hg : am_pf M.1 M.2.2.2.2.2.1 h a ci sl v = some h')
    (kk : ∀ H' locs', am_Cf D cI b sa h0 s h' H' locs' cu → W p l e R s m args below meth c H' locs' cu su Q (F0 m (pc + 3) cls (r.map (am_v b sa)))) : W p l e R s m args below meth c H locs cu su Q (F0 m pc cls ((v :: .ref a :: r).map (am_v b sa))) := by
  obtain ⟨hx, hb, hml, hown, hts, hG, hin⟩ := F
  obtain ⟨rc, h1, h2, h3, h4⟩ := am_fl_ok hf
  obtain ⟨t1, t2, t3, t4⟩ := am_tyk h1
  unfold am_pf at hg
  split at hg
  · rename_i c' fs ha
    split at hg
    · rename_i hc
      obtain ⟨rfl, hlt, hvz, hfin⟩ := hc
      cases hg
      obtain ⟨n1, n2⟩ := am_vz_ok (b := b) (sa := sa) hvz
      have key : ∀ (H1 : Heap) (locs1 : List Loc), va_P D vwCl ((am_ws b sa cI h).set a (b + a, .inr (c', (fs.map (am_v b sa)).set sl (am_v b sa v)))) H1 → va_D (am_A b) ((am_ws b sa cI h).set a (b + a, .inr (c', (fs.map (am_v b sa)).set sl (am_v b sa v)))) → va_S (am_A b) s.heap H1 locs1 → W p l e R s m args below meth c H1 locs1 cu su Q (F0 m (pc + 3) cls (r.map (am_v b sa))) := by
        intro H1 locs1 hP _ hS
        refine kk H1 locs1 ⟨?_, hS, hC.2.2.1, by rw [List.length_set]; exact hC.2.2.2⟩
        rw [← am_ws_set]
        simp only [am_e, List.map_set]
        exact hP
      rcases hfin with hfin | hfin
      · exact va_put (D := D) hx hb hts (am_lay h1) (am_ty c') t1 t2 hown hG.1 hC.1 am_D hC.2.1 a (am_ws_get ha) h1 sl h2 (hts _ h3) (fun _ h9 => h9) (by rw [← t4]; exact hfin) (t1 sl h2) n1 n2 (by rw [List.length_map]; exact hlt) hd key
      · by_cases hfin2 : am_fin c' sl = false
        · exact va_put (D := D) hx hb hts (am_lay h1) (am_ty c') t1 t2 hown hG.1 hC.1 am_D hC.2.1 a (am_ws_get ha) h1 sl h2 (hts _ h3) (fun _ h9 => h9) (by rw [← t4]; exact hfin2) (t1 sl h2) n1 n2 (by rw [List.length_map]; exact hlt) hd key
        · exact va_putF (D := D) hx hb hts (am_lay h1) (am_ty c') t1 t2 hown hG.1 hC.1 am_D hC.2.1 a (am_ws_get ha) h1 sl h2 (hts _ h3) (fun _ h9 => h9) (by rw [← t4]; simpa using hfin2) (hin hfin.1) (by rw [h4, am_ownC h1, hfin.2]) (t1 sl h2) n1 n2 (by rw [List.length_map]; exact hlt) hd key
    · cases hg
  · cases hg
theorem am_ial_ok (F : am_Fr D cI b sa sv M p s m args meth c) (hC : am_Cf D cI b sa h0 s h H locs cu) {j : Int32} {v : Value} {r : List Value} (hd : decode M.2.2.1 pc = .ok (.iaload, 1)) (hg : am_ial sv h v j r = some st')
    (kk : W p l e R s m args below meth c H locs cu su Q (F0 m (pc + 1) cls (st'.map (am_v b sa)))) : W p l e R s m args below meth c H locs cu su Q (F0 m pc cls ((.int j :: v :: r).map (am_v b sa))) := by
  obtain ⟨hx, hb, hml, hown, hts, hG, hin⟩ := F
  unfold am_ial at hg
  split at hg
  · rename_i a
    split at hg
    · rename_i n f ha
      split at hg
      · rename_i hi
        cases hg
        exact va_iald (D := D) hx hb hG.1 hC.1 a 0 (am_ws_get ha) rfl (am_in_vp hi) hd kk
      · cases hg
    · cases hg
  · rename_i t
    split at hg
    · rename_i ht
      obtain ⟨rfl, hi⟩ := ht
      cases hg
      exact va_ti hx hb hG.2.2.1 hC.2.1 (am_in_vp hi) rfl hd kk
    · split at hg
      · rename_i ht
        obtain ⟨rfl, hi⟩ := ht
        cases hg
        exact va_ti hx hb hG.2.2.2.2.1 hC.2.1 (am_in_vp hi) rfl hd kk
      · cases hg
  · cases hg
theorem am_ias_ok (F : am_Fr D cI b sa sv M p s m args meth c) (hC : am_Cf D cI b sa h0 s h H locs cu) {j x : Int32} {a : Nat} {r : List Value} (hd : decode M.2.2.1 pc = .ok (.iastore, 1)) (hg : am_ias h a j x = some h')
    (kk : ∀ H' locs', am_Cf D cI b sa h0 s h' H' locs' cu → W p l e R s m args below meth c H' locs' cu su Q (F0 m (pc + 1) cls (r.map (am_v b sa)))) : W p l e R s m args below meth c H locs cu su Q (F0 m pc cls ((.int x :: .int j :: .ref a :: r).map (am_v b sa))) := by
  obtain ⟨hx, hb, hml, hown, hts, hG, hin⟩ := F
  unfold am_ias at hg
  split at hg
  · rename_i n f ha
    split at hg
    · rename_i hi
      cases hg
      refine va_iast (D := D) hx hb hG.1 hC.1 am_D hC.2.1 a 0 (am_ws_get ha) rfl (am_in_vp hi) hd (fun H1 locs1 hP _ hS => ?_)
      refine kk H1 locs1 ⟨?_, hS, hC.2.2.1, by rw [List.length_set]; exact hC.2.2.2⟩
      rw [← am_ws_set]
      exact hP
    · cases hg
  · cases hg
theorem am_cpy_ok (F : am_Fr D cI b sa sv M p s m args meth c) (hC : am_Cf D cI b sa h0 s h H locs cu) (hsz : cls.size = M.2.2.2.1) {k a0 a1 : Nat} {sp dp n : Int32} {r : List Value} (hd : decode M.2.2.1 pc = .ok (.invokestatic k, 3)) {y0 : Nat} (hk : am_ml M.1 k = some (9, y0)) (hfr : 1 ≤ R.frames) (hlo : am_cs r + 18 ≤ R.locals) (hg : am_cpy h a0 sp a1 dp n = some h')
    (kk : ∀ H' locs', am_Cf D cI b sa h0 s h' H' locs' cu → W p l e R s m args below meth c H' locs' cu su Q (F0 m (pc + 3) cls (r.map (am_v b sa)))) : W p l e R s m args below meth c H locs cu su Q (F0 m pc cls ((.int n :: .int dp :: .ref a1 :: .int sp :: .ref a0 :: r).map (am_v b sa))) := by
  obtain ⟨hx, hb, hml, hown, hts, hG, hin⟩ := F
  have hl : Cond.methodLink (am_own M.1) k arraycopyName ∈ am_TB := by
    rcases am_ml_ok hk with q | q | q | q | q | q
    · cases q.1
    · cases q.1
    · cases q.1
    · cases q.1
    · cases q.1
    · exact q.2
  obtain ⟨j1, j2, j3, j4, j5, j6, j7, j8, j9, j10, j11⟩ := am_jdkT
  have hnw : nativeFrameWords "java/lang/System" "arraycopy" 5 = 7 := by decide +kernel
  unfold am_cpy at hg
  split at hg
  · rename_i n0 f n1 g ha0 ha1
    split at hg
    · rename_i hc
      obtain ⟨⟨c1, c2, c3⟩, c4, c5⟩ := hc
      cases hg
      refine va_copyi (D := D) hx hb (hml.trans hsz.symm) hown (hts _ hl) (hts _ j5) (hts _ j4) (hts _ j6) hG.1 hC.1 am_D hC.2.1 a0 a1 0 0 (am_ws_get ha0) (am_ws_get ha1) rfl rfl rfl (am_nneg c1) (am_nneg c2) (am_nneg c3) c4 c5 (fun i _ => rfl) hfr (by rw [am_cs_map, hnw]; exact hlo) hd (fun H1 locs1 hP _ hS => ?_)
      refine kk H1 locs1 ⟨?_, hS, hC.2.2.1, by rw [List.length_set]; exact hC.2.2.2⟩
      rw [← am_ws_set]
      exact hP
    · cases hg
  · cases hg
theorem am_addr {e0 : va_E} {q : Nat} {H1 : Heap} (hC : h0 + cu = h.length) (hs : s.heap.size = b + h0) (hz : H1.size ≤ s.heap.size + (cu + 1)) (hP : va_P D vwCl (am_ws b sa cI h ++ [(q, e0)]) H1) (hD : va_D (am_A b) (am_ws b sa cI h ++ [(q, e0)])) : q = b + h.length := by
  have hl : (am_ws b sa cI h ++ [(q, e0)])[h.length]? = some (q, e0) := by
    rw [List.getElem?_append_right (by rw [am_ws_len]; exact Nat.le_refl _), am_ws_len, Nat.sub_self]
    rfl
  have h1 : q < H1.size := (hP _ _ hl).lt
  have h2 : b ≤ q := hD.2 _ _ hl
  by_cases h3 : q < b + h.length
  · have h4 : q - b < h.length := by omega
    obtain ⟨e1, he⟩ : ∃ e1, h[q - b]? = some e1 := ⟨_, List.getElem?_eq_getElem h4⟩
    have h5 : (am_ws b sa cI h ++ [(q, e0)])[q - b]? = some (b + (q - b), am_e b sa cI e1) := by
      rw [List.getElem?_append_left (by rw [am_ws_len]; exact h4)]
      exact am_ws_get he
    have h6 := hD.1 _ _ _ _ h5 hl (by show b + (q - b) = q; omega)
    omega
  · omega
theorem am_new_ok (F : am_Fr D cI b sa sv M p s m args meth c) (hC : am_Cf D cI b sa h0 s h H locs cu) {k ci : Nat} {r : List Value} (hd : decode M.2.2.1 pc = .ok (.new k, 3)) (hk : am_cn M.1 k = some ci) (hc1 : cu + 1 ≤ R.cells) (hc2 : su + am_N ci ≤ R.slots)
    (kk : ∀ H' locs', am_Cf D cI b sa h0 s (h ++ [.inr (ci, am_def ci)]) H' locs' (cu + 1) → W p l e R s m args below meth c H' locs' (cu + 1) (su + am_N ci) Q (F0 m (pc + 3) cls ((.ref h.length :: r).map (am_v b sa)))) : W p l e R s m args below meth c H locs cu su Q (F0 m pc cls (r.map (am_v b sa))) := by
  obtain ⟨hx, hb, hml, hown, hts, hG, hin⟩ := F
  obtain ⟨rc, h1, h2, h3, h4⟩ := am_cn_ok hk
  obtain ⟨t1, t2, t3, t4⟩ := am_tyk h1
  have hdef : ∀ ty : FieldType, am_v b sa (defaultValue ty) = defaultValue ty ∨ ∃ q, ty = .float ∧ q = ty := by
    intro ty
    cases ty <;> first | exact Or.inl rfl | exact Or.inr ⟨_, rfl, rfl⟩
  refine va_new (D := D) (fs := (am_def ci).map (am_v b sa)) hx hb hts (am_lay h1) (am_ty ci) t1 hown (hts _ h2) (hts _ h3) (hts _ h4) hG.1 hC.1 am_D hC.2.1 (fun q hq => by show b ≤ q; have := hC.2.2.1; omega) h1 (fun j hj => ?_) hc1 (by rw [← t3]; exact hc2) hd (fun q H1 hP hD hS => ?_)
  · have hj2 : j < am_N ci := by rw [t3]; exact hj
    have hl := am_lt10 h1
    simp only [vp_V, am_def, List.map_map]
    rw [List.getD_eq_getElem?_getD, List.getElem?_map, List.getElem?_range hj2]
    show defaultValue (am_ty ci j) = am_v b sa (defaultValue (am_ty ci j))
    rcases hdef (am_ty ci j) with q | ⟨q, q1, q2⟩
    · exact q.symm
    · exfalso
      have hp := t1 j hj
      rw [q1] at hp
      revert hp hj
      clear hj2 q1 q2 t1 t2 t4 h2 h3 h4 hdef
      intro hj hp
      have : ∀ r ∈ vwCl, ∀ j, j < r.2.2 → parseFieldDescriptor (r.2.1 j).2.2.1 ≠ some .float := by decide +kernel
      exact this rc (List.mem_of_getElem? h1) j hj hp
  · rw [← t3]
    refine am_size (fun hz => ?_)
    have hq := am_addr hC.2.2.2 hC.2.2.1 hz hP hD
    subst hq
    refine kk H1 locs ⟨?_, hS, hC.2.2.1, by rw [List.length_append]; have := hC.2.2.2; simp; omega⟩
    rw [am_ws_app]
    exact hP
theorem am_newa_ok (F : am_Fr D cI b sa sv M p s m args meth c) (hC : am_Cf D cI b sa h0 s h H locs cu) {n : Int32} {r : List Value} (hd : decode M.2.2.1 pc = .ok (.newarray .int, 2)) (hn : 0 ≤ n.toInt) (hn2 : n.toNatClampNeg ≤ 1000) (hc1 : cu + 1 ≤ R.cells) (hc2 : su + n.toNatClampNeg ≤ R.slots)
    (kk : ∀ H' locs', am_Cf D cI b sa h0 s (h ++ [.inl (n.toNatClampNeg, fun _ => 0)]) H' locs' (cu + 1) → W p l e R s m args below meth c H' locs' (cu + 1) (su + n.toNatClampNeg) Q (F0 m (pc + 2) cls ((.ref h.length :: r).map (am_v b sa)))) : W p l e R s m args below meth c H locs cu su Q (F0 m pc cls ((.int n :: r).map (am_v b sa))) := by
  obtain ⟨hx, hb, hml, hown, hts, hG, hin⟩ := F
  obtain ⟨j1, j2, j3, j4, j5, j6, j7, j8, j9, j10, j11⟩ := am_jdkT
  refine va_newa (D := D) (atype := .int) (a0 := (n.toNatClampNeg, .inl fun _ => 0)) hx hb (hts _ j8) (ty := .int) rfl hG.1 hC.1 am_D hC.2.1 (fun q hq => by show b ≤ q; have := hC.2.2.1; omega) (fun cA => rfl) (am_nneg hn) rfl (by show _ * 4 ≤ _; omega) hc1 hc2 hd (fun q cA H1 hK hP hD hS => ?_)
  refine am_size (fun hz => ?_)
  have hq := am_addr hC.2.2.2 hC.2.2.1 hz hP hD
  subst hq
  have hcA : cA = cI := by
    have e1 := (hK.2 0 (cI, .int) rfl).2
    have e2 := (hK.2 1 (cA, .int) rfl).2
    exact (Option.some.inj ((show s.vm.findClass _ = some cI from e1).symm.trans (show s.vm.findClass _ = some cA from e2))).symm
  subst hcA
  refine kk H1 locs ⟨?_, hS, hC.2.2.1, by rw [List.length_append]; have := hC.2.2.2; simp; omega⟩
  rw [am_ws_app]
  exact hP
end AMH
