/-! THE ABSTRACT MACHINE's RUN: a step of it is a step of the machine over a picture of the heap -/
abbrev am_V : Type := Nat → Nat × (Nat → Int32)
def am_fl (oc i : Nat) : Option (Nat × Nat) := (am_fls.find? (fun q => q.1 == oc && q.2.1 == i)).map (fun q => (q.2.2.1, q.2.2.2.1))
def am_gs (oc i : Nat) : Option Nat := (am_gss.find? (fun q => q.1 == oc && q.2.1 == i)).map (fun q => q.2.2.1)
def am_ml (oc i : Nat) : Option (Nat × Nat) := (am_mls.find? (fun q => q.1 == oc && q.2.1 == i)).map (fun q => (q.2.2.1, q.2.2.2.1))
def am_ci (oc i : Nat) : Option Int32 := (am_cis.find? (fun q => q.1 == oc && q.2.1 == i)).map (fun q => q.2.2.1)
def am_cl (oc i : Nat) : Option Int64 := (am_cls.find? (fun q => q.1 == oc && q.2.1 == i)).map (fun q => q.2.2.1)
def am_cn (oc i : Nat) : Option Nat := (am_cns.find? (fun q => q.1 == oc && q.2.1 == i)).map (fun q => q.2.2.1)
def am_ty (ci : Nat) : Nat → FieldType := match ci with
  | 0 => tyX0
  | 1 => tyX1
  | 2 => tyX2
  | 3 => tyX3
  | 4 => tyX4
  | 5 => tyX5
  | 6 => tyX6
  | 7 => tyX7
  | 8 => tyX8
  | _ => tyX9
def am_N (ci : Nat) : Nat := ((vwCl[ci]?).map (fun q => q.2.2)).getD 0
def am_fin (ci k : Nat) : Bool := ((vwCl[ci]?).map (fun q => (q.2.1 k).2.2.2)).getD true
def am_def (ci : Nat) : List Value := (List.range (am_N ci)).map (fun k => defaultValue (am_ty ci k))
def am_cs (st : List Value) : Nat := (st.map fun v => v.category).sum
def am_len : Instr → Nat
  | .iconst _ => 1
  | .bipush _ => 2
  | .sipush _ => 3
  | .ldc _ => 2
  | .ldc2_w _ => 3
  | .iload _ => 2
  | .lload _ => 2
  | .istore _ => 2
  | .lstore _ => 2
  | .iinc _ _ => 3
  | .goto _ => 3
  | .ifCond _ _ => 3
  | .if_icmp _ _ => 3
  | .getfield _ => 3
  | .putfield _ => 3
  | .getstatic _ => 3
  | .invokevirtual _ => 3
  | .invokestatic _ => 3
  | .invokespecial _ => 3
  | .new _ => 3
  | .newarray _ => 2
  | _ => 1
def am_ldi (ls : List Value) (k : Nat) (st : List Value) : Option (List Value × List Value) := match ls[k]? with
  | some (.int x) => some (ls, .int x :: st)
  | _ => none
def am_ldl (ls : List Value) (k : Nat) (st : List Value) : Option (List Value × List Value) := match ls[k]? with
  | some (.long x) => some (ls, .long x :: st)
  | _ => none
def am_lda (ls : List Value) (k : Nat) (st : List Value) : Option (List Value × List Value) := match ls[k]? with
  | some (.ref x) => some (ls, .ref x :: st)
  | some (.float x) => some (ls, .float x :: st)
  | _ => none
def am_sti (ls : List Value) (k : Nat) (st : List Value) : Option (List Value × List Value) := match st with
  | .int x :: r => if k < ls.length ∧ am_c1 ls k = true then some (ls.set k (.int x), r) else none
  | _ => none
def am_stl (ls : List Value) (k : Nat) (st : List Value) : Option (List Value × List Value) := match st with
  | .long x :: r => if k + 1 < ls.length ∧ am_c1 ls k = true then some ((ls.set k (.long x)).set (k + 1) .null, r) else none
  | _ => none
def am_sta (ls : List Value) (k : Nat) (st : List Value) : Option (List Value × List Value) := match st with
  | .ref x :: r => if k < ls.length ∧ am_c1 ls k = true then some (ls.set k (.ref x), r) else none
  | _ => none
def am_inc (ls : List Value) (k : Nat) (d : Int) (st : List Value) : Option (List Value × List Value) := match ls[k]? with
  | some (.int x) => if am_c1 ls k = true then some (ls.set k (.int (x + Int32.ofInt d)), st) else none
  | _ => none
/-- numbers, locals -/
def am_pu (oc : Nat) (i : Instr) (ls st : List Value) : Option (List Value × List Value) := match i with
  | .iconst k => some (ls, .int (Int32.ofInt k) :: st)
  | .bipush k => some (ls, .int ((Int8.ofInt k).toInt32) :: st)
  | .sipush k => some (ls, .int ((Int16.ofInt k).toInt32) :: st)
  | .lconst k => some (ls, .long (Int64.ofNat (k : Nat)) :: st)
  | .ldc k => (am_ci oc k).map (fun v => (ls, .int v :: st))
  | .ldc2_w k => (am_cl oc k).map (fun v => (ls, .long v :: st))
  | .iload_n k => am_ldi ls (k : Nat) st
  | .iload k => am_ldi ls k st
  | .lload_n k => am_ldl ls (k : Nat) st
  | .lload k => am_ldl ls k st
  | .aload_n k => am_lda ls (k : Nat) st
  | .istore_n k => am_sti ls (k : Nat) st
  | .istore k => am_sti ls k st
  | .lstore k => am_stl ls k st
  | .astore_n k => am_sta ls (k : Nat) st
  | .iinc k d => am_inc ls k d st
  | _ => none
/-- arithmetic of ints -/
def am_ai (i : Instr) (st : List Value) : Option (List Value) := match i, st with
  | .iadd, .int y :: .int x :: r => some (.int (x + y) :: r)
  | .isub, .int y :: .int x :: r => some (.int (x - y) :: r)
  | .imul, .int y :: .int x :: r => some (.int (x * y) :: r)
  | .idiv, .int y :: .int x :: r => if y = 0 then none else some (.int (x / y) :: r)
  | .irem, .int y :: .int x :: r => if y = 0 then none else some (.int (x - x / y * y) :: r)
  | .iand, .int y :: .int x :: r => some (.int (x &&& y) :: r)
  | .ior, .int y :: .int x :: r => some (.int (x ||| y) :: r)
  | .ixor, .int y :: .int x :: r => some (.int (x ^^^ y) :: r)
  | .ishl, .int y :: .int x :: r => some (.int (x <<< (y &&& 31)) :: r)
  | .ishr, .int y :: .int x :: r => some (.int (x >>> (y &&& 31)) :: r)
  | .ineg, .int x :: r => some (.int (-x) :: r)
  | .i2l, .int x :: r => some (.long x.toInt64 :: r)
  | .i2b, .int x :: r => some (.int x.toInt8.toInt32 :: r)
  | .i2s, .int x :: r => some (.int x.toInt16.toInt32 :: r)
  | _, _ => none
/-- arithmetic of longs, the stack -/
def am_al (i : Instr) (st : List Value) : Option (List Value) := match i, st with
  | .ladd, .long y :: .long x :: r => some (.long (x + y) :: r)
  | .lsub, .long y :: .long x :: r => some (.long (x - y) :: r)
  | .lmul, .long y :: .long x :: r => some (.long (x * y) :: r)
  | .ldiv, .long y :: .long x :: r => if y = 0 then none else some (.long (x / y) :: r)
  | .lrem, .long y :: .long x :: r => if y = 0 then none else some (.long (x - x / y * y) :: r)
  | .land, .long y :: .long x :: r => some (.long (x &&& y) :: r)
  | .lor, .long y :: .long x :: r => some (.long (x ||| y) :: r)
  | .lshl, .int y :: .long x :: r => some (.long (x <<< (y.toInt64 &&& 63)) :: r)
  | .lshr, .int y :: .long x :: r => some (.long (x >>> (y.toInt64 &&& 63)) :: r)
  | .lcmp, .long y :: .long x :: r => some (.int (lg_cmp x y) :: r)
  | .l2i, .long x :: r => some (.int x.toInt32 :: r)
  | .dup, v :: r => if v.category = 1 then some (v :: v :: r) else none
  | .pop, v :: r => if v.category = 1 then some r else none
  | .dup2, v :: w :: r => if v.category = 1 ∧ w.category = 1 then some (v :: w :: v :: w :: r) else none
  | _, _ => none
def am_if (t : Bool) (pc : Nat) (off : Int) (r : List Value) : Option (Nat × List Value) := if 0 ≤ (pc : Int) + off then some (if t then ((pc : Int) + off).toNat else pc + 3, r) else none
def am_z (c : ClassFile.Cond) (x y : Int32) : Bool := match c with
  | .eq => decide (x = y)
  | .ne => decide (¬ x = y)
  | .lt => decide (x < y)
  | .ge => decide (y ≤ x)
  | .gt => decide (y < x)
  | .le => decide (x ≤ y)
def am_sw (pc : Nat) (dflt lo hi : Int) (offs : Array Int) (x : Int32) (r : List Value) : Option (Nat × List Value) :=
  if x.toInt < lo ∨ hi < x.toInt then (if 0 ≤ (pc : Int) + dflt then some (((pc : Int) + dflt).toNat, r) else none)
  else match offs[(x.toInt - lo).toNat]? with
    | some off => if 0 ≤ (pc : Int) + off then some (((pc : Int) + off).toNat, r) else none
    | none => none
/-- branches -/
def am_br (i : Instr) (pc len : Nat) (st : List Value) : Option (Nat × List Value) := match i, st with
  | .goto off, r => if len = 3 then am_if true pc off r else none
  | .ifCond c off, .int x :: r => if len = 3 then am_if (am_z c x 0) pc off r else none
  | .if_icmp c off, .int y :: .int x :: r => if len = 3 then am_if (am_z c x y) pc off r else none
  | .tableswitch dflt lo hi offs, .int x :: r => am_sw pc dflt lo hi offs x r
  | _, _ => none
def am_vz (ty : FieldType) (v : Value) : Bool := match ty, v with
  | .int, .int _ => true
  | .long, .long _ => true
  | .boolean, .int x => x == 0 || x == 1
  | .object _, .ref _ => true
  | .array _, .ref _ => true
  | _, _ => false
/-- an end -/
def am_rt (rt : Option FieldType) (i : Instr) (len : Nat) (st : List Value) : Option (Option Value) := match i, st with
  | .ireturn, .int x :: [] => if len = 1 then (match rt with
    | some .int => some (some (.int x))
    | some .boolean => if x = 0 ∨ x = 1 then some (some (.int x)) else none
    | _ => none) else none
  | .return_, [] => if len = 1 ∧ rt = none then some none else none
  | _, _ => none
def am_gf (h : am_H) (a ci k : Nat) (r : List Value) : Option (List Value) := match h[a]? with
  | some (.inr (c, fs)) => if c = ci then (match fs[k]? with
    | some v => some (v :: r)
    | none => none) else none
  | _ => none
def am_pf (oc kd : Nat) (h : am_H) (a ci k : Nat) (v : Value) : Option am_H := match h[a]? with
  | some (.inr (c, fs)) => if c = ci ∧ k < fs.length ∧ am_vz (am_ty ci k) v = true ∧ (am_fin ci k = false ∨ (kd = 2 ∧ ci = oc)) then some (h.set a (.inr (c, fs.set k v))) else none
  | _ => none
def am_in (i : Int32) (n : Nat) : Bool := decide (0 ≤ i.toInt ∧ i.toInt < n)
def am_ial (sv : am_V) (h : am_H) (v : Value) (i : Int32) (r : List Value) : Option (List Value) := match v with
  | .ref a => (match h[a]? with
    | some (.inl (n, f)) => if am_in i n then some (.int (f i.toNatClampNeg) :: r) else none
    | _ => none)
  | .float t => if t = 0 ∧ am_in i (sv 0).1 = true then some (.int ((sv 0).2 i.toNatClampNeg) :: r) else if t = 2 ∧ am_in i (sv 2).1 = true then some (.int ((sv 2).2 i.toNatClampNeg) :: r) else none
  | _ => none
def am_ias (h : am_H) (a : Nat) (i x : Int32) : Option am_H := match h[a]? with
  | some (.inl (n, f)) => if am_in i n then some (h.set a (.inl (n, upd f i.toNatClampNeg x))) else none
  | _ => none
def am_aln (sv : am_V) (h : am_H) (v : Value) : Option Int32 := match v with
  | .ref a => (match h[a]? with
    | some (.inl (n, _)) => some (Int32.ofNat n)
    | _ => none)
  | .float t => if t = 2 then some (Int32.ofNat (sv 2).1) else none
  | _ => none
def am_cpy (h : am_H) (a0 : Nat) (sp : Int32) (a1 : Nat) (dp n : Int32) : Option am_H := match h[a0]?, h[a1]? with
  | some (.inl (n0, f)), some (.inl (n1, g)) => if (0 ≤ sp.toInt ∧ 0 ≤ dp.toInt ∧ 0 ≤ n.toInt) ∧ sp.toNatClampNeg + n.toNatClampNeg ≤ n0 ∧ dp.toNatClampNeg + n.toNatClampNeg ≤ n1 then some (h.set a1 (.inl (n1, va_cpy f g sp.toNatClampNeg dp.toNatClampNeg n.toNatClampNeg))) else none
  | _, _ => none
/-- the JDK's static methods -/
def am_js (q : Option (Nat × Nat)) (rm : Room) (st : List Value) (h : am_H) (cu su : Nat) : Option (List Value × am_H × Nat × Nat) := match q, st with
  | some (9, _), .int n :: .int dp :: .ref a1 :: .int sp :: .ref a0 :: r => if 1 ≤ rm.frames ∧ am_cs r + 18 ≤ rm.locals then (am_cpy h a0 sp a1 dp n).map (fun h' => (r, h', cu, su)) else none
  | some (7, _), .int y :: .int x :: r => if 1 ≤ rm.frames ∧ am_cs r + 13 ≤ rm.locals ∧ cu ≤ rm.cells ∧ su ≤ rm.slots then some (.int (if x < y then y else x) :: r, h, cu, su) else none
  | some (8, _), .int y :: .int x :: r => if 1 ≤ rm.frames ∧ am_cs r + 13 ≤ rm.locals ∧ cu ≤ rm.cells ∧ su ≤ rm.slots then some (.int (if y < x then y else x) :: r, h, cu, su) else none
  | _, _ => none
/-- fields, arrays, what is made, the JDK's four -/
def am_hp (sv : am_V) (oc kd : Nat) (rm : Room) (i : Instr) (st : List Value) (h : am_H) (cu su : Nat) : Option (List Value × am_H × Nat × Nat) := match i, st with
  | .getfield k, .ref a :: r => (am_fl oc k).bind (fun q => (am_gf h a q.1 q.2 r).map (fun st' => (st', h, cu, su)))
  | .putfield k, v :: .ref a :: r => (am_fl oc k).bind (fun q => (am_pf oc kd h a q.1 q.2 v).map (fun h' => (r, h', cu, su)))
  | .iaload, .int j :: v :: r => (am_ial sv h v j r).map (fun st' => (st', h, cu, su))
  | .caload, .int j :: .float t :: r => if t = 1 ∧ am_in j (sv 1).1 = true then some (.int ((sv 1).2 j.toNatClampNeg) :: r, h, cu, su) else none
  | .iastore, .int x :: .int j :: .ref a :: r => (am_ias h a j x).map (fun h' => (r, h', cu, su))
  | .arraylength, v :: r => (am_aln sv h v).map (fun n => (.int n :: r, h, cu, su))
  | .getstatic k, r => (am_gs oc k).map (fun t => (.float (UInt32.ofNat t) :: r, h, cu, su))
  | .new k, r => (am_cn oc k).bind (fun ci => if cu + 1 ≤ rm.cells ∧ su + am_N ci ≤ rm.slots then some (.ref h.length :: r, h ++ [.inr (ci, am_def ci)], cu + 1, su + am_N ci) else none)
  | .newarray .int, .int n :: r => if 0 ≤ n.toInt ∧ n.toNatClampNeg ≤ 1000 ∧ cu + 1 ≤ rm.cells ∧ su + n.toNatClampNeg ≤ rm.slots then some (.ref h.length :: r, h ++ [.inl (n.toNatClampNeg, fun _ => 0)], cu + 1, su + n.toNatClampNeg) else none
  | .invokespecial k, .ref _ :: r => if (am_ml oc k).map (fun q => q.1) = some 6 ∧ 1 ≤ rm.frames ∧ am_cs r + 12 ≤ rm.locals then some (r, h, cu, su) else none
  | .invokestatic k, st => am_js (am_ml oc k) rm st h cu su
  | _, _ => none
/-- a call: the method, its arguments, what stays on the stack -/
def am_ca (oc : Nat) (i : Instr) (st : List Value) (h : am_H) : Option (Nat × List Value × List Value) := match i with
  | .invokestatic k => (am_ml oc k).bind (fun q => if q.1 ≤ 1 then (am_ms[q.2]?).bind (fun Y => if Y.2.2.2.2.2.1 = 1 ∧ Y.2.2.2.2.2.2.1 ≤ st.length then some (q.2, (st.take Y.2.2.2.2.2.2.1).reverse, st.drop Y.2.2.2.2.2.2.1) else none) else none)
  | .invokevirtual k => (am_ml oc k).bind (fun q => if q.1 ≤ 1 then (am_ms[q.2]?).bind (fun Y => if Y.2.2.2.2.2.1 = 0 ∧ Y.2.2.2.2.2.2.1 ≤ st.length then (match st.drop Y.2.2.2.2.2.2.1 with
    | .ref a :: r => (match h[a]? with
      | some (.inr (c, _)) => if c = Y.1 then some (q.2, .ref a :: (st.take Y.2.2.2.2.2.2.1).reverse, r) else none
      | _ => none)
    | _ => none) else none) else none)
  | .invokespecial k => (am_ml oc k).bind (fun q => if q.1 ≤ 1 then (am_ms[q.2]?).bind (fun Y => if Y.2.2.2.2.2.1 = 2 ∧ Y.2.2.2.2.2.2.1 ≤ st.length then (match st.drop Y.2.2.2.2.2.2.1 with
    | .ref a :: r => some (q.2, .ref a :: (st.take Y.2.2.2.2.2.2.1).reverse, r)
    | _ => none) else none) else none)
  | _ => none
abbrev am_R : Type := (Nat × List Value × List Value × am_H × Nat × Nat) ⊕ (Option Value ⊕ (Nat × List Value × List Value))
def am_step (sv : am_V) (M : am_M) (pc : Nat) (i : Instr) (len : Nat) (ls st : List Value) (h : am_H) (cu su : Nat) : Option am_R :=
  match am_br i pc len st with
  | some q => some (.inl (q.1, ls, q.2, h, cu, su))
  | none => match am_rt M.2.2.2.2.1 i len st with
    | some v => some (.inr (.inl v))
    | none => if len = am_len i then (match am_pu M.1 i ls st with
      | some q => some (.inl (pc + len, q.1, q.2, h, cu, su))
      | none => match am_ai i st with
        | some st' => some (.inl (pc + len, ls, st', h, cu, su))
        | none => match am_al i st with
          | some st' => some (.inl (pc + len, ls, st', h, cu, su))
          | none => match am_hp sv M.1 M.2.2.2.2.2.1 M.2.2.2.2.2.2.2 i st h cu su with
            | some q => some (.inl (pc + len, ls, q.1, q.2.1, q.2.2.1, q.2.2.2))
            | none => (am_ca M.1 i st h).map (fun q => .inr (.inr q))) else none
/-- the callee's room in the caller's, what stays on the stack is small -/
def am_rc (M Y : am_M) (rest : List Value) (cu su : Nat) : Bool := decide (Y.2.2.2.2.2.2.2.frames + 1 ≤ M.2.2.2.2.2.2.2.frames ∧ 8 + (Y.2.2.2.1 + 11) + Y.2.2.2.2.2.2.2.locals ≤ M.2.2.2.2.2.2.2.locals ∧ cu + Y.2.2.2.2.2.2.2.cells ≤ M.2.2.2.2.2.2.2.cells ∧ su + Y.2.2.2.2.2.2.2.slots ≤ M.2.2.2.2.2.2.2.slots ∧ am_cs rest ≤ 8)
def am_run (sv : am_V) : Nat → Nat → Nat → List Value → List Value → am_H → Nat → Nat → Option (Option Value × am_H)
  | 0, _, _, _, _, _, _, _ => none
  | n + 1, mi, pc, ls, st, h, cu, su => match am_ms[mi]? with
    | none => none
    | some M => match decode M.2.2.1 pc with
      | .error _ => none
      | .ok q => match am_step sv M pc q.1 q.2 ls st h cu su with
        | none => none
        | some (.inl w) => am_run sv n mi w.1 w.2.1 w.2.2.1 w.2.2.2.1 w.2.2.2.2.1 w.2.2.2.2.2
        | some (.inr (.inl v)) => if cu = M.2.2.2.2.2.2.2.cells ∧ su = M.2.2.2.2.2.2.2.slots then some (v, h) else none
        | some (.inr (.inr w)) => match am_ms[w.1]? with
          | none => none
          | some Y => if w.1 < 170 ∧ (am_sl w.2.1).length ≤ Y.2.2.2.1 ∧ am_rc M Y w.2.2 cu su = true then (match am_run sv n w.1 0 (am_ini Y.2.2.2.1 w.2.1) [] h 0 0 with
            | none => none
            | some u => am_run sv n mi (pc + 3) ls (u.1.toList ++ w.2.2) u.2 (cu + Y.2.2.2.2.2.2.2.cells) (su + Y.2.2.2.2.2.2.2.slots)) else none
