/-! ALL SIMULATIONS, THE LAW's START -/
section I89
variable {L : Nat} {xs : Nat → Int32}
theorem am_lt4 : ∀ t, t < 4 → (am_sv L xs 1).2 t = nI (ltr t) := am_cases4 rfl rfl rfl rfl
theorem all_sim : AllSim (am_sv L xs) Inv := ⟨sim0, sim1, sim2, sim3 rfl (fun _ _ => rfl), sim4, sim5, sim6, sim7, sim8, sim9, sim10 rfl am_lt4, sim11, sim12, sim13, sim14, sim15, sim16, sim17, sim18, sim19, sim20, sim21, sim22, sim23, sim24, sim25, sim26 rfl (fun _ _ => rfl), sim27, sim28, sim29, sim30, sim31, sim32, sim33, sim34, sim35⟩
theorem whole_start {p : Program} {e : Env} {s : State} {m : MethodId} {below : List Frame} {meth : Method} {c : Code} (l : Launch) (hflags : l.flags = flags0) {b L : Nat} {xs : Nat → Int32} (hL : L ≤ 3072) (C0 : lw_At p s m meth c b L xs) : W p l e room_1 s m #[Value.ref b] below meth c s.heap [] 0 0 (lw_Z below #[Value.ref b] s) (entryFrame m ([Value.ref b] : List Value).toArray 4) :=
  am_start l C0 (law_all hL all_sim (fun h ho _ => Inv_0 h ho))
end I89
