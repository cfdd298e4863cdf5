theorem c_bipush_63 : (Int8.ofInt (63)).toInt32 = (63 : Int32) := by decide +kernel
theorem am_rcL {Y : am_M} {r : List Value} (hs : Y.2.2.2.2.2.2.2.frames + 1 ≤ 9 ∧ 8 + (Y.2.2.2.1 + 11) + Y.2.2.2.2.2.2.2.locals ≤ 362 ∧ 90 + Y.2.2.2.2.2.2.2.cells ≤ 90 ∧ 1596 + Y.2.2.2.2.2.2.2.slots ≤ 1596) (h8 : am_cs r ≤ 8) : am_rc am_m170 Y r 90 1596 = true := decide_eq_true ⟨hs.1, hs.2.1, hs.2.2.1, hs.2.2.2, h8⟩
theorem e_alens {sv : am_V} {mi pc : Nat} {ls r : List Value} {h : am_H} {cu su : Nat} {Q : Option Value → am_H → Prop} {M : am_M} (hM : am_ms[mi]? = some M) (hd : decode M.2.2.1 pc = .ok (.arraylength, 1)) : AW sv mi pc ls (.float 2 :: r) h cu su Q = AW sv mi (pc + 1) ls (.int (Int32.ofNat (sv 2).1) :: r) h cu su Q := e_hq hM hd rfl rfl rfl rfl rfl rfl (by
  show (am_aln sv h (.float 2)).map (fun n => (.int n :: r, h, cu, su)) = _
  unfold am_aln
  simp only
  rw [if_pos trivial]
  rfl)
section XR
variable {sv : am_V} {h : am_H} {σ : am_S} {Q : Option Value → am_H → Prop} {r : List Value} {x y n x0 x1 x2 x3 x4 x5 : Int32} {u w u0 u1 u2 : Int64} {a b b0 b1 b2 b3 b4 : Nat} {v z v0 v1 v2 v3 v4 v5 v6 v7 v8 v9 v10 v11 v12 v13 v14 v15 : Value}
set_option maxHeartbeats 20000 in
theorem x170_16 : AW sv 170 16 [.float 2, v1, v2, v3] r h 90 1596 Q = AW sv 170 17 [.float 2, v1, v2, v3] (.int (0) :: r) h 90 1596 Q := e_iconstv am_h170 dL_law_16 c_iconst_0
set_option maxHeartbeats 20000 in
theorem x170_17 (hc : v2.category = 1) : AW sv 170 17 [.float 2, v1, v2, v3] (.int x :: r) h 90 1596 Q = AW sv 170 18 [.float 2, v1, v2, .int x] r h 90 1596 Q := e_pv am_h170 dL_law_17 rfl rfl rfl (am_sti_of (Nat.le_of_ble_eq_true rfl) (am_c1_of rfl hc))
set_option maxHeartbeats 20000 in
theorem x170_18 : AW sv 170 18 [.float 2, v1, v2, .int x] r h 90 1596 Q = AW sv 170 19 [.float 2, v1, v2, .int x] (.int x :: r) h 90 1596 Q := e_pv am_h170 dL_law_18 rfl rfl rfl rfl
set_option maxHeartbeats 20000 in
theorem x170_19 : AW sv 170 19 [.float 2, v1, v2, v3] r h 90 1596 Q = AW sv 170 20 [.float 2, v1, v2, v3] (.float 2 :: r) h 90 1596 Q := e_pv am_h170 dL_law_19 rfl rfl rfl rfl
set_option maxHeartbeats 20000 in
theorem x170_20 : AW sv 170 20 [.float 2, v1, v2, v3] (.float 2 :: r) h 90 1596 Q = AW sv 170 21 [.float 2, v1, v2, v3] (.int (Int32.ofNat (sv 2).1) :: r) h 90 1596 Q := e_alens am_h170 dL_law_20
set_option maxHeartbeats 20000 in
theorem x170_21 : AW sv 170 21 [.float 2, v1, v2, v3] r h 90 1596 Q = AW sv 170 23 [.float 2, v1, v2, v3] (.int (6) :: r) h 90 1596 Q := e_bipushv am_h170 dL_law_21 c_bipush_6
set_option maxHeartbeats 20000 in
theorem x170_23 : AW sv 170 23 [.float 2, v1, v2, v3] (.int y :: .int x :: r) h 90 1596 Q = AW sv 170 24 [.float 2, v1, v2, v3] (.int (x - y) :: r) h 90 1596 Q := e_isub am_h170 dL_law_23
set_option maxHeartbeats 20000 in
theorem x170_24 : AW sv 170 24 [.float 2, v1, v2, v3] (.int y :: .int x :: r) h 90 1596 Q = if y < x then AW sv 170 1406 [.float 2, v1, v2, v3] r h 90 1596 Q else AW sv 170 27 [.float 2, v1, v2, v3] r h 90 1596 Q := e_c_gt am_h170 dL_law_24 rfl
set_option maxHeartbeats 20000 in
theorem x170_27 : AW sv 170 27 [.float 2, v1, v2, v3] r h 90 1596 Q = AW sv 170 28 [.float 2, v1, v2, v3] (.float 2 :: r) h 90 1596 Q := e_pv am_h170 dL_law_27 rfl rfl rfl rfl
set_option maxHeartbeats 20000 in
theorem x170_28 : AW sv 170 28 [.float 2, v1, v2, .int x] r h 90 1596 Q = AW sv 170 29 [.float 2, v1, v2, .int x] (.int x :: r) h 90 1596 Q := e_pv am_h170 dL_law_28 rfl rfl rfl rfl
set_option maxHeartbeats 20000 in
theorem x170_29 (hi : am_in x (sv 2).1 = true) : AW sv 170 29 [.float 2, v1, v2, v3] (.int x :: .float 2 :: r) h 90 1596 Q = AW sv 170 30 [.float 2, v1, v2, v3] (.int ((sv 2).2 x.toNatClampNeg) :: r) h 90 1596 Q := e_ialx am_h170 dL_law_29 hi
set_option maxHeartbeats 20000 in
theorem x170_30 : AW sv 170 30 [.float 2, v1, v2, v3] r h 90 1596 Q = AW sv 170 32 [.float 2, v1, v2, v3] (.int (63) :: r) h 90 1596 Q := e_bipushv am_h170 dL_law_30 c_bipush_63
set_option maxHeartbeats 20000 in
theorem x170_32 : AW sv 170 32 [.float 2, v1, v2, v3] (.int y :: .int x :: r) h 90 1596 Q = AW sv 170 33 [.float 2, v1, v2, v3] (.int (x &&& y) :: r) h 90 1596 Q := e_iand am_h170 dL_law_32
set_option maxHeartbeats 20000 in
theorem x170_192 : AW sv 170 192 [.float 2, .ref a, v2, v3] r h 90 1596 Q = AW sv 170 193 [.float 2, .ref a, v2, v3] (.ref a :: r) h 90 1596 Q := e_pv am_h170 dL_law_192 rfl rfl rfl rfl
set_option maxHeartbeats 20000 in
theorem x170_193 : AW sv 170 193 [.float 2, v1, v2, v3] r h 90 1596 Q = AW sv 170 194 [.float 2, v1, v2, v3] (.float 2 :: r) h 90 1596 Q := e_pv am_h170 dL_law_193 rfl rfl rfl rfl
set_option maxHeartbeats 20000 in
theorem x170_194 : AW sv 170 194 [.float 2, v1, v2, .int x] r h 90 1596 Q = AW sv 170 195 [.float 2, v1, v2, .int x] (.int x :: r) h 90 1596 Q := e_pv am_h170 dL_law_194 rfl rfl rfl rfl
set_option maxHeartbeats 20000 in
theorem x170_195 : AW sv 170 195 [.float 2, v1, v2, v3] r h 90 1596 Q = AW sv 170 196 [.float 2, v1, v2, v3] (.int (1) :: r) h 90 1596 Q := e_iconstv am_h170 dL_law_195 c_iconst_1
set_option maxHeartbeats 20000 in
theorem x170_196 : AW sv 170 196 [.float 2, v1, v2, v3] (.int y :: .int x :: r) h 90 1596 Q = AW sv 170 197 [.float 2, v1, v2, v3] (.int (x + y) :: r) h 90 1596 Q := e_iadd am_h170 dL_law_196
set_option maxHeartbeats 20000 in
theorem x170_197 (hi : am_in x (sv 2).1 = true) : AW sv 170 197 [.float 2, v1, v2, v3] (.int x :: .float 2 :: r) h 90 1596 Q = AW sv 170 198 [.float 2, v1, v2, v3] (.int ((sv 2).2 x.toNatClampNeg) :: r) h 90 1596 Q := e_ialx am_h170 dL_law_197 hi
set_option maxHeartbeats 20000 in
theorem x170_198 : AW sv 170 198 [.float 2, v1, v2, v3] r h 90 1596 Q = AW sv 170 199 [.float 2, v1, v2, v3] (.float 2 :: r) h 90 1596 Q := e_pv am_h170 dL_law_198 rfl rfl rfl rfl
set_option maxHeartbeats 20000 in
theorem x170_199 : AW sv 170 199 [.float 2, v1, v2, .int x] r h 90 1596 Q = AW sv 170 200 [.float 2, v1, v2, .int x] (.int x :: r) h 90 1596 Q := e_pv am_h170 dL_law_199 rfl rfl rfl rfl
set_option maxHeartbeats 20000 in
theorem x170_200 : AW sv 170 200 [.float 2, v1, v2, v3] r h 90 1596 Q = AW sv 170 201 [.float 2, v1, v2, v3] (.int (2) :: r) h 90 1596 Q := e_iconstv am_h170 dL_law_200 c_iconst_2
set_option maxHeartbeats 20000 in
theorem x170_201 : AW sv 170 201 [.float 2, v1, v2, v3] (.int y :: .int x :: r) h 90 1596 Q = AW sv 170 202 [.float 2, v1, v2, v3] (.int (x + y) :: r) h 90 1596 Q := e_iadd am_h170 dL_law_201
set_option maxHeartbeats 20000 in
theorem x170_202 (hi : am_in x (sv 2).1 = true) : AW sv 170 202 [.float 2, v1, v2, v3] (.int x :: .float 2 :: r) h 90 1596 Q = AW sv 170 203 [.float 2, v1, v2, v3] (.int ((sv 2).2 x.toNatClampNeg) :: r) h 90 1596 Q := e_ialx am_h170 dL_law_202 hi
set_option maxHeartbeats 20000 in
theorem x170_203 : AW sv 170 203 [.float 2, v1, v2, v3] r h 90 1596 Q = AW sv 170 204 [.float 2, v1, v2, v3] (.float 2 :: r) h 90 1596 Q := e_pv am_h170 dL_law_203 rfl rfl rfl rfl
set_option maxHeartbeats 20000 in
theorem x170_204 : AW sv 170 204 [.float 2, v1, v2, .int x] r h 90 1596 Q = AW sv 170 205 [.float 2, v1, v2, .int x] (.int x :: r) h 90 1596 Q := e_pv am_h170 dL_law_204 rfl rfl rfl rfl
set_option maxHeartbeats 20000 in
theorem x170_205 : AW sv 170 205 [.float 2, v1, v2, v3] r h 90 1596 Q = AW sv 170 206 [.float 2, v1, v2, v3] (.int (3) :: r) h 90 1596 Q := e_iconstv am_h170 dL_law_205 c_iconst_3
set_option maxHeartbeats 20000 in
theorem x170_206 : AW sv 170 206 [.float 2, v1, v2, v3] (.int y :: .int x :: r) h 90 1596 Q = AW sv 170 207 [.float 2, v1, v2, v3] (.int (x + y) :: r) h 90 1596 Q := e_iadd am_h170 dL_law_206
set_option maxHeartbeats 20000 in
theorem x170_207 (hi : am_in x (sv 2).1 = true) : AW sv 170 207 [.float 2, v1, v2, v3] (.int x :: .float 2 :: r) h 90 1596 Q = AW sv 170 208 [.float 2, v1, v2, v3] (.int ((sv 2).2 x.toNatClampNeg) :: r) h 90 1596 Q := e_ialx am_h170 dL_law_207 hi
set_option maxHeartbeats 20000 in
theorem x170_208 : AW sv 170 208 [.float 2, v1, v2, v3] r h 90 1596 Q = AW sv 170 209 [.float 2, v1, v2, v3] (.float 2 :: r) h 90 1596 Q := e_pv am_h170 dL_law_208 rfl rfl rfl rfl
set_option maxHeartbeats 20000 in
theorem x170_209 : AW sv 170 209 [.float 2, v1, v2, .int x] r h 90 1596 Q = AW sv 170 210 [.float 2, v1, v2, .int x] (.int x :: r) h 90 1596 Q := e_pv am_h170 dL_law_209 rfl rfl rfl rfl
set_option maxHeartbeats 20000 in
theorem x170_210 : AW sv 170 210 [.float 2, v1, v2, v3] r h 90 1596 Q = AW sv 170 211 [.float 2, v1, v2, v3] (.int (4) :: r) h 90 1596 Q := e_iconstv am_h170 dL_law_210 c_iconst_4
set_option maxHeartbeats 20000 in
theorem x170_211 : AW sv 170 211 [.float 2, v1, v2, v3] (.int y :: .int x :: r) h 90 1596 Q = AW sv 170 212 [.float 2, v1, v2, v3] (.int (x + y) :: r) h 90 1596 Q := e_iadd am_h170 dL_law_211
set_option maxHeartbeats 20000 in
theorem x170_212 (hi : am_in x (sv 2).1 = true) : AW sv 170 212 [.float 2, v1, v2, v3] (.int x :: .float 2 :: r) h 90 1596 Q = AW sv 170 213 [.float 2, v1, v2, v3] (.int ((sv 2).2 x.toNatClampNeg) :: r) h 90 1596 Q := e_ialx am_h170 dL_law_212 hi
set_option maxHeartbeats 20000 in
theorem x170_213 (h8 : am_cs r ≤ 8) : AW sv 170 213 [.float 2, v1, v2, v3] (.int x3 :: .int x2 :: .int x1 :: .int x0 :: .ref 0 :: r) (am_toH σ) 90 1596 Q = AM sv 61 [.ref 0, .int x0, .int x1, .int x2, .int x3] (am_toH σ) (fun v h1 => AW sv 170 216 [.float 2, v1, v2, v3] (v.toList ++ r) h1 90 1596 Q) := e_cV (as := [.int x0, .int x1, .int x2, .int x3]) am_h170 dL_law_213 ml_10_13 (by decide) am_h61 rfl is8 rfl rfl ⟨by decide, Nat.le_of_ble_eq_true rfl, am_rcL (by decide) h8⟩
set_option maxHeartbeats 20000 in
theorem x170_216 : AW sv 170 216 [.float 2, v1, .ref a, v3] r h 90 1596 Q = AW sv 170 217 [.float 2, v1, .ref a, v3] (.ref a :: r) h 90 1596 Q := e_pv am_h170 dL_law_216 rfl rfl rfl rfl
set_option maxHeartbeats 20000 in
theorem x170_217 : AW sv 170 217 [.float 2, v1, v2, v3] r h 90 1596 Q = AW sv 170 218 [.float 2, v1, v2, v3] (.float 2 :: r) h 90 1596 Q := e_pv am_h170 dL_law_217 rfl rfl rfl rfl
set_option maxHeartbeats 20000 in
theorem x170_218 : AW sv 170 218 [.float 2, v1, v2, .int x] r h 90 1596 Q = AW sv 170 219 [.float 2, v1, v2, .int x] (.int x :: r) h 90 1596 Q := e_pv am_h170 dL_law_218 rfl rfl rfl rfl
set_option maxHeartbeats 20000 in
theorem x170_219 : AW sv 170 219 [.float 2, v1, v2, v3] r h 90 1596 Q = AW sv 170 220 [.float 2, v1, v2, v3] (.int (1) :: r) h 90 1596 Q := e_iconstv am_h170 dL_law_219 c_iconst_1
set_option maxHeartbeats 20000 in
theorem x170_220 : AW sv 170 220 [.float 2, v1, v2, v3] (.int y :: .int x :: r) h 90 1596 Q = AW sv 170 221 [.float 2, v1, v2, v3] (.int (x + y) :: r) h 90 1596 Q := e_iadd am_h170 dL_law_220
set_option maxHeartbeats 20000 in
theorem x170_221 (hi : am_in x (sv 2).1 = true) : AW sv 170 221 [.float 2, v1, v2, v3] (.int x :: .float 2 :: r) h 90 1596 Q = AW sv 170 222 [.float 2, v1, v2, v3] (.int ((sv 2).2 x.toNatClampNeg) :: r) h 90 1596 Q := e_ialx am_h170 dL_law_221 hi
set_option maxHeartbeats 20000 in
theorem x170_222 : AW sv 170 222 [.float 2, v1, v2, v3] r h 90 1596 Q = AW sv 170 223 [.float 2, v1, v2, v3] (.float 2 :: r) h 90 1596 Q := e_pv am_h170 dL_law_222 rfl rfl rfl rfl
set_option maxHeartbeats 20000 in
theorem x170_223 : AW sv 170 223 [.float 2, v1, v2, .int x] r h 90 1596 Q = AW sv 170 224 [.float 2, v1, v2, .int x] (.int x :: r) h 90 1596 Q := e_pv am_h170 dL_law_223 rfl rfl rfl rfl
set_option maxHeartbeats 20000 in
theorem x170_224 : AW sv 170 224 [.float 2, v1, v2, v3] r h 90 1596 Q = AW sv 170 225 [.float 2, v1, v2, v3] (.int (2) :: r) h 90 1596 Q := e_iconstv am_h170 dL_law_224 c_iconst_2
set_option maxHeartbeats 20000 in
theorem x170_225 : AW sv 170 225 [.float 2, v1, v2, v3] (.int y :: .int x :: r) h 90 1596 Q = AW sv 170 226 [.float 2, v1, v2, v3] (.int (x + y) :: r) h 90 1596 Q := e_iadd am_h170 dL_law_225
set_option maxHeartbeats 20000 in
theorem x170_226 (hi : am_in x (sv 2).1 = true) : AW sv 170 226 [.float 2, v1, v2, v3] (.int x :: .float 2 :: r) h 90 1596 Q = AW sv 170 227 [.float 2, v1, v2, v3] (.int ((sv 2).2 x.toNatClampNeg) :: r) h 90 1596 Q := e_ialx am_h170 dL_law_226 hi
set_option maxHeartbeats 20000 in
theorem x170_227 : AW sv 170 227 [.float 2, v1, v2, v3] r h 90 1596 Q = AW sv 170 228 [.float 2, v1, v2, v3] (.float 2 :: r) h 90 1596 Q := e_pv am_h170 dL_law_227 rfl rfl rfl rfl
set_option maxHeartbeats 20000 in
theorem x170_228 : AW sv 170 228 [.float 2, v1, v2, .int x] r h 90 1596 Q = AW sv 170 229 [.float 2, v1, v2, .int x] (.int x :: r) h 90 1596 Q := e_pv am_h170 dL_law_228 rfl rfl rfl rfl
set_option maxHeartbeats 20000 in
theorem x170_229 : AW sv 170 229 [.float 2, v1, v2, v3] r h 90 1596 Q = AW sv 170 230 [.float 2, v1, v2, v3] (.int (3) :: r) h 90 1596 Q := e_iconstv am_h170 dL_law_229 c_iconst_3
set_option maxHeartbeats 20000 in
theorem x170_230 : AW sv 170 230 [.float 2, v1, v2, v3] (.int y :: .int x :: r) h 90 1596 Q = AW sv 170 231 [.float 2, v1, v2, v3] (.int (x + y) :: r) h 90 1596 Q := e_iadd am_h170 dL_law_230
set_option maxHeartbeats 20000 in
theorem x170_231 (hi : am_in x (sv 2).1 = true) : AW sv 170 231 [.float 2, v1, v2, v3] (.int x :: .float 2 :: r) h 90 1596 Q = AW sv 170 232 [.float 2, v1, v2, v3] (.int ((sv 2).2 x.toNatClampNeg) :: r) h 90 1596 Q := e_ialx am_h170 dL_law_231 hi
set_option maxHeartbeats 20000 in
theorem x170_232 : AW sv 170 232 [.float 2, v1, v2, v3] r h 90 1596 Q = AW sv 170 233 [.float 2, v1, v2, v3] (.float 2 :: r) h 90 1596 Q := e_pv am_h170 dL_law_232 rfl rfl rfl rfl
set_option maxHeartbeats 20000 in
theorem x170_233 : AW sv 170 233 [.float 2, v1, v2, .int x] r h 90 1596 Q = AW sv 170 234 [.float 2, v1, v2, .int x] (.int x :: r) h 90 1596 Q := e_pv am_h170 dL_law_233 rfl rfl rfl rfl
set_option maxHeartbeats 20000 in
theorem x170_234 : AW sv 170 234 [.float 2, v1, v2, v3] r h 90 1596 Q = AW sv 170 235 [.float 2, v1, v2, v3] (.int (4) :: r) h 90 1596 Q := e_iconstv am_h170 dL_law_234 c_iconst_4
set_option maxHeartbeats 20000 in
theorem x170_235 : AW sv 170 235 [.float 2, v1, v2, v3] (.int y :: .int x :: r) h 90 1596 Q = AW sv 170 236 [.float 2, v1, v2, v3] (.int (x + y) :: r) h 90 1596 Q := e_iadd am_h170 dL_law_235
set_option maxHeartbeats 20000 in
theorem x170_236 (hi : am_in x (sv 2).1 = true) : AW sv 170 236 [.float 2, v1, v2, v3] (.int x :: .float 2 :: r) h 90 1596 Q = AW sv 170 237 [.float 2, v1, v2, v3] (.int ((sv 2).2 x.toNatClampNeg) :: r) h 90 1596 Q := e_ialx am_h170 dL_law_236 hi
set_option maxHeartbeats 20000 in
theorem x170_237 (h8 : am_cs r ≤ 8) : AW sv 170 237 [.float 2, v1, v2, v3] (.int x3 :: .int x2 :: .int x1 :: .int x0 :: .ref 71 :: r) (am_toH σ) 90 1596 Q = AM sv 109 [.ref 71, .int x0, .int x1, .int x2, .int x3] (am_toH σ) (fun v h1 => AW sv 170 240 [.float 2, v1, v2, v3] (v.toList ++ r) h1 90 1596 Q) := e_cV (as := [.int x0, .int x1, .int x2, .int x3]) am_h170 dL_law_237 ml_10_17 (by decide) am_h109 rfl is9 rfl rfl ⟨by decide, Nat.le_of_ble_eq_true rfl, am_rcL (by decide) h8⟩
set_option maxHeartbeats 20000 in
theorem x170_240 : AW sv 170 240 [.float 2, v1, v2, v3] (.int y :: .int x :: r) h 90 1596 Q = if x = y then AW sv 170 1400 [.float 2, v1, v2, v3] r h 90 1596 Q else AW sv 170 243 [.float 2, v1, v2, v3] r h 90 1596 Q := e_c_eq am_h170 dL_law_240 rfl
set_option maxHeartbeats 20000 in
theorem x170_243 : AW sv 170 243 [.float 2, v1, v2, v3] r h 90 1596 Q = AW sv 170 244 [.float 2, v1, v2, v3] (.int (0) :: r) h 90 1596 Q := e_iconstv am_h170 dL_law_243 c_iconst_0
set_option maxHeartbeats 20000 in
theorem x170_244 (hz : x = 0 ∨ x = 1) : AW sv 170 244 [.float 2, v1, v2, v3] [.int x] h 90 1596 Q = Q (some (.int x)) h := e_zret am_h170 dL_law_244 rfl ⟨rfl, rfl⟩ hz
set_option maxHeartbeats 20000 in
theorem x170_245 : AW sv 170 245 [.float 2, .ref a, v2, v3] r h 90 1596 Q = AW sv 170 246 [.float 2, .ref a, v2, v3] (.ref a :: r) h 90 1596 Q := e_pv am_h170 dL_law_245 rfl rfl rfl rfl
set_option maxHeartbeats 20000 in
theorem x170_246 : AW sv 170 246 [.float 2, v1, v2, v3] r h 90 1596 Q = AW sv 170 247 [.float 2, v1, v2, v3] (.float 2 :: r) h 90 1596 Q := e_pv am_h170 dL_law_246 rfl rfl rfl rfl
set_option maxHeartbeats 20000 in
theorem x170_247 : AW sv 170 247 [.float 2, v1, v2, .int x] r h 90 1596 Q = AW sv 170 248 [.float 2, v1, v2, .int x] (.int x :: r) h 90 1596 Q := e_pv am_h170 dL_law_247 rfl rfl rfl rfl
set_option maxHeartbeats 20000 in
theorem x170_248 : AW sv 170 248 [.float 2, v1, v2, v3] r h 90 1596 Q = AW sv 170 249 [.float 2, v1, v2, v3] (.int (1) :: r) h 90 1596 Q := e_iconstv am_h170 dL_law_248 c_iconst_1
set_option maxHeartbeats 20000 in
theorem x170_249 : AW sv 170 249 [.float 2, v1, v2, v3] (.int y :: .int x :: r) h 90 1596 Q = AW sv 170 250 [.float 2, v1, v2, v3] (.int (x + y) :: r) h 90 1596 Q := e_iadd am_h170 dL_law_249
set_option maxHeartbeats 20000 in
theorem x170_250 (hi : am_in x (sv 2).1 = true) : AW sv 170 250 [.float 2, v1, v2, v3] (.int x :: .float 2 :: r) h 90 1596 Q = AW sv 170 251 [.float 2, v1, v2, v3] (.int ((sv 2).2 x.toNatClampNeg) :: r) h 90 1596 Q := e_ialx am_h170 dL_law_250 hi
set_option maxHeartbeats 20000 in
theorem x170_251 : AW sv 170 251 [.float 2, v1, v2, v3] r h 90 1596 Q = AW sv 170 252 [.float 2, v1, v2, v3] (.float 2 :: r) h 90 1596 Q := e_pv am_h170 dL_law_251 rfl rfl rfl rfl
set_option maxHeartbeats 20000 in
theorem x170_252 : AW sv 170 252 [.float 2, v1, v2, .int x] r h 90 1596 Q = AW sv 170 253 [.float 2, v1, v2, .int x] (.int x :: r) h 90 1596 Q := e_pv am_h170 dL_law_252 rfl rfl rfl rfl
set_option maxHeartbeats 20000 in
theorem x170_253 : AW sv 170 253 [.float 2, v1, v2, v3] r h 90 1596 Q = AW sv 170 254 [.float 2, v1, v2, v3] (.int (2) :: r) h 90 1596 Q := e_iconstv am_h170 dL_law_253 c_iconst_2
set_option maxHeartbeats 20000 in
theorem x170_254 : AW sv 170 254 [.float 2, v1, v2, v3] (.int y :: .int x :: r) h 90 1596 Q = AW sv 170 255 [.float 2, v1, v2, v3] (.int (x + y) :: r) h 90 1596 Q := e_iadd am_h170 dL_law_254
set_option maxHeartbeats 20000 in
theorem x170_255 (hi : am_in x (sv 2).1 = true) : AW sv 170 255 [.float 2, v1, v2, v3] (.int x :: .float 2 :: r) h 90 1596 Q = AW sv 170 256 [.float 2, v1, v2, v3] (.int ((sv 2).2 x.toNatClampNeg) :: r) h 90 1596 Q := e_ialx am_h170 dL_law_255 hi
set_option maxHeartbeats 20000 in
theorem x170_256 : AW sv 170 256 [.float 2, v1, v2, v3] r h 90 1596 Q = AW sv 170 257 [.float 2, v1, v2, v3] (.float 2 :: r) h 90 1596 Q := e_pv am_h170 dL_law_256 rfl rfl rfl rfl
set_option maxHeartbeats 20000 in
theorem x170_257 : AW sv 170 257 [.float 2, v1, v2, .int x] r h 90 1596 Q = AW sv 170 258 [.float 2, v1, v2, .int x] (.int x :: r) h 90 1596 Q := e_pv am_h170 dL_law_257 rfl rfl rfl rfl
set_option maxHeartbeats 20000 in
theorem x170_258 : AW sv 170 258 [.float 2, v1, v2, v3] r h 90 1596 Q = AW sv 170 259 [.float 2, v1, v2, v3] (.int (3) :: r) h 90 1596 Q := e_iconstv am_h170 dL_law_258 c_iconst_3
set_option maxHeartbeats 20000 in
theorem x170_259 : AW sv 170 259 [.float 2, v1, v2, v3] (.int y :: .int x :: r) h 90 1596 Q = AW sv 170 260 [.float 2, v1, v2, v3] (.int (x + y) :: r) h 90 1596 Q := e_iadd am_h170 dL_law_259
set_option maxHeartbeats 20000 in
theorem x170_260 (hi : am_in x (sv 2).1 = true) : AW sv 170 260 [.float 2, v1, v2, v3] (.int x :: .float 2 :: r) h 90 1596 Q = AW sv 170 261 [.float 2, v1, v2, v3] (.int ((sv 2).2 x.toNatClampNeg) :: r) h 90 1596 Q := e_ialx am_h170 dL_law_260 hi
set_option maxHeartbeats 20000 in
theorem x170_261 (h8 : am_cs r ≤ 8) : AW sv 170 261 [.float 2, v1, v2, v3] (.int x2 :: .int x1 :: .int x0 :: .ref 0 :: r) (am_toH σ) 90 1596 Q = AM sv 62 [.ref 0, .int x0, .int x1, .int x2] (am_toH σ) (fun v h1 => AW sv 170 264 [.float 2, v1, v2, v3] (v.toList ++ r) h1 90 1596 Q) := e_cV (as := [.int x0, .int x1, .int x2]) am_h170 dL_law_261 ml_10_18 (by decide) am_h62 rfl is8 rfl rfl ⟨by decide, Nat.le_of_ble_eq_true rfl, am_rcL (by decide) h8⟩
set_option maxHeartbeats 20000 in
theorem x170_264 : AW sv 170 264 [.float 2, v1, .ref a, v3] r h 90 1596 Q = AW sv 170 265 [.float 2, v1, .ref a, v3] (.ref a :: r) h 90 1596 Q := e_pv am_h170 dL_law_264 rfl rfl rfl rfl
set_option maxHeartbeats 20000 in
theorem x170_265 : AW sv 170 265 [.float 2, v1, v2, v3] r h 90 1596 Q = AW sv 170 266 [.float 2, v1, v2, v3] (.float 2 :: r) h 90 1596 Q := e_pv am_h170 dL_law_265 rfl rfl rfl rfl
set_option maxHeartbeats 20000 in
theorem x170_266 : AW sv 170 266 [.float 2, v1, v2, .int x] r h 90 1596 Q = AW sv 170 267 [.float 2, v1, v2, .int x] (.int x :: r) h 90 1596 Q := e_pv am_h170 dL_law_266 rfl rfl rfl rfl
set_option maxHeartbeats 20000 in
theorem x170_267 : AW sv 170 267 [.float 2, v1, v2, v3] r h 90 1596 Q = AW sv 170 268 [.float 2, v1, v2, v3] (.int (1) :: r) h 90 1596 Q := e_iconstv am_h170 dL_law_267 c_iconst_1
set_option maxHeartbeats 20000 in
theorem x170_268 : AW sv 170 268 [.float 2, v1, v2, v3] (.int y :: .int x :: r) h 90 1596 Q = AW sv 170 269 [.float 2, v1, v2, v3] (.int (x + y) :: r) h 90 1596 Q := e_iadd am_h170 dL_law_268
set_option maxHeartbeats 20000 in
theorem x170_269 (hi : am_in x (sv 2).1 = true) : AW sv 170 269 [.float 2, v1, v2, v3] (.int x :: .float 2 :: r) h 90 1596 Q = AW sv 170 270 [.float 2, v1, v2, v3] (.int ((sv 2).2 x.toNatClampNeg) :: r) h 90 1596 Q := e_ialx am_h170 dL_law_269 hi
set_option maxHeartbeats 20000 in
theorem x170_270 : AW sv 170 270 [.float 2, v1, v2, v3] r h 90 1596 Q = AW sv 170 271 [.float 2, v1, v2, v3] (.float 2 :: r) h 90 1596 Q := e_pv am_h170 dL_law_270 rfl rfl rfl rfl
set_option maxHeartbeats 20000 in
theorem x170_271 : AW sv 170 271 [.float 2, v1, v2, .int x] r h 90 1596 Q = AW sv 170 272 [.float 2, v1, v2, .int x] (.int x :: r) h 90 1596 Q := e_pv am_h170 dL_law_271 rfl rfl rfl rfl
set_option maxHeartbeats 20000 in
theorem x170_272 : AW sv 170 272 [.float 2, v1, v2, v3] r h 90 1596 Q = AW sv 170 273 [.float 2, v1, v2, v3] (.int (2) :: r) h 90 1596 Q := e_iconstv am_h170 dL_law_272 c_iconst_2
set_option maxHeartbeats 20000 in
theorem x170_273 : AW sv 170 273 [.float 2, v1, v2, v3] (.int y :: .int x :: r) h 90 1596 Q = AW sv 170 274 [.float 2, v1, v2, v3] (.int (x + y) :: r) h 90 1596 Q := e_iadd am_h170 dL_law_273
set_option maxHeartbeats 20000 in
theorem x170_274 (hi : am_in x (sv 2).1 = true) : AW sv 170 274 [.float 2, v1, v2, v3] (.int x :: .float 2 :: r) h 90 1596 Q = AW sv 170 275 [.float 2, v1, v2, v3] (.int ((sv 2).2 x.toNatClampNeg) :: r) h 90 1596 Q := e_ialx am_h170 dL_law_274 hi
set_option maxHeartbeats 20000 in
theorem x170_275 : AW sv 170 275 [.float 2, v1, v2, v3] r h 90 1596 Q = AW sv 170 276 [.float 2, v1, v2, v3] (.float 2 :: r) h 90 1596 Q := e_pv am_h170 dL_law_275 rfl rfl rfl rfl
set_option maxHeartbeats 20000 in
theorem x170_276 : AW sv 170 276 [.float 2, v1, v2, .int x] r h 90 1596 Q = AW sv 170 277 [.float 2, v1, v2, .int x] (.int x :: r) h 90 1596 Q := e_pv am_h170 dL_law_276 rfl rfl rfl rfl
set_option maxHeartbeats 20000 in
theorem x170_277 : AW sv 170 277 [.float 2, v1, v2, v3] r h 90 1596 Q = AW sv 170 278 [.float 2, v1, v2, v3] (.int (3) :: r) h 90 1596 Q := e_iconstv am_h170 dL_law_277 c_iconst_3
set_option maxHeartbeats 20000 in
theorem x170_278 : AW sv 170 278 [.float 2, v1, v2, v3] (.int y :: .int x :: r) h 90 1596 Q = AW sv 170 279 [.float 2, v1, v2, v3] (.int (x + y) :: r) h 90 1596 Q := e_iadd am_h170 dL_law_278
set_option maxHeartbeats 20000 in
theorem x170_279 (hi : am_in x (sv 2).1 = true) : AW sv 170 279 [.float 2, v1, v2, v3] (.int x :: .float 2 :: r) h 90 1596 Q = AW sv 170 280 [.float 2, v1, v2, v3] (.int ((sv 2).2 x.toNatClampNeg) :: r) h 90 1596 Q := e_ialx am_h170 dL_law_279 hi
set_option maxHeartbeats 20000 in
theorem x170_280 (h8 : am_cs r ≤ 8) : AW sv 170 280 [.float 2, v1, v2, v3] (.int x2 :: .int x1 :: .int x0 :: .ref 71 :: r) (am_toH σ) 90 1596 Q = AM sv 110 [.ref 71, .int x0, .int x1, .int x2] (am_toH σ) (fun v h1 => AW sv 170 283 [.float 2, v1, v2, v3] (v.toList ++ r) h1 90 1596 Q) := e_cV (as := [.int x0, .int x1, .int x2]) am_h170 dL_law_280 ml_10_22 (by decide) am_h110 rfl is9 rfl rfl ⟨by decide, Nat.le_of_ble_eq_true rfl, am_rcL (by decide) h8⟩
set_option maxHeartbeats 20000 in
theorem x170_283 : AW sv 170 283 [.float 2, v1, v2, v3] (.int y :: .int x :: r) h 90 1596 Q = if x = y then AW sv 170 1400 [.float 2, v1, v2, v3] r h 90 1596 Q else AW sv 170 286 [.float 2, v1, v2, v3] r h 90 1596 Q := e_c_eq am_h170 dL_law_283 rfl
set_option maxHeartbeats 20000 in
theorem x170_286 : AW sv 170 286 [.float 2, v1, v2, v3] r h 90 1596 Q = AW sv 170 287 [.float 2, v1, v2, v3] (.int (0) :: r) h 90 1596 Q := e_iconstv am_h170 dL_law_286 c_iconst_0
set_option maxHeartbeats 20000 in
theorem x170_287 (hz : x = 0 ∨ x = 1) : AW sv 170 287 [.float 2, v1, v2, v3] [.int x] h 90 1596 Q = Q (some (.int x)) h := e_zret am_h170 dL_law_287 rfl ⟨rfl, rfl⟩ hz
set_option maxHeartbeats 20000 in
theorem x170_288 : AW sv 170 288 [.float 2, .ref a, v2, v3] r h 90 1596 Q = AW sv 170 289 [.float 2, .ref a, v2, v3] (.ref a :: r) h 90 1596 Q := e_pv am_h170 dL_law_288 rfl rfl rfl rfl
set_option maxHeartbeats 20000 in
theorem x170_289 : AW sv 170 289 [.float 2, v1, v2, v3] r h 90 1596 Q = AW sv 170 290 [.float 2, v1, v2, v3] (.float 2 :: r) h 90 1596 Q := e_pv am_h170 dL_law_289 rfl rfl rfl rfl
set_option maxHeartbeats 20000 in
theorem x170_290 : AW sv 170 290 [.float 2, v1, v2, .int x] r h 90 1596 Q = AW sv 170 291 [.float 2, v1, v2, .int x] (.int x :: r) h 90 1596 Q := e_pv am_h170 dL_law_290 rfl rfl rfl rfl
set_option maxHeartbeats 20000 in
theorem x170_291 : AW sv 170 291 [.float 2, v1, v2, v3] r h 90 1596 Q = AW sv 170 292 [.float 2, v1, v2, v3] (.int (1) :: r) h 90 1596 Q := e_iconstv am_h170 dL_law_291 c_iconst_1
set_option maxHeartbeats 20000 in
theorem x170_292 : AW sv 170 292 [.float 2, v1, v2, v3] (.int y :: .int x :: r) h 90 1596 Q = AW sv 170 293 [.float 2, v1, v2, v3] (.int (x + y) :: r) h 90 1596 Q := e_iadd am_h170 dL_law_292
set_option maxHeartbeats 20000 in
theorem x170_293 (hi : am_in x (sv 2).1 = true) : AW sv 170 293 [.float 2, v1, v2, v3] (.int x :: .float 2 :: r) h 90 1596 Q = AW sv 170 294 [.float 2, v1, v2, v3] (.int ((sv 2).2 x.toNatClampNeg) :: r) h 90 1596 Q := e_ialx am_h170 dL_law_293 hi
set_option maxHeartbeats 20000 in
theorem x170_294 (h8 : am_cs r ≤ 8) : AW sv 170 294 [.float 2, v1, v2, v3] (.int x0 :: .ref 0 :: r) (am_toH σ) 90 1596 Q = AM sv 63 [.ref 0, .int x0] (am_toH σ) (fun v h1 => AW sv 170 297 [.float 2, v1, v2, v3] (v.toList ++ r) h1 90 1596 Q) := e_cV (as := [.int x0]) am_h170 dL_law_294 ml_10_23 (by decide) am_h63 rfl is8 rfl rfl ⟨by decide, Nat.le_of_ble_eq_true rfl, am_rcL (by decide) h8⟩
set_option maxHeartbeats 20000 in
theorem x170_297 : AW sv 170 297 [.float 2, v1, .ref a, v3] r h 90 1596 Q = AW sv 170 298 [.float 2, v1, .ref a, v3] (.ref a :: r) h 90 1596 Q := e_pv am_h170 dL_law_297 rfl rfl rfl rfl
set_option maxHeartbeats 20000 in
theorem x170_298 : AW sv 170 298 [.float 2, v1, v2, v3] r h 90 1596 Q = AW sv 170 299 [.float 2, v1, v2, v3] (.float 2 :: r) h 90 1596 Q := e_pv am_h170 dL_law_298 rfl rfl rfl rfl
set_option maxHeartbeats 20000 in
theorem x170_299 : AW sv 170 299 [.float 2, v1, v2, .int x] r h 90 1596 Q = AW sv 170 300 [.float 2, v1, v2, .int x] (.int x :: r) h 90 1596 Q := e_pv am_h170 dL_law_299 rfl rfl rfl rfl
set_option maxHeartbeats 20000 in
theorem x170_300 : AW sv 170 300 [.float 2, v1, v2, v3] r h 90 1596 Q = AW sv 170 301 [.float 2, v1, v2, v3] (.int (1) :: r) h 90 1596 Q := e_iconstv am_h170 dL_law_300 c_iconst_1
set_option maxHeartbeats 20000 in
theorem x170_301 : AW sv 170 301 [.float 2, v1, v2, v3] (.int y :: .int x :: r) h 90 1596 Q = AW sv 170 302 [.float 2, v1, v2, v3] (.int (x + y) :: r) h 90 1596 Q := e_iadd am_h170 dL_law_301
set_option maxHeartbeats 20000 in
theorem x170_302 (hi : am_in x (sv 2).1 = true) : AW sv 170 302 [.float 2, v1, v2, v3] (.int x :: .float 2 :: r) h 90 1596 Q = AW sv 170 303 [.float 2, v1, v2, v3] (.int ((sv 2).2 x.toNatClampNeg) :: r) h 90 1596 Q := e_ialx am_h170 dL_law_302 hi
set_option maxHeartbeats 20000 in
theorem x170_303 (h8 : am_cs r ≤ 8) : AW sv 170 303 [.float 2, v1, v2, v3] (.int x0 :: .ref 71 :: r) (am_toH σ) 90 1596 Q = AM sv 111 [.ref 71, .int x0] (am_toH σ) (fun v h1 => AW sv 170 306 [.float 2, v1, v2, v3] (v.toList ++ r) h1 90 1596 Q) := e_cV (as := [.int x0]) am_h170 dL_law_303 ml_10_27 (by decide) am_h111 rfl is9 rfl rfl ⟨by decide, Nat.le_of_ble_eq_true rfl, am_rcL (by decide) h8⟩
set_option maxHeartbeats 20000 in
theorem x170_306 : AW sv 170 306 [.float 2, v1, v2, v3] (.int y :: .int x :: r) h 90 1596 Q = if x = y then AW sv 170 1400 [.float 2, v1, v2, v3] r h 90 1596 Q else AW sv 170 309 [.float 2, v1, v2, v3] r h 90 1596 Q := e_c_eq am_h170 dL_law_306 rfl
set_option maxHeartbeats 20000 in
theorem x170_309 : AW sv 170 309 [.float 2, v1, v2, v3] r h 90 1596 Q = AW sv 170 310 [.float 2, v1, v2, v3] (.int (0) :: r) h 90 1596 Q := e_iconstv am_h170 dL_law_309 c_iconst_0
set_option maxHeartbeats 20000 in
theorem x170_310 (hz : x = 0 ∨ x = 1) : AW sv 170 310 [.float 2, v1, v2, v3] [.int x] h 90 1596 Q = Q (some (.int x)) h := e_zret am_h170 dL_law_310 rfl ⟨rfl, rfl⟩ hz
set_option maxHeartbeats 20000 in
theorem x170_311 : AW sv 170 311 [.float 2, .ref a, v2, v3] r h 90 1596 Q = AW sv 170 312 [.float 2, .ref a, v2, v3] (.ref a :: r) h 90 1596 Q := e_pv am_h170 dL_law_311 rfl rfl rfl rfl
set_option maxHeartbeats 20000 in
theorem x170_312 : AW sv 170 312 [.float 2, v1, v2, v3] r h 90 1596 Q = AW sv 170 313 [.float 2, v1, v2, v3] (.float 2 :: r) h 90 1596 Q := e_pv am_h170 dL_law_312 rfl rfl rfl rfl
set_option maxHeartbeats 20000 in
theorem x170_313 : AW sv 170 313 [.float 2, v1, v2, .int x] r h 90 1596 Q = AW sv 170 314 [.float 2, v1, v2, .int x] (.int x :: r) h 90 1596 Q := e_pv am_h170 dL_law_313 rfl rfl rfl rfl
set_option maxHeartbeats 20000 in
theorem x170_314 : AW sv 170 314 [.float 2, v1, v2, v3] r h 90 1596 Q = AW sv 170 315 [.float 2, v1, v2, v3] (.int (1) :: r) h 90 1596 Q := e_iconstv am_h170 dL_law_314 c_iconst_1
set_option maxHeartbeats 20000 in
theorem x170_315 : AW sv 170 315 [.float 2, v1, v2, v3] (.int y :: .int x :: r) h 90 1596 Q = AW sv 170 316 [.float 2, v1, v2, v3] (.int (x + y) :: r) h 90 1596 Q := e_iadd am_h170 dL_law_315
set_option maxHeartbeats 20000 in
theorem x170_316 (hi : am_in x (sv 2).1 = true) : AW sv 170 316 [.float 2, v1, v2, v3] (.int x :: .float 2 :: r) h 90 1596 Q = AW sv 170 317 [.float 2, v1, v2, v3] (.int ((sv 2).2 x.toNatClampNeg) :: r) h 90 1596 Q := e_ialx am_h170 dL_law_316 hi
set_option maxHeartbeats 20000 in
theorem x170_317 : AW sv 170 317 [.float 2, v1, v2, v3] r h 90 1596 Q = AW sv 170 318 [.float 2, v1, v2, v3] (.float 2 :: r) h 90 1596 Q := e_pv am_h170 dL_law_317 rfl rfl rfl rfl
set_option maxHeartbeats 20000 in
theorem x170_318 : AW sv 170 318 [.float 2, v1, v2, .int x] r h 90 1596 Q = AW sv 170 319 [.float 2, v1, v2, .int x] (.int x :: r) h 90 1596 Q := e_pv am_h170 dL_law_318 rfl rfl rfl rfl
set_option maxHeartbeats 20000 in
theorem x170_319 : AW sv 170 319 [.float 2, v1, v2, v3] r h 90 1596 Q = AW sv 170 320 [.float 2, v1, v2, v3] (.int (2) :: r) h 90 1596 Q := e_iconstv am_h170 dL_law_319 c_iconst_2
set_option maxHeartbeats 20000 in
theorem x170_320 : AW sv 170 320 [.float 2, v1, v2, v3] (.int y :: .int x :: r) h 90 1596 Q = AW sv 170 321 [.float 2, v1, v2, v3] (.int (x + y) :: r) h 90 1596 Q := e_iadd am_h170 dL_law_320
set_option maxHeartbeats 20000 in
theorem x170_321 (hi : am_in x (sv 2).1 = true) : AW sv 170 321 [.float 2, v1, v2, v3] (.int x :: .float 2 :: r) h 90 1596 Q = AW sv 170 322 [.float 2, v1, v2, v3] (.int ((sv 2).2 x.toNatClampNeg) :: r) h 90 1596 Q := e_ialx am_h170 dL_law_321 hi
set_option maxHeartbeats 20000 in
theorem x170_322 (h8 : am_cs r ≤ 8) : AW sv 170 322 [.float 2, v1, v2, v3] (.int x1 :: .int x0 :: .ref 0 :: r) (am_toH σ) 90 1596 Q = AM sv 64 [.ref 0, .int x0, .int x1] (am_toH σ) (fun v h1 => AW sv 170 325 [.float 2, v1, v2, v3] (v.toList ++ r) h1 90 1596 Q) := e_cV (as := [.int x0, .int x1]) am_h170 dL_law_322 ml_10_28 (by decide) am_h64 rfl is8 rfl rfl ⟨by decide, Nat.le_of_ble_eq_true rfl, am_rcL (by decide) h8⟩
set_option maxHeartbeats 20000 in
theorem x170_325 : AW sv 170 325 [.float 2, v1, .ref a, v3] r h 90 1596 Q = AW sv 170 326 [.float 2, v1, .ref a, v3] (.ref a :: r) h 90 1596 Q := e_pv am_h170 dL_law_325 rfl rfl rfl rfl
set_option maxHeartbeats 20000 in
theorem x170_326 : AW sv 170 326 [.float 2, v1, v2, v3] r h 90 1596 Q = AW sv 170 327 [.float 2, v1, v2, v3] (.float 2 :: r) h 90 1596 Q := e_pv am_h170 dL_law_326 rfl rfl rfl rfl
set_option maxHeartbeats 20000 in
theorem x170_327 : AW sv 170 327 [.float 2, v1, v2, .int x] r h 90 1596 Q = AW sv 170 328 [.float 2, v1, v2, .int x] (.int x :: r) h 90 1596 Q := e_pv am_h170 dL_law_327 rfl rfl rfl rfl
set_option maxHeartbeats 20000 in
theorem x170_328 : AW sv 170 328 [.float 2, v1, v2, v3] r h 90 1596 Q = AW sv 170 329 [.float 2, v1, v2, v3] (.int (1) :: r) h 90 1596 Q := e_iconstv am_h170 dL_law_328 c_iconst_1
set_option maxHeartbeats 20000 in
theorem x170_329 : AW sv 170 329 [.float 2, v1, v2, v3] (.int y :: .int x :: r) h 90 1596 Q = AW sv 170 330 [.float 2, v1, v2, v3] (.int (x + y) :: r) h 90 1596 Q := e_iadd am_h170 dL_law_329
set_option maxHeartbeats 20000 in
theorem x170_330 (hi : am_in x (sv 2).1 = true) : AW sv 170 330 [.float 2, v1, v2, v3] (.int x :: .float 2 :: r) h 90 1596 Q = AW sv 170 331 [.float 2, v1, v2, v3] (.int ((sv 2).2 x.toNatClampNeg) :: r) h 90 1596 Q := e_ialx am_h170 dL_law_330 hi
set_option maxHeartbeats 20000 in
theorem x170_331 : AW sv 170 331 [.float 2, v1, v2, v3] r h 90 1596 Q = AW sv 170 332 [.float 2, v1, v2, v3] (.float 2 :: r) h 90 1596 Q := e_pv am_h170 dL_law_331 rfl rfl rfl rfl
set_option maxHeartbeats 20000 in
theorem x170_332 : AW sv 170 332 [.float 2, v1, v2, .int x] r h 90 1596 Q = AW sv 170 333 [.float 2, v1, v2, .int x] (.int x :: r) h 90 1596 Q := e_pv am_h170 dL_law_332 rfl rfl rfl rfl
set_option maxHeartbeats 20000 in
theorem x170_333 : AW sv 170 333 [.float 2, v1, v2, v3] r h 90 1596 Q = AW sv 170 334 [.float 2, v1, v2, v3] (.int (2) :: r) h 90 1596 Q := e_iconstv am_h170 dL_law_333 c_iconst_2
set_option maxHeartbeats 20000 in
theorem x170_334 : AW sv 170 334 [.float 2, v1, v2, v3] (.int y :: .int x :: r) h 90 1596 Q = AW sv 170 335 [.float 2, v1, v2, v3] (.int (x + y) :: r) h 90 1596 Q := e_iadd am_h170 dL_law_334
set_option maxHeartbeats 20000 in
theorem x170_335 (hi : am_in x (sv 2).1 = true) : AW sv 170 335 [.float 2, v1, v2, v3] (.int x :: .float 2 :: r) h 90 1596 Q = AW sv 170 336 [.float 2, v1, v2, v3] (.int ((sv 2).2 x.toNatClampNeg) :: r) h 90 1596 Q := e_ialx am_h170 dL_law_335 hi
set_option maxHeartbeats 20000 in
theorem x170_336 (h8 : am_cs r ≤ 8) : AW sv 170 336 [.float 2, v1, v2, v3] (.int x1 :: .int x0 :: .ref 71 :: r) (am_toH σ) 90 1596 Q = AM sv 112 [.ref 71, .int x0, .int x1] (am_toH σ) (fun v h1 => AW sv 170 339 [.float 2, v1, v2, v3] (v.toList ++ r) h1 90 1596 Q) := e_cV (as := [.int x0, .int x1]) am_h170 dL_law_336 ml_10_32 (by decide) am_h112 rfl is9 rfl rfl ⟨by decide, Nat.le_of_ble_eq_true rfl, am_rcL (by decide) h8⟩
set_option maxHeartbeats 20000 in
theorem x170_339 : AW sv 170 339 [.float 2, v1, v2, v3] (.int y :: .int x :: r) h 90 1596 Q = if x = y then AW sv 170 1400 [.float 2, v1, v2, v3] r h 90 1596 Q else AW sv 170 342 [.float 2, v1, v2, v3] r h 90 1596 Q := e_c_eq am_h170 dL_law_339 rfl
set_option maxHeartbeats 20000 in
theorem x170_342 : AW sv 170 342 [.float 2, v1, v2, v3] r h 90 1596 Q = AW sv 170 343 [.float 2, v1, v2, v3] (.int (0) :: r) h 90 1596 Q := e_iconstv am_h170 dL_law_342 c_iconst_0
set_option maxHeartbeats 20000 in
theorem x170_343 (hz : x = 0 ∨ x = 1) : AW sv 170 343 [.float 2, v1, v2, v3] [.int x] h 90 1596 Q = Q (some (.int x)) h := e_zret am_h170 dL_law_343 rfl ⟨rfl, rfl⟩ hz
set_option maxHeartbeats 20000 in
theorem x170_344 : AW sv 170 344 [.float 2, .ref a, v2, v3] r h 90 1596 Q = AW sv 170 345 [.float 2, .ref a, v2, v3] (.ref a :: r) h 90 1596 Q := e_pv am_h170 dL_law_344 rfl rfl rfl rfl
set_option maxHeartbeats 20000 in
theorem x170_345 : AW sv 170 345 [.float 2, v1, v2, v3] r h 90 1596 Q = AW sv 170 346 [.float 2, v1, v2, v3] (.float 2 :: r) h 90 1596 Q := e_pv am_h170 dL_law_345 rfl rfl rfl rfl
set_option maxHeartbeats 20000 in
theorem x170_346 : AW sv 170 346 [.float 2, v1, v2, .int x] r h 90 1596 Q = AW sv 170 347 [.float 2, v1, v2, .int x] (.int x :: r) h 90 1596 Q := e_pv am_h170 dL_law_346 rfl rfl rfl rfl
set_option maxHeartbeats 20000 in
theorem x170_347 : AW sv 170 347 [.float 2, v1, v2, v3] r h 90 1596 Q = AW sv 170 348 [.float 2, v1, v2, v3] (.int (1) :: r) h 90 1596 Q := e_iconstv am_h170 dL_law_347 c_iconst_1
set_option maxHeartbeats 20000 in
theorem x170_348 : AW sv 170 348 [.float 2, v1, v2, v3] (.int y :: .int x :: r) h 90 1596 Q = AW sv 170 349 [.float 2, v1, v2, v3] (.int (x + y) :: r) h 90 1596 Q := e_iadd am_h170 dL_law_348
set_option maxHeartbeats 20000 in
theorem x170_349 (hi : am_in x (sv 2).1 = true) : AW sv 170 349 [.float 2, v1, v2, v3] (.int x :: .float 2 :: r) h 90 1596 Q = AW sv 170 350 [.float 2, v1, v2, v3] (.int ((sv 2).2 x.toNatClampNeg) :: r) h 90 1596 Q := e_ialx am_h170 dL_law_349 hi
set_option maxHeartbeats 20000 in
theorem x170_350 : AW sv 170 350 [.float 2, v1, v2, v3] r h 90 1596 Q = AW sv 170 351 [.float 2, v1, v2, v3] (.float 2 :: r) h 90 1596 Q := e_pv am_h170 dL_law_350 rfl rfl rfl rfl
set_option maxHeartbeats 20000 in
theorem x170_351 : AW sv 170 351 [.float 2, v1, v2, .int x] r h 90 1596 Q = AW sv 170 352 [.float 2, v1, v2, .int x] (.int x :: r) h 90 1596 Q := e_pv am_h170 dL_law_351 rfl rfl rfl rfl
set_option maxHeartbeats 20000 in
theorem x170_352 : AW sv 170 352 [.float 2, v1, v2, v3] r h 90 1596 Q = AW sv 170 353 [.float 2, v1, v2, v3] (.int (2) :: r) h 90 1596 Q := e_iconstv am_h170 dL_law_352 c_iconst_2
set_option maxHeartbeats 20000 in
theorem x170_353 : AW sv 170 353 [.float 2, v1, v2, v3] (.int y :: .int x :: r) h 90 1596 Q = AW sv 170 354 [.float 2, v1, v2, v3] (.int (x + y) :: r) h 90 1596 Q := e_iadd am_h170 dL_law_353
set_option maxHeartbeats 20000 in
theorem x170_354 (hi : am_in x (sv 2).1 = true) : AW sv 170 354 [.float 2, v1, v2, v3] (.int x :: .float 2 :: r) h 90 1596 Q = AW sv 170 355 [.float 2, v1, v2, v3] (.int ((sv 2).2 x.toNatClampNeg) :: r) h 90 1596 Q := e_ialx am_h170 dL_law_354 hi
set_option maxHeartbeats 20000 in
theorem x170_355 (h8 : am_cs r ≤ 8) : AW sv 170 355 [.float 2, v1, v2, v3] (.int x1 :: .int x0 :: .ref 0 :: r) (am_toH σ) 90 1596 Q = AM sv 65 [.ref 0, .int x0, .int x1] (am_toH σ) (fun v h1 => AW sv 170 358 [.float 2, v1, v2, v3] (v.toList ++ r) h1 90 1596 Q) := e_cV (as := [.int x0, .int x1]) am_h170 dL_law_355 ml_10_33 (by decide) am_h65 rfl is8 rfl rfl ⟨by decide, Nat.le_of_ble_eq_true rfl, am_rcL (by decide) h8⟩
set_option maxHeartbeats 20000 in
theorem x170_358 : AW sv 170 358 [.float 2, v1, .ref a, v3] r h 90 1596 Q = AW sv 170 359 [.float 2, v1, .ref a, v3] (.ref a :: r) h 90 1596 Q := e_pv am_h170 dL_law_358 rfl rfl rfl rfl
set_option maxHeartbeats 20000 in
theorem x170_359 : AW sv 170 359 [.float 2, v1, v2, v3] r h 90 1596 Q = AW sv 170 360 [.float 2, v1, v2, v3] (.float 2 :: r) h 90 1596 Q := e_pv am_h170 dL_law_359 rfl rfl rfl rfl
set_option maxHeartbeats 20000 in
theorem x170_360 : AW sv 170 360 [.float 2, v1, v2, .int x] r h 90 1596 Q = AW sv 170 361 [.float 2, v1, v2, .int x] (.int x :: r) h 90 1596 Q := e_pv am_h170 dL_law_360 rfl rfl rfl rfl
set_option maxHeartbeats 20000 in
theorem x170_361 : AW sv 170 361 [.float 2, v1, v2, v3] r h 90 1596 Q = AW sv 170 362 [.float 2, v1, v2, v3] (.int (1) :: r) h 90 1596 Q := e_iconstv am_h170 dL_law_361 c_iconst_1
set_option maxHeartbeats 20000 in
theorem x170_362 : AW sv 170 362 [.float 2, v1, v2, v3] (.int y :: .int x :: r) h 90 1596 Q = AW sv 170 363 [.float 2, v1, v2, v3] (.int (x + y) :: r) h 90 1596 Q := e_iadd am_h170 dL_law_362
set_option maxHeartbeats 20000 in
theorem x170_363 (hi : am_in x (sv 2).1 = true) : AW sv 170 363 [.float 2, v1, v2, v3] (.int x :: .float 2 :: r) h 90 1596 Q = AW sv 170 364 [.float 2, v1, v2, v3] (.int ((sv 2).2 x.toNatClampNeg) :: r) h 90 1596 Q := e_ialx am_h170 dL_law_363 hi
set_option maxHeartbeats 20000 in
theorem x170_364 : AW sv 170 364 [.float 2, v1, v2, v3] r h 90 1596 Q = AW sv 170 365 [.float 2, v1, v2, v3] (.float 2 :: r) h 90 1596 Q := e_pv am_h170 dL_law_364 rfl rfl rfl rfl
set_option maxHeartbeats 20000 in
theorem x170_365 : AW sv 170 365 [.float 2, v1, v2, .int x] r h 90 1596 Q = AW sv 170 366 [.float 2, v1, v2, .int x] (.int x :: r) h 90 1596 Q := e_pv am_h170 dL_law_365 rfl rfl rfl rfl
set_option maxHeartbeats 20000 in
theorem x170_366 : AW sv 170 366 [.float 2, v1, v2, v3] r h 90 1596 Q = AW sv 170 367 [.float 2, v1, v2, v3] (.int (2) :: r) h 90 1596 Q := e_iconstv am_h170 dL_law_366 c_iconst_2
set_option maxHeartbeats 20000 in
theorem x170_367 : AW sv 170 367 [.float 2, v1, v2, v3] (.int y :: .int x :: r) h 90 1596 Q = AW sv 170 368 [.float 2, v1, v2, v3] (.int (x + y) :: r) h 90 1596 Q := e_iadd am_h170 dL_law_367
set_option maxHeartbeats 20000 in
theorem x170_368 (hi : am_in x (sv 2).1 = true) : AW sv 170 368 [.float 2, v1, v2, v3] (.int x :: .float 2 :: r) h 90 1596 Q = AW sv 170 369 [.float 2, v1, v2, v3] (.int ((sv 2).2 x.toNatClampNeg) :: r) h 90 1596 Q := e_ialx am_h170 dL_law_368 hi
set_option maxHeartbeats 20000 in
theorem x170_369 (h8 : am_cs r ≤ 8) : AW sv 170 369 [.float 2, v1, v2, v3] (.int x1 :: .int x0 :: .ref 71 :: r) (am_toH σ) 90 1596 Q = AM sv 115 [.ref 71, .int x0, .int x1] (am_toH σ) (fun v h1 => AW sv 170 372 [.float 2, v1, v2, v3] (v.toList ++ r) h1 90 1596 Q) := e_cV (as := [.int x0, .int x1]) am_h170 dL_law_369 ml_10_36 (by decide) am_h115 rfl is9 rfl rfl ⟨by decide, Nat.le_of_ble_eq_true rfl, am_rcL (by decide) h8⟩
set_option maxHeartbeats 20000 in
theorem x170_372 : AW sv 170 372 [.float 2, v1, v2, v3] (.int y :: .int x :: r) h 90 1596 Q = if x = y then AW sv 170 1400 [.float 2, v1, v2, v3] r h 90 1596 Q else AW sv 170 375 [.float 2, v1, v2, v3] r h 90 1596 Q := e_c_eq am_h170 dL_law_372 rfl
set_option maxHeartbeats 20000 in
theorem x170_375 : AW sv 170 375 [.float 2, v1, v2, v3] r h 90 1596 Q = AW sv 170 376 [.float 2, v1, v2, v3] (.int (0) :: r) h 90 1596 Q := e_iconstv am_h170 dL_law_375 c_iconst_0
set_option maxHeartbeats 20000 in
theorem x170_376 (hz : x = 0 ∨ x = 1) : AW sv 170 376 [.float 2, v1, v2, v3] [.int x] h 90 1596 Q = Q (some (.int x)) h := e_zret am_h170 dL_law_376 rfl ⟨rfl, rfl⟩ hz
set_option maxHeartbeats 20000 in
theorem x170_377 : AW sv 170 377 [.float 2, .ref a, v2, v3] r h 90 1596 Q = AW sv 170 378 [.float 2, .ref a, v2, v3] (.ref a :: r) h 90 1596 Q := e_pv am_h170 dL_law_377 rfl rfl rfl rfl
set_option maxHeartbeats 20000 in
theorem x170_378 : AW sv 170 378 [.float 2, v1, v2, v3] r h 90 1596 Q = AW sv 170 379 [.float 2, v1, v2, v3] (.float 2 :: r) h 90 1596 Q := e_pv am_h170 dL_law_378 rfl rfl rfl rfl
set_option maxHeartbeats 20000 in
theorem x170_379 : AW sv 170 379 [.float 2, v1, v2, .int x] r h 90 1596 Q = AW sv 170 380 [.float 2, v1, v2, .int x] (.int x :: r) h 90 1596 Q := e_pv am_h170 dL_law_379 rfl rfl rfl rfl
set_option maxHeartbeats 20000 in
theorem x170_380 : AW sv 170 380 [.float 2, v1, v2, v3] r h 90 1596 Q = AW sv 170 381 [.float 2, v1, v2, v3] (.int (1) :: r) h 90 1596 Q := e_iconstv am_h170 dL_law_380 c_iconst_1
set_option maxHeartbeats 20000 in
theorem x170_381 : AW sv 170 381 [.float 2, v1, v2, v3] (.int y :: .int x :: r) h 90 1596 Q = AW sv 170 382 [.float 2, v1, v2, v3] (.int (x + y) :: r) h 90 1596 Q := e_iadd am_h170 dL_law_381
set_option maxHeartbeats 20000 in
theorem x170_382 (hi : am_in x (sv 2).1 = true) : AW sv 170 382 [.float 2, v1, v2, v3] (.int x :: .float 2 :: r) h 90 1596 Q = AW sv 170 383 [.float 2, v1, v2, v3] (.int ((sv 2).2 x.toNatClampNeg) :: r) h 90 1596 Q := e_ialx am_h170 dL_law_382 hi
set_option maxHeartbeats 20000 in
theorem x170_383 : AW sv 170 383 [.float 2, v1, v2, v3] r h 90 1596 Q = AW sv 170 384 [.float 2, v1, v2, v3] (.float 2 :: r) h 90 1596 Q := e_pv am_h170 dL_law_383 rfl rfl rfl rfl
set_option maxHeartbeats 20000 in
theorem x170_384 : AW sv 170 384 [.float 2, v1, v2, .int x] r h 90 1596 Q = AW sv 170 385 [.float 2, v1, v2, .int x] (.int x :: r) h 90 1596 Q := e_pv am_h170 dL_law_384 rfl rfl rfl rfl
set_option maxHeartbeats 20000 in
theorem x170_385 : AW sv 170 385 [.float 2, v1, v2, v3] r h 90 1596 Q = AW sv 170 386 [.float 2, v1, v2, v3] (.int (2) :: r) h 90 1596 Q := e_iconstv am_h170 dL_law_385 c_iconst_2
set_option maxHeartbeats 20000 in
theorem x170_386 : AW sv 170 386 [.float 2, v1, v2, v3] (.int y :: .int x :: r) h 90 1596 Q = AW sv 170 387 [.float 2, v1, v2, v3] (.int (x + y) :: r) h 90 1596 Q := e_iadd am_h170 dL_law_386
set_option maxHeartbeats 20000 in
theorem x170_387 (hi : am_in x (sv 2).1 = true) : AW sv 170 387 [.float 2, v1, v2, v3] (.int x :: .float 2 :: r) h 90 1596 Q = AW sv 170 388 [.float 2, v1, v2, v3] (.int ((sv 2).2 x.toNatClampNeg) :: r) h 90 1596 Q := e_ialx am_h170 dL_law_387 hi
set_option maxHeartbeats 20000 in
theorem x170_388 (h8 : am_cs r ≤ 8) : AW sv 170 388 [.float 2, v1, v2, v3] (.int x1 :: .int x0 :: .ref 0 :: r) (am_toH σ) 90 1596 Q = AM sv 66 [.ref 0, .int x0, .int x1] (am_toH σ) (fun v h1 => AW sv 170 391 [.float 2, v1, v2, v3] (v.toList ++ r) h1 90 1596 Q) := e_cV (as := [.int x0, .int x1]) am_h170 dL_law_388 ml_10_37 (by decide) am_h66 rfl is8 rfl rfl ⟨by decide, Nat.le_of_ble_eq_true rfl, am_rcL (by decide) h8⟩
set_option maxHeartbeats 20000 in
theorem x170_391 : AW sv 170 391 [.float 2, v1, .ref a, v3] r h 90 1596 Q = AW sv 170 392 [.float 2, v1, .ref a, v3] (.ref a :: r) h 90 1596 Q := e_pv am_h170 dL_law_391 rfl rfl rfl rfl
set_option maxHeartbeats 20000 in
theorem x170_392 : AW sv 170 392 [.float 2, v1, v2, v3] r h 90 1596 Q = AW sv 170 393 [.float 2, v1, v2, v3] (.float 2 :: r) h 90 1596 Q := e_pv am_h170 dL_law_392 rfl rfl rfl rfl
set_option maxHeartbeats 20000 in
theorem x170_393 : AW sv 170 393 [.float 2, v1, v2, .int x] r h 90 1596 Q = AW sv 170 394 [.float 2, v1, v2, .int x] (.int x :: r) h 90 1596 Q := e_pv am_h170 dL_law_393 rfl rfl rfl rfl
set_option maxHeartbeats 20000 in
theorem x170_394 : AW sv 170 394 [.float 2, v1, v2, v3] r h 90 1596 Q = AW sv 170 395 [.float 2, v1, v2, v3] (.int (1) :: r) h 90 1596 Q := e_iconstv am_h170 dL_law_394 c_iconst_1
set_option maxHeartbeats 20000 in
theorem x170_395 : AW sv 170 395 [.float 2, v1, v2, v3] (.int y :: .int x :: r) h 90 1596 Q = AW sv 170 396 [.float 2, v1, v2, v3] (.int (x + y) :: r) h 90 1596 Q := e_iadd am_h170 dL_law_395
set_option maxHeartbeats 20000 in
theorem x170_396 (hi : am_in x (sv 2).1 = true) : AW sv 170 396 [.float 2, v1, v2, v3] (.int x :: .float 2 :: r) h 90 1596 Q = AW sv 170 397 [.float 2, v1, v2, v3] (.int ((sv 2).2 x.toNatClampNeg) :: r) h 90 1596 Q := e_ialx am_h170 dL_law_396 hi
set_option maxHeartbeats 20000 in
theorem x170_397 : AW sv 170 397 [.float 2, v1, v2, v3] r h 90 1596 Q = AW sv 170 398 [.float 2, v1, v2, v3] (.float 2 :: r) h 90 1596 Q := e_pv am_h170 dL_law_397 rfl rfl rfl rfl
set_option maxHeartbeats 20000 in
theorem x170_398 : AW sv 170 398 [.float 2, v1, v2, .int x] r h 90 1596 Q = AW sv 170 399 [.float 2, v1, v2, .int x] (.int x :: r) h 90 1596 Q := e_pv am_h170 dL_law_398 rfl rfl rfl rfl
set_option maxHeartbeats 20000 in
theorem x170_399 : AW sv 170 399 [.float 2, v1, v2, v3] r h 90 1596 Q = AW sv 170 400 [.float 2, v1, v2, v3] (.int (2) :: r) h 90 1596 Q := e_iconstv am_h170 dL_law_399 c_iconst_2
set_option maxHeartbeats 20000 in
theorem x170_400 : AW sv 170 400 [.float 2, v1, v2, v3] (.int y :: .int x :: r) h 90 1596 Q = AW sv 170 401 [.float 2, v1, v2, v3] (.int (x + y) :: r) h 90 1596 Q := e_iadd am_h170 dL_law_400
set_option maxHeartbeats 20000 in
theorem x170_401 (hi : am_in x (sv 2).1 = true) : AW sv 170 401 [.float 2, v1, v2, v3] (.int x :: .float 2 :: r) h 90 1596 Q = AW sv 170 402 [.float 2, v1, v2, v3] (.int ((sv 2).2 x.toNatClampNeg) :: r) h 90 1596 Q := e_ialx am_h170 dL_law_401 hi
set_option maxHeartbeats 20000 in
theorem x170_402 (h8 : am_cs r ≤ 8) : AW sv 170 402 [.float 2, v1, v2, v3] (.int x1 :: .int x0 :: .ref 71 :: r) (am_toH σ) 90 1596 Q = AM sv 116 [.ref 71, .int x0, .int x1] (am_toH σ) (fun v h1 => AW sv 170 405 [.float 2, v1, v2, v3] (v.toList ++ r) h1 90 1596 Q) := e_cV (as := [.int x0, .int x1]) am_h170 dL_law_402 ml_10_40 (by decide) am_h116 rfl is9 rfl rfl ⟨by decide, Nat.le_of_ble_eq_true rfl, am_rcL (by decide) h8⟩
set_option maxHeartbeats 20000 in
theorem x170_405 : AW sv 170 405 [.float 2, v1, v2, v3] (.int y :: .int x :: r) h 90 1596 Q = if x = y then AW sv 170 1400 [.float 2, v1, v2, v3] r h 90 1596 Q else AW sv 170 408 [.float 2, v1, v2, v3] r h 90 1596 Q := e_c_eq am_h170 dL_law_405 rfl
set_option maxHeartbeats 20000 in
theorem x170_408 : AW sv 170 408 [.float 2, v1, v2, v3] r h 90 1596 Q = AW sv 170 409 [.float 2, v1, v2, v3] (.int (0) :: r) h 90 1596 Q := e_iconstv am_h170 dL_law_408 c_iconst_0
set_option maxHeartbeats 20000 in
theorem x170_409 (hz : x = 0 ∨ x = 1) : AW sv 170 409 [.float 2, v1, v2, v3] [.int x] h 90 1596 Q = Q (some (.int x)) h := e_zret am_h170 dL_law_409 rfl ⟨rfl, rfl⟩ hz
set_option maxHeartbeats 20000 in
theorem x170_410 : AW sv 170 410 [.float 2, .ref a, v2, v3] r h 90 1596 Q = AW sv 170 411 [.float 2, .ref a, v2, v3] (.ref a :: r) h 90 1596 Q := e_pv am_h170 dL_law_410 rfl rfl rfl rfl
set_option maxHeartbeats 20000 in
theorem x170_411 : AW sv 170 411 [.float 2, v1, v2, v3] r h 90 1596 Q = AW sv 170 412 [.float 2, v1, v2, v3] (.float 2 :: r) h 90 1596 Q := e_pv am_h170 dL_law_411 rfl rfl rfl rfl
set_option maxHeartbeats 20000 in
theorem x170_412 : AW sv 170 412 [.float 2, v1, v2, .int x] r h 90 1596 Q = AW sv 170 413 [.float 2, v1, v2, .int x] (.int x :: r) h 90 1596 Q := e_pv am_h170 dL_law_412 rfl rfl rfl rfl
set_option maxHeartbeats 20000 in
theorem x170_413 : AW sv 170 413 [.float 2, v1, v2, v3] r h 90 1596 Q = AW sv 170 414 [.float 2, v1, v2, v3] (.int (1) :: r) h 90 1596 Q := e_iconstv am_h170 dL_law_413 c_iconst_1
set_option maxHeartbeats 20000 in
theorem x170_414 : AW sv 170 414 [.float 2, v1, v2, v3] (.int y :: .int x :: r) h 90 1596 Q = AW sv 170 415 [.float 2, v1, v2, v3] (.int (x + y) :: r) h 90 1596 Q := e_iadd am_h170 dL_law_414
set_option maxHeartbeats 20000 in
theorem x170_415 (hi : am_in x (sv 2).1 = true) : AW sv 170 415 [.float 2, v1, v2, v3] (.int x :: .float 2 :: r) h 90 1596 Q = AW sv 170 416 [.float 2, v1, v2, v3] (.int ((sv 2).2 x.toNatClampNeg) :: r) h 90 1596 Q := e_ialx am_h170 dL_law_415 hi
set_option maxHeartbeats 20000 in
theorem x170_416 : AW sv 170 416 [.float 2, v1, v2, v3] r h 90 1596 Q = AW sv 170 417 [.float 2, v1, v2, v3] (.float 2 :: r) h 90 1596 Q := e_pv am_h170 dL_law_416 rfl rfl rfl rfl
set_option maxHeartbeats 20000 in
theorem x170_417 : AW sv 170 417 [.float 2, v1, v2, .int x] r h 90 1596 Q = AW sv 170 418 [.float 2, v1, v2, .int x] (.int x :: r) h 90 1596 Q := e_pv am_h170 dL_law_417 rfl rfl rfl rfl
set_option maxHeartbeats 20000 in
theorem x170_418 : AW sv 170 418 [.float 2, v1, v2, v3] r h 90 1596 Q = AW sv 170 419 [.float 2, v1, v2, v3] (.int (2) :: r) h 90 1596 Q := e_iconstv am_h170 dL_law_418 c_iconst_2
set_option maxHeartbeats 20000 in
theorem x170_419 : AW sv 170 419 [.float 2, v1, v2, v3] (.int y :: .int x :: r) h 90 1596 Q = AW sv 170 420 [.float 2, v1, v2, v3] (.int (x + y) :: r) h 90 1596 Q := e_iadd am_h170 dL_law_419
set_option maxHeartbeats 20000 in
theorem x170_420 (hi : am_in x (sv 2).1 = true) : AW sv 170 420 [.float 2, v1, v2, v3] (.int x :: .float 2 :: r) h 90 1596 Q = AW sv 170 421 [.float 2, v1, v2, v3] (.int ((sv 2).2 x.toNatClampNeg) :: r) h 90 1596 Q := e_ialx am_h170 dL_law_420 hi
set_option maxHeartbeats 20000 in
theorem x170_421 (h8 : am_cs r ≤ 8) : AW sv 170 421 [.float 2, v1, v2, v3] (.int x1 :: .int x0 :: .ref 0 :: r) (am_toH σ) 90 1596 Q = AM sv 67 [.ref 0, .int x0, .int x1] (am_toH σ) (fun v h1 => AW sv 170 424 [.float 2, v1, v2, v3] (v.toList ++ r) h1 90 1596 Q) := e_cV (as := [.int x0, .int x1]) am_h170 dL_law_421 ml_10_41 (by decide) am_h67 rfl is8 rfl rfl ⟨by decide, Nat.le_of_ble_eq_true rfl, am_rcL (by decide) h8⟩
set_option maxHeartbeats 20000 in
theorem x170_424 : AW sv 170 424 [.float 2, v1, .ref a, v3] r h 90 1596 Q = AW sv 170 425 [.float 2, v1, .ref a, v3] (.ref a :: r) h 90 1596 Q := e_pv am_h170 dL_law_424 rfl rfl rfl rfl
set_option maxHeartbeats 20000 in
theorem x170_425 : AW sv 170 425 [.float 2, v1, v2, v3] r h 90 1596 Q = AW sv 170 426 [.float 2, v1, v2, v3] (.float 2 :: r) h 90 1596 Q := e_pv am_h170 dL_law_425 rfl rfl rfl rfl
set_option maxHeartbeats 20000 in
theorem x170_426 : AW sv 170 426 [.float 2, v1, v2, .int x] r h 90 1596 Q = AW sv 170 427 [.float 2, v1, v2, .int x] (.int x :: r) h 90 1596 Q := e_pv am_h170 dL_law_426 rfl rfl rfl rfl
set_option maxHeartbeats 20000 in
theorem x170_427 : AW sv 170 427 [.float 2, v1, v2, v3] r h 90 1596 Q = AW sv 170 428 [.float 2, v1, v2, v3] (.int (1) :: r) h 90 1596 Q := e_iconstv am_h170 dL_law_427 c_iconst_1
set_option maxHeartbeats 20000 in
theorem x170_428 : AW sv 170 428 [.float 2, v1, v2, v3] (.int y :: .int x :: r) h 90 1596 Q = AW sv 170 429 [.float 2, v1, v2, v3] (.int (x + y) :: r) h 90 1596 Q := e_iadd am_h170 dL_law_428
set_option maxHeartbeats 20000 in
theorem x170_429 (hi : am_in x (sv 2).1 = true) : AW sv 170 429 [.float 2, v1, v2, v3] (.int x :: .float 2 :: r) h 90 1596 Q = AW sv 170 430 [.float 2, v1, v2, v3] (.int ((sv 2).2 x.toNatClampNeg) :: r) h 90 1596 Q := e_ialx am_h170 dL_law_429 hi
set_option maxHeartbeats 20000 in
theorem x170_430 : AW sv 170 430 [.float 2, v1, v2, v3] r h 90 1596 Q = AW sv 170 431 [.float 2, v1, v2, v3] (.float 2 :: r) h 90 1596 Q := e_pv am_h170 dL_law_430 rfl rfl rfl rfl
set_option maxHeartbeats 20000 in
theorem x170_431 : AW sv 170 431 [.float 2, v1, v2, .int x] r h 90 1596 Q = AW sv 170 432 [.float 2, v1, v2, .int x] (.int x :: r) h 90 1596 Q := e_pv am_h170 dL_law_431 rfl rfl rfl rfl
set_option maxHeartbeats 20000 in
theorem x170_432 : AW sv 170 432 [.float 2, v1, v2, v3] r h 90 1596 Q = AW sv 170 433 [.float 2, v1, v2, v3] (.int (2) :: r) h 90 1596 Q := e_iconstv am_h170 dL_law_432 c_iconst_2
set_option maxHeartbeats 20000 in
theorem x170_433 : AW sv 170 433 [.float 2, v1, v2, v3] (.int y :: .int x :: r) h 90 1596 Q = AW sv 170 434 [.float 2, v1, v2, v3] (.int (x + y) :: r) h 90 1596 Q := e_iadd am_h170 dL_law_433
set_option maxHeartbeats 20000 in
theorem x170_434 (hi : am_in x (sv 2).1 = true) : AW sv 170 434 [.float 2, v1, v2, v3] (.int x :: .float 2 :: r) h 90 1596 Q = AW sv 170 435 [.float 2, v1, v2, v3] (.int ((sv 2).2 x.toNatClampNeg) :: r) h 90 1596 Q := e_ialx am_h170 dL_law_434 hi
set_option maxHeartbeats 20000 in
theorem x170_435 (h8 : am_cs r ≤ 8) : AW sv 170 435 [.float 2, v1, v2, v3] (.int x1 :: .int x0 :: .ref 71 :: r) (am_toH σ) 90 1596 Q = AM sv 117 [.ref 71, .int x0, .int x1] (am_toH σ) (fun v h1 => AW sv 170 438 [.float 2, v1, v2, v3] (v.toList ++ r) h1 90 1596 Q) := e_cV (as := [.int x0, .int x1]) am_h170 dL_law_435 ml_10_44 (by decide) am_h117 rfl is9 rfl rfl ⟨by decide, Nat.le_of_ble_eq_true rfl, am_rcL (by decide) h8⟩
set_option maxHeartbeats 20000 in
theorem x170_438 : AW sv 170 438 [.float 2, v1, v2, v3] (.int y :: .int x :: r) h 90 1596 Q = if x = y then AW sv 170 1400 [.float 2, v1, v2, v3] r h 90 1596 Q else AW sv 170 441 [.float 2, v1, v2, v3] r h 90 1596 Q := e_c_eq am_h170 dL_law_438 rfl
set_option maxHeartbeats 20000 in
theorem x170_441 : AW sv 170 441 [.float 2, v1, v2, v3] r h 90 1596 Q = AW sv 170 442 [.float 2, v1, v2, v3] (.int (0) :: r) h 90 1596 Q := e_iconstv am_h170 dL_law_441 c_iconst_0
set_option maxHeartbeats 20000 in
theorem x170_442 (hz : x = 0 ∨ x = 1) : AW sv 170 442 [.float 2, v1, v2, v3] [.int x] h 90 1596 Q = Q (some (.int x)) h := e_zret am_h170 dL_law_442 rfl ⟨rfl, rfl⟩ hz
set_option maxHeartbeats 20000 in
theorem x170_443 : AW sv 170 443 [.float 2, .ref a, v2, v3] r h 90 1596 Q = AW sv 170 444 [.float 2, .ref a, v2, v3] (.ref a :: r) h 90 1596 Q := e_pv am_h170 dL_law_443 rfl rfl rfl rfl
set_option maxHeartbeats 20000 in
theorem x170_444 : AW sv 170 444 [.float 2, v1, v2, v3] r h 90 1596 Q = AW sv 170 445 [.float 2, v1, v2, v3] (.float 2 :: r) h 90 1596 Q := e_pv am_h170 dL_law_444 rfl rfl rfl rfl
set_option maxHeartbeats 20000 in
theorem x170_445 : AW sv 170 445 [.float 2, v1, v2, .int x] r h 90 1596 Q = AW sv 170 446 [.float 2, v1, v2, .int x] (.int x :: r) h 90 1596 Q := e_pv am_h170 dL_law_445 rfl rfl rfl rfl
set_option maxHeartbeats 20000 in
theorem x170_446 : AW sv 170 446 [.float 2, v1, v2, v3] r h 90 1596 Q = AW sv 170 447 [.float 2, v1, v2, v3] (.int (1) :: r) h 90 1596 Q := e_iconstv am_h170 dL_law_446 c_iconst_1
set_option maxHeartbeats 20000 in
theorem x170_447 : AW sv 170 447 [.float 2, v1, v2, v3] (.int y :: .int x :: r) h 90 1596 Q = AW sv 170 448 [.float 2, v1, v2, v3] (.int (x + y) :: r) h 90 1596 Q := e_iadd am_h170 dL_law_447
set_option maxHeartbeats 20000 in
theorem x170_448 (hi : am_in x (sv 2).1 = true) : AW sv 170 448 [.float 2, v1, v2, v3] (.int x :: .float 2 :: r) h 90 1596 Q = AW sv 170 449 [.float 2, v1, v2, v3] (.int ((sv 2).2 x.toNatClampNeg) :: r) h 90 1596 Q := e_ialx am_h170 dL_law_448 hi
set_option maxHeartbeats 20000 in
theorem x170_449 (h8 : am_cs r ≤ 8) : AW sv 170 449 [.float 2, v1, v2, v3] (.int x0 :: .ref 0 :: r) (am_toH σ) 90 1596 Q = AM sv 68 [.ref 0, .int x0] (am_toH σ) (fun v h1 => AW sv 170 452 [.float 2, v1, v2, v3] (v.toList ++ r) h1 90 1596 Q) := e_cV (as := [.int x0]) am_h170 dL_law_449 ml_10_45 (by decide) am_h68 rfl is8 rfl rfl ⟨by decide, Nat.le_of_ble_eq_true rfl, am_rcL (by decide) h8⟩
set_option maxHeartbeats 20000 in
theorem x170_452 : AW sv 170 452 [.float 2, v1, .ref a, v3] r h 90 1596 Q = AW sv 170 453 [.float 2, v1, .ref a, v3] (.ref a :: r) h 90 1596 Q := e_pv am_h170 dL_law_452 rfl rfl rfl rfl
set_option maxHeartbeats 20000 in
theorem x170_453 : AW sv 170 453 [.float 2, v1, v2, v3] r h 90 1596 Q = AW sv 170 454 [.float 2, v1, v2, v3] (.float 2 :: r) h 90 1596 Q := e_pv am_h170 dL_law_453 rfl rfl rfl rfl
set_option maxHeartbeats 20000 in
theorem x170_454 : AW sv 170 454 [.float 2, v1, v2, .int x] r h 90 1596 Q = AW sv 170 455 [.float 2, v1, v2, .int x] (.int x :: r) h 90 1596 Q := e_pv am_h170 dL_law_454 rfl rfl rfl rfl
set_option maxHeartbeats 20000 in
theorem x170_455 : AW sv 170 455 [.float 2, v1, v2, v3] r h 90 1596 Q = AW sv 170 456 [.float 2, v1, v2, v3] (.int (1) :: r) h 90 1596 Q := e_iconstv am_h170 dL_law_455 c_iconst_1
set_option maxHeartbeats 20000 in
theorem x170_456 : AW sv 170 456 [.float 2, v1, v2, v3] (.int y :: .int x :: r) h 90 1596 Q = AW sv 170 457 [.float 2, v1, v2, v3] (.int (x + y) :: r) h 90 1596 Q := e_iadd am_h170 dL_law_456
set_option maxHeartbeats 20000 in
theorem x170_457 (hi : am_in x (sv 2).1 = true) : AW sv 170 457 [.float 2, v1, v2, v3] (.int x :: .float 2 :: r) h 90 1596 Q = AW sv 170 458 [.float 2, v1, v2, v3] (.int ((sv 2).2 x.toNatClampNeg) :: r) h 90 1596 Q := e_ialx am_h170 dL_law_457 hi
set_option maxHeartbeats 20000 in
theorem x170_458 (h8 : am_cs r ≤ 8) : AW sv 170 458 [.float 2, v1, v2, v3] (.int x0 :: .ref 71 :: r) (am_toH σ) 90 1596 Q = AM sv 118 [.ref 71, .int x0] (am_toH σ) (fun v h1 => AW sv 170 461 [.float 2, v1, v2, v3] (v.toList ++ r) h1 90 1596 Q) := e_cV (as := [.int x0]) am_h170 dL_law_458 ml_10_48 (by decide) am_h118 rfl is9 rfl rfl ⟨by decide, Nat.le_of_ble_eq_true rfl, am_rcL (by decide) h8⟩
set_option maxHeartbeats 20000 in
theorem x170_461 : AW sv 170 461 [.float 2, v1, v2, v3] (.int y :: .int x :: r) h 90 1596 Q = if x = y then AW sv 170 1400 [.float 2, v1, v2, v3] r h 90 1596 Q else AW sv 170 464 [.float 2, v1, v2, v3] r h 90 1596 Q := e_c_eq am_h170 dL_law_461 rfl
set_option maxHeartbeats 20000 in
theorem x170_464 : AW sv 170 464 [.float 2, v1, v2, v3] r h 90 1596 Q = AW sv 170 465 [.float 2, v1, v2, v3] (.int (0) :: r) h 90 1596 Q := e_iconstv am_h170 dL_law_464 c_iconst_0
set_option maxHeartbeats 20000 in
theorem x170_465 (hz : x = 0 ∨ x = 1) : AW sv 170 465 [.float 2, v1, v2, v3] [.int x] h 90 1596 Q = Q (some (.int x)) h := e_zret am_h170 dL_law_465 rfl ⟨rfl, rfl⟩ hz
set_option maxHeartbeats 20000 in
theorem x170_466 : AW sv 170 466 [.float 2, .ref a, v2, v3] r h 90 1596 Q = AW sv 170 467 [.float 2, .ref a, v2, v3] (.ref a :: r) h 90 1596 Q := e_pv am_h170 dL_law_466 rfl rfl rfl rfl
set_option maxHeartbeats 20000 in
theorem x170_467 : AW sv 170 467 [.float 2, v1, v2, v3] r h 90 1596 Q = AW sv 170 468 [.float 2, v1, v2, v3] (.float 2 :: r) h 90 1596 Q := e_pv am_h170 dL_law_467 rfl rfl rfl rfl
set_option maxHeartbeats 20000 in
theorem x170_468 : AW sv 170 468 [.float 2, v1, v2, .int x] r h 90 1596 Q = AW sv 170 469 [.float 2, v1, v2, .int x] (.int x :: r) h 90 1596 Q := e_pv am_h170 dL_law_468 rfl rfl rfl rfl
set_option maxHeartbeats 20000 in
theorem x170_469 : AW sv 170 469 [.float 2, v1, v2, v3] r h 90 1596 Q = AW sv 170 470 [.float 2, v1, v2, v3] (.int (1) :: r) h 90 1596 Q := e_iconstv am_h170 dL_law_469 c_iconst_1
set_option maxHeartbeats 20000 in
theorem x170_470 : AW sv 170 470 [.float 2, v1, v2, v3] (.int y :: .int x :: r) h 90 1596 Q = AW sv 170 471 [.float 2, v1, v2, v3] (.int (x + y) :: r) h 90 1596 Q := e_iadd am_h170 dL_law_470
set_option maxHeartbeats 20000 in
theorem x170_471 (hi : am_in x (sv 2).1 = true) : AW sv 170 471 [.float 2, v1, v2, v3] (.int x :: .float 2 :: r) h 90 1596 Q = AW sv 170 472 [.float 2, v1, v2, v3] (.int ((sv 2).2 x.toNatClampNeg) :: r) h 90 1596 Q := e_ialx am_h170 dL_law_471 hi
set_option maxHeartbeats 20000 in
theorem x170_472 : AW sv 170 472 [.float 2, v1, v2, v3] (.int x :: r) h 90 1596 Q = AW sv 170 473 [.float 2, v1, v2, v3] (.long x.toInt64 :: r) h 90 1596 Q := e_i2l am_h170 dL_law_472
set_option maxHeartbeats 20000 in
theorem x170_473 : AW sv 170 473 [.float 2, v1, v2, v3] r h 90 1596 Q = AW sv 170 475 [.float 2, v1, v2, v3] (.int (32) :: r) h 90 1596 Q := e_bipushv am_h170 dL_law_473 c_bipush_32
set_option maxHeartbeats 20000 in
theorem x170_475 : AW sv 170 475 [.float 2, v1, v2, v3] (.int y :: .long u :: r) h 90 1596 Q = AW sv 170 476 [.float 2, v1, v2, v3] (.long (u <<< (y.toInt64 &&& 63)) :: r) h 90 1596 Q := e_lshl am_h170 dL_law_475
set_option maxHeartbeats 20000 in
theorem x170_476 : AW sv 170 476 [.float 2, v1, v2, v3] r h 90 1596 Q = AW sv 170 477 [.float 2, v1, v2, v3] (.float 2 :: r) h 90 1596 Q := e_pv am_h170 dL_law_476 rfl rfl rfl rfl
set_option maxHeartbeats 20000 in
theorem x170_477 : AW sv 170 477 [.float 2, v1, v2, .int x] r h 90 1596 Q = AW sv 170 478 [.float 2, v1, v2, .int x] (.int x :: r) h 90 1596 Q := e_pv am_h170 dL_law_477 rfl rfl rfl rfl
set_option maxHeartbeats 20000 in
theorem x170_478 : AW sv 170 478 [.float 2, v1, v2, v3] r h 90 1596 Q = AW sv 170 479 [.float 2, v1, v2, v3] (.int (2) :: r) h 90 1596 Q := e_iconstv am_h170 dL_law_478 c_iconst_2
set_option maxHeartbeats 20000 in
theorem x170_479 : AW sv 170 479 [.float 2, v1, v2, v3] (.int y :: .int x :: r) h 90 1596 Q = AW sv 170 480 [.float 2, v1, v2, v3] (.int (x + y) :: r) h 90 1596 Q := e_iadd am_h170 dL_law_479
set_option maxHeartbeats 20000 in
theorem x170_480 (hi : am_in x (sv 2).1 = true) : AW sv 170 480 [.float 2, v1, v2, v3] (.int x :: .float 2 :: r) h 90 1596 Q = AW sv 170 481 [.float 2, v1, v2, v3] (.int ((sv 2).2 x.toNatClampNeg) :: r) h 90 1596 Q := e_ialx am_h170 dL_law_480 hi
set_option maxHeartbeats 20000 in
theorem x170_481 : AW sv 170 481 [.float 2, v1, v2, v3] (.int x :: r) h 90 1596 Q = AW sv 170 482 [.float 2, v1, v2, v3] (.long x.toInt64 :: r) h 90 1596 Q := e_i2l am_h170 dL_law_481
set_option maxHeartbeats 20000 in
theorem x170_482 : AW sv 170 482 [.float 2, v1, v2, v3] r h 90 1596 Q = AW sv 170 485 [.float 2, v1, v2, v3] (.long (4294967295) :: r) h 90 1596 Q := e_ldc2 am_h170 dL_law_482 (by decide +kernel)
set_option maxHeartbeats 20000 in
theorem x170_485 : AW sv 170 485 [.float 2, v1, v2, v3] (.long w :: .long u :: r) h 90 1596 Q = AW sv 170 486 [.float 2, v1, v2, v3] (.long (u &&& w) :: r) h 90 1596 Q := e_land am_h170 dL_law_485
set_option maxHeartbeats 20000 in
theorem x170_486 : AW sv 170 486 [.float 2, v1, v2, v3] (.long w :: .long u :: r) h 90 1596 Q = AW sv 170 487 [.float 2, v1, v2, v3] (.long (u ||| w) :: r) h 90 1596 Q := e_lor am_h170 dL_law_486
set_option maxHeartbeats 20000 in
theorem x170_487 : AW sv 170 487 [.float 2, v1, v2, v3] r h 90 1596 Q = AW sv 170 488 [.float 2, v1, v2, v3] (.float 2 :: r) h 90 1596 Q := e_pv am_h170 dL_law_487 rfl rfl rfl rfl
set_option maxHeartbeats 20000 in
theorem x170_488 : AW sv 170 488 [.float 2, v1, v2, .int x] r h 90 1596 Q = AW sv 170 489 [.float 2, v1, v2, .int x] (.int x :: r) h 90 1596 Q := e_pv am_h170 dL_law_488 rfl rfl rfl rfl
set_option maxHeartbeats 20000 in
theorem x170_489 : AW sv 170 489 [.float 2, v1, v2, v3] r h 90 1596 Q = AW sv 170 490 [.float 2, v1, v2, v3] (.int (3) :: r) h 90 1596 Q := e_iconstv am_h170 dL_law_489 c_iconst_3
set_option maxHeartbeats 20000 in
theorem x170_490 : AW sv 170 490 [.float 2, v1, v2, v3] (.int y :: .int x :: r) h 90 1596 Q = AW sv 170 491 [.float 2, v1, v2, v3] (.int (x + y) :: r) h 90 1596 Q := e_iadd am_h170 dL_law_490
set_option maxHeartbeats 20000 in
theorem x170_491 (hi : am_in x (sv 2).1 = true) : AW sv 170 491 [.float 2, v1, v2, v3] (.int x :: .float 2 :: r) h 90 1596 Q = AW sv 170 492 [.float 2, v1, v2, v3] (.int ((sv 2).2 x.toNatClampNeg) :: r) h 90 1596 Q := e_ialx am_h170 dL_law_491 hi
set_option maxHeartbeats 20000 in
theorem x170_492 (h8 : am_cs r ≤ 8) : AW sv 170 492 [.float 2, v1, v2, v3] (.int x1 :: .long u0 :: .ref 0 :: r) (am_toH σ) 90 1596 Q = AM sv 69 [.ref 0, .long u0, .int x1] (am_toH σ) (fun v h1 => AW sv 170 495 [.float 2, v1, v2, v3] (v.toList ++ r) h1 90 1596 Q) := e_cV (as := [.long u0, .int x1]) am_h170 dL_law_492 ml_10_51 (by decide) am_h69 rfl is8 rfl rfl ⟨by decide, Nat.le_of_ble_eq_true rfl, am_rcL (by decide) h8⟩
set_option maxHeartbeats 20000 in
theorem x170_495 : AW sv 170 495 [.float 2, v1, .ref a, v3] r h 90 1596 Q = AW sv 170 496 [.float 2, v1, .ref a, v3] (.ref a :: r) h 90 1596 Q := e_pv am_h170 dL_law_495 rfl rfl rfl rfl
set_option maxHeartbeats 20000 in
theorem x170_496 : AW sv 170 496 [.float 2, v1, v2, v3] r h 90 1596 Q = AW sv 170 497 [.float 2, v1, v2, v3] (.float 2 :: r) h 90 1596 Q := e_pv am_h170 dL_law_496 rfl rfl rfl rfl
set_option maxHeartbeats 20000 in
theorem x170_497 : AW sv 170 497 [.float 2, v1, v2, .int x] r h 90 1596 Q = AW sv 170 498 [.float 2, v1, v2, .int x] (.int x :: r) h 90 1596 Q := e_pv am_h170 dL_law_497 rfl rfl rfl rfl
set_option maxHeartbeats 20000 in
theorem x170_498 : AW sv 170 498 [.float 2, v1, v2, v3] r h 90 1596 Q = AW sv 170 499 [.float 2, v1, v2, v3] (.int (1) :: r) h 90 1596 Q := e_iconstv am_h170 dL_law_498 c_iconst_1
set_option maxHeartbeats 20000 in
theorem x170_499 : AW sv 170 499 [.float 2, v1, v2, v3] (.int y :: .int x :: r) h 90 1596 Q = AW sv 170 500 [.float 2, v1, v2, v3] (.int (x + y) :: r) h 90 1596 Q := e_iadd am_h170 dL_law_499
set_option maxHeartbeats 20000 in
theorem x170_500 (hi : am_in x (sv 2).1 = true) : AW sv 170 500 [.float 2, v1, v2, v3] (.int x :: .float 2 :: r) h 90 1596 Q = AW sv 170 501 [.float 2, v1, v2, v3] (.int ((sv 2).2 x.toNatClampNeg) :: r) h 90 1596 Q := e_ialx am_h170 dL_law_500 hi
set_option maxHeartbeats 20000 in
theorem x170_501 : AW sv 170 501 [.float 2, v1, v2, v3] (.int x :: r) h 90 1596 Q = AW sv 170 502 [.float 2, v1, v2, v3] (.long x.toInt64 :: r) h 90 1596 Q := e_i2l am_h170 dL_law_501
set_option maxHeartbeats 20000 in
theorem x170_502 : AW sv 170 502 [.float 2, v1, v2, v3] r h 90 1596 Q = AW sv 170 504 [.float 2, v1, v2, v3] (.int (32) :: r) h 90 1596 Q := e_bipushv am_h170 dL_law_502 c_bipush_32
set_option maxHeartbeats 20000 in
theorem x170_504 : AW sv 170 504 [.float 2, v1, v2, v3] (.int y :: .long u :: r) h 90 1596 Q = AW sv 170 505 [.float 2, v1, v2, v3] (.long (u <<< (y.toInt64 &&& 63)) :: r) h 90 1596 Q := e_lshl am_h170 dL_law_504
set_option maxHeartbeats 20000 in
theorem x170_505 : AW sv 170 505 [.float 2, v1, v2, v3] r h 90 1596 Q = AW sv 170 506 [.float 2, v1, v2, v3] (.float 2 :: r) h 90 1596 Q := e_pv am_h170 dL_law_505 rfl rfl rfl rfl
set_option maxHeartbeats 20000 in
theorem x170_506 : AW sv 170 506 [.float 2, v1, v2, .int x] r h 90 1596 Q = AW sv 170 507 [.float 2, v1, v2, .int x] (.int x :: r) h 90 1596 Q := e_pv am_h170 dL_law_506 rfl rfl rfl rfl
set_option maxHeartbeats 20000 in
theorem x170_507 : AW sv 170 507 [.float 2, v1, v2, v3] r h 90 1596 Q = AW sv 170 508 [.float 2, v1, v2, v3] (.int (2) :: r) h 90 1596 Q := e_iconstv am_h170 dL_law_507 c_iconst_2
set_option maxHeartbeats 20000 in
theorem x170_508 : AW sv 170 508 [.float 2, v1, v2, v3] (.int y :: .int x :: r) h 90 1596 Q = AW sv 170 509 [.float 2, v1, v2, v3] (.int (x + y) :: r) h 90 1596 Q := e_iadd am_h170 dL_law_508
set_option maxHeartbeats 20000 in
theorem x170_509 (hi : am_in x (sv 2).1 = true) : AW sv 170 509 [.float 2, v1, v2, v3] (.int x :: .float 2 :: r) h 90 1596 Q = AW sv 170 510 [.float 2, v1, v2, v3] (.int ((sv 2).2 x.toNatClampNeg) :: r) h 90 1596 Q := e_ialx am_h170 dL_law_509 hi
set_option maxHeartbeats 20000 in
theorem x170_510 : AW sv 170 510 [.float 2, v1, v2, v3] (.int x :: r) h 90 1596 Q = AW sv 170 511 [.float 2, v1, v2, v3] (.long x.toInt64 :: r) h 90 1596 Q := e_i2l am_h170 dL_law_510
set_option maxHeartbeats 20000 in
theorem x170_511 : AW sv 170 511 [.float 2, v1, v2, v3] r h 90 1596 Q = AW sv 170 514 [.float 2, v1, v2, v3] (.long (4294967295) :: r) h 90 1596 Q := e_ldc2 am_h170 dL_law_511 (by decide +kernel)
set_option maxHeartbeats 20000 in
theorem x170_514 : AW sv 170 514 [.float 2, v1, v2, v3] (.long w :: .long u :: r) h 90 1596 Q = AW sv 170 515 [.float 2, v1, v2, v3] (.long (u &&& w) :: r) h 90 1596 Q := e_land am_h170 dL_law_514
set_option maxHeartbeats 20000 in
theorem x170_515 : AW sv 170 515 [.float 2, v1, v2, v3] (.long w :: .long u :: r) h 90 1596 Q = AW sv 170 516 [.float 2, v1, v2, v3] (.long (u ||| w) :: r) h 90 1596 Q := e_lor am_h170 dL_law_515
set_option maxHeartbeats 20000 in
theorem x170_516 : AW sv 170 516 [.float 2, v1, v2, v3] r h 90 1596 Q = AW sv 170 517 [.float 2, v1, v2, v3] (.float 2 :: r) h 90 1596 Q := e_pv am_h170 dL_law_516 rfl rfl rfl rfl
set_option maxHeartbeats 20000 in
theorem x170_517 : AW sv 170 517 [.float 2, v1, v2, .int x] r h 90 1596 Q = AW sv 170 518 [.float 2, v1, v2, .int x] (.int x :: r) h 90 1596 Q := e_pv am_h170 dL_law_517 rfl rfl rfl rfl
set_option maxHeartbeats 20000 in
theorem x170_518 : AW sv 170 518 [.float 2, v1, v2, v3] r h 90 1596 Q = AW sv 170 519 [.float 2, v1, v2, v3] (.int (3) :: r) h 90 1596 Q := e_iconstv am_h170 dL_law_518 c_iconst_3
set_option maxHeartbeats 20000 in
theorem x170_519 : AW sv 170 519 [.float 2, v1, v2, v3] (.int y :: .int x :: r) h 90 1596 Q = AW sv 170 520 [.float 2, v1, v2, v3] (.int (x + y) :: r) h 90 1596 Q := e_iadd am_h170 dL_law_519
set_option maxHeartbeats 20000 in
theorem x170_520 (hi : am_in x (sv 2).1 = true) : AW sv 170 520 [.float 2, v1, v2, v3] (.int x :: .float 2 :: r) h 90 1596 Q = AW sv 170 521 [.float 2, v1, v2, v3] (.int ((sv 2).2 x.toNatClampNeg) :: r) h 90 1596 Q := e_ialx am_h170 dL_law_520 hi
set_option maxHeartbeats 20000 in
theorem x170_521 (h8 : am_cs r ≤ 8) : AW sv 170 521 [.float 2, v1, v2, v3] (.int x1 :: .long u0 :: .ref 71 :: r) (am_toH σ) 90 1596 Q = AM sv 119 [.ref 71, .long u0, .int x1] (am_toH σ) (fun v h1 => AW sv 170 524 [.float 2, v1, v2, v3] (v.toList ++ r) h1 90 1596 Q) := e_cV (as := [.long u0, .int x1]) am_h170 dL_law_521 ml_10_55 (by decide) am_h119 rfl is9 rfl rfl ⟨by decide, Nat.le_of_ble_eq_true rfl, am_rcL (by decide) h8⟩
set_option maxHeartbeats 20000 in
theorem x170_524 : AW sv 170 524 [.float 2, v1, v2, v3] (.int y :: .int x :: r) h 90 1596 Q = if x = y then AW sv 170 1400 [.float 2, v1, v2, v3] r h 90 1596 Q else AW sv 170 527 [.float 2, v1, v2, v3] r h 90 1596 Q := e_c_eq am_h170 dL_law_524 rfl
set_option maxHeartbeats 20000 in
theorem x170_527 : AW sv 170 527 [.float 2, v1, v2, v3] r h 90 1596 Q = AW sv 170 528 [.float 2, v1, v2, v3] (.int (0) :: r) h 90 1596 Q := e_iconstv am_h170 dL_law_527 c_iconst_0
set_option maxHeartbeats 20000 in
theorem x170_528 (hz : x = 0 ∨ x = 1) : AW sv 170 528 [.float 2, v1, v2, v3] [.int x] h 90 1596 Q = Q (some (.int x)) h := e_zret am_h170 dL_law_528 rfl ⟨rfl, rfl⟩ hz
set_option maxHeartbeats 20000 in
theorem x170_529 : AW sv 170 529 [.float 2, .ref a, v2, v3] r h 90 1596 Q = AW sv 170 530 [.float 2, .ref a, v2, v3] (.ref a :: r) h 90 1596 Q := e_pv am_h170 dL_law_529 rfl rfl rfl rfl
set_option maxHeartbeats 20000 in
theorem x170_530 (h8 : am_cs r ≤ 8) : AW sv 170 530 [.float 2, v1, v2, v3] (.ref 0 :: r) (am_toH σ) 90 1596 Q = AM sv 70 [.ref 0] (am_toH σ) (fun v h1 => AW sv 170 533 [.float 2, v1, v2, v3] (v.toList ++ r) h1 90 1596 Q) := e_cV (as := []) am_h170 dL_law_530 ml_10_56 (by decide) am_h70 rfl is8 rfl rfl ⟨by decide, Nat.le_of_ble_eq_true rfl, am_rcL (by decide) h8⟩
set_option maxHeartbeats 20000 in
theorem x170_533 : AW sv 170 533 [.float 2, v1, .ref a, v3] r h 90 1596 Q = AW sv 170 534 [.float 2, v1, .ref a, v3] (.ref a :: r) h 90 1596 Q := e_pv am_h170 dL_law_533 rfl rfl rfl rfl
set_option maxHeartbeats 20000 in
theorem x170_534 (h8 : am_cs r ≤ 8) : AW sv 170 534 [.float 2, v1, v2, v3] (.ref 71 :: r) (am_toH σ) 90 1596 Q = AM sv 128 [.ref 71] (am_toH σ) (fun v h1 => AW sv 170 537 [.float 2, v1, v2, v3] (v.toList ++ r) h1 90 1596 Q) := e_cV (as := []) am_h170 dL_law_534 ml_10_60 (by decide) am_h128 rfl is9 rfl rfl ⟨by decide, Nat.le_of_ble_eq_true rfl, am_rcL (by decide) h8⟩
set_option maxHeartbeats 20000 in
theorem x170_537 : AW sv 170 537 [.float 2, v1, v2, v3] (.int y :: .int x :: r) h 90 1596 Q = if x = y then AW sv 170 1400 [.float 2, v1, v2, v3] r h 90 1596 Q else AW sv 170 540 [.float 2, v1, v2, v3] r h 90 1596 Q := e_c_eq am_h170 dL_law_537 rfl
set_option maxHeartbeats 20000 in
theorem x170_540 : AW sv 170 540 [.float 2, v1, v2, v3] r h 90 1596 Q = AW sv 170 541 [.float 2, v1, v2, v3] (.int (0) :: r) h 90 1596 Q := e_iconstv am_h170 dL_law_540 c_iconst_0
set_option maxHeartbeats 20000 in
theorem x170_541 (hz : x = 0 ∨ x = 1) : AW sv 170 541 [.float 2, v1, v2, v3] [.int x] h 90 1596 Q = Q (some (.int x)) h := e_zret am_h170 dL_law_541 rfl ⟨rfl, rfl⟩ hz
set_option maxHeartbeats 20000 in
theorem x170_542 : AW sv 170 542 [.float 2, .ref a, v2, v3] r h 90 1596 Q = AW sv 170 543 [.float 2, .ref a, v2, v3] (.ref a :: r) h 90 1596 Q := e_pv am_h170 dL_law_542 rfl rfl rfl rfl
set_option maxHeartbeats 20000 in
theorem x170_543 (h8 : am_cs r ≤ 8) : AW sv 170 543 [.float 2, v1, v2, v3] (.ref 0 :: r) (am_toH σ) 90 1596 Q = AM sv 71 [.ref 0] (am_toH σ) (fun v h1 => AW sv 170 546 [.float 2, v1, v2, v3] (v.toList ++ r) h1 90 1596 Q) := e_cV (as := []) am_h170 dL_law_543 ml_10_61 (by decide) am_h71 rfl is8 rfl rfl ⟨by decide, Nat.le_of_ble_eq_true rfl, am_rcL (by decide) h8⟩
set_option maxHeartbeats 20000 in
theorem x170_546 : AW sv 170 546 [.float 2, v1, .ref a, v3] r h 90 1596 Q = AW sv 170 547 [.float 2, v1, .ref a, v3] (.ref a :: r) h 90 1596 Q := e_pv am_h170 dL_law_546 rfl rfl rfl rfl
set_option maxHeartbeats 20000 in
theorem x170_547 (h8 : am_cs r ≤ 8) : AW sv 170 547 [.float 2, v1, v2, v3] (.ref 71 :: r) (am_toH σ) 90 1596 Q = AM sv 129 [.ref 71] (am_toH σ) (fun v h1 => AW sv 170 550 [.float 2, v1, v2, v3] (v.toList ++ r) h1 90 1596 Q) := e_cV (as := []) am_h170 dL_law_547 ml_10_64 (by decide) am_h129 rfl is9 rfl rfl ⟨by decide, Nat.le_of_ble_eq_true rfl, am_rcL (by decide) h8⟩
set_option maxHeartbeats 20000 in
theorem x170_550 : AW sv 170 550 [.float 2, v1, v2, v3] (.int y :: .int x :: r) h 90 1596 Q = if x = y then AW sv 170 1400 [.float 2, v1, v2, v3] r h 90 1596 Q else AW sv 170 553 [.float 2, v1, v2, v3] r h 90 1596 Q := e_c_eq am_h170 dL_law_550 rfl
set_option maxHeartbeats 20000 in
theorem x170_553 : AW sv 170 553 [.float 2, v1, v2, v3] r h 90 1596 Q = AW sv 170 554 [.float 2, v1, v2, v3] (.int (0) :: r) h 90 1596 Q := e_iconstv am_h170 dL_law_553 c_iconst_0
set_option maxHeartbeats 20000 in
theorem x170_554 (hz : x = 0 ∨ x = 1) : AW sv 170 554 [.float 2, v1, v2, v3] [.int x] h 90 1596 Q = Q (some (.int x)) h := e_zret am_h170 dL_law_554 rfl ⟨rfl, rfl⟩ hz
set_option maxHeartbeats 20000 in
theorem x170_555 : AW sv 170 555 [.float 2, .ref a, v2, v3] r h 90 1596 Q = AW sv 170 556 [.float 2, .ref a, v2, v3] (.ref a :: r) h 90 1596 Q := e_pv am_h170 dL_law_555 rfl rfl rfl rfl
set_option maxHeartbeats 20000 in
theorem x170_556 : AW sv 170 556 [.float 2, v1, v2, v3] r h 90 1596 Q = AW sv 170 557 [.float 2, v1, v2, v3] (.float 2 :: r) h 90 1596 Q := e_pv am_h170 dL_law_556 rfl rfl rfl rfl
set_option maxHeartbeats 20000 in
theorem x170_557 : AW sv 170 557 [.float 2, v1, v2, .int x] r h 90 1596 Q = AW sv 170 558 [.float 2, v1, v2, .int x] (.int x :: r) h 90 1596 Q := e_pv am_h170 dL_law_557 rfl rfl rfl rfl
set_option maxHeartbeats 20000 in
theorem x170_558 : AW sv 170 558 [.float 2, v1, v2, v3] r h 90 1596 Q = AW sv 170 559 [.float 2, v1, v2, v3] (.int (1) :: r) h 90 1596 Q := e_iconstv am_h170 dL_law_558 c_iconst_1
set_option maxHeartbeats 20000 in
theorem x170_559 : AW sv 170 559 [.float 2, v1, v2, v3] (.int y :: .int x :: r) h 90 1596 Q = AW sv 170 560 [.float 2, v1, v2, v3] (.int (x + y) :: r) h 90 1596 Q := e_iadd am_h170 dL_law_559
set_option maxHeartbeats 20000 in
theorem x170_560 (hi : am_in x (sv 2).1 = true) : AW sv 170 560 [.float 2, v1, v2, v3] (.int x :: .float 2 :: r) h 90 1596 Q = AW sv 170 561 [.float 2, v1, v2, v3] (.int ((sv 2).2 x.toNatClampNeg) :: r) h 90 1596 Q := e_ialx am_h170 dL_law_560 hi
set_option maxHeartbeats 20000 in
theorem x170_561 (h8 : am_cs r ≤ 8) : AW sv 170 561 [.float 2, v1, v2, v3] (.int x0 :: .ref 0 :: r) (am_toH σ) 90 1596 Q = AM sv 72 [.ref 0, .int x0] (am_toH σ) (fun v h1 => AW sv 170 564 [.float 2, v1, v2, v3] (v.toList ++ r) h1 90 1596 Q) := e_cV (as := [.int x0]) am_h170 dL_law_561 ml_10_65 (by decide) am_h72 rfl is8 rfl rfl ⟨by decide, Nat.le_of_ble_eq_true rfl, am_rcL (by decide) h8⟩
set_option maxHeartbeats 20000 in
theorem x170_564 : AW sv 170 564 [.float 2, v1, .ref a, v3] r h 90 1596 Q = AW sv 170 565 [.float 2, v1, .ref a, v3] (.ref a :: r) h 90 1596 Q := e_pv am_h170 dL_law_564 rfl rfl rfl rfl
set_option maxHeartbeats 20000 in
theorem x170_565 : AW sv 170 565 [.float 2, v1, v2, v3] r h 90 1596 Q = AW sv 170 566 [.float 2, v1, v2, v3] (.float 2 :: r) h 90 1596 Q := e_pv am_h170 dL_law_565 rfl rfl rfl rfl
set_option maxHeartbeats 20000 in
theorem x170_566 : AW sv 170 566 [.float 2, v1, v2, .int x] r h 90 1596 Q = AW sv 170 567 [.float 2, v1, v2, .int x] (.int x :: r) h 90 1596 Q := e_pv am_h170 dL_law_566 rfl rfl rfl rfl
set_option maxHeartbeats 20000 in
theorem x170_567 : AW sv 170 567 [.float 2, v1, v2, v3] r h 90 1596 Q = AW sv 170 568 [.float 2, v1, v2, v3] (.int (1) :: r) h 90 1596 Q := e_iconstv am_h170 dL_law_567 c_iconst_1
set_option maxHeartbeats 20000 in
theorem x170_568 : AW sv 170 568 [.float 2, v1, v2, v3] (.int y :: .int x :: r) h 90 1596 Q = AW sv 170 569 [.float 2, v1, v2, v3] (.int (x + y) :: r) h 90 1596 Q := e_iadd am_h170 dL_law_568
set_option maxHeartbeats 20000 in
theorem x170_569 (hi : am_in x (sv 2).1 = true) : AW sv 170 569 [.float 2, v1, v2, v3] (.int x :: .float 2 :: r) h 90 1596 Q = AW sv 170 570 [.float 2, v1, v2, v3] (.int ((sv 2).2 x.toNatClampNeg) :: r) h 90 1596 Q := e_ialx am_h170 dL_law_569 hi
set_option maxHeartbeats 20000 in
theorem x170_570 (h8 : am_cs r ≤ 8) : AW sv 170 570 [.float 2, v1, v2, v3] (.int x0 :: .ref 71 :: r) (am_toH σ) 90 1596 Q = AM sv 130 [.ref 71, .int x0] (am_toH σ) (fun v h1 => AW sv 170 573 [.float 2, v1, v2, v3] (v.toList ++ r) h1 90 1596 Q) := e_cV (as := [.int x0]) am_h170 dL_law_570 ml_10_68 (by decide) am_h130 rfl is9 rfl rfl ⟨by decide, Nat.le_of_ble_eq_true rfl, am_rcL (by decide) h8⟩
set_option maxHeartbeats 20000 in
theorem x170_573 : AW sv 170 573 [.float 2, v1, v2, v3] (.int y :: .int x :: r) h 90 1596 Q = if x = y then AW sv 170 1400 [.float 2, v1, v2, v3] r h 90 1596 Q else AW sv 170 576 [.float 2, v1, v2, v3] r h 90 1596 Q := e_c_eq am_h170 dL_law_573 rfl
set_option maxHeartbeats 20000 in
theorem x170_576 : AW sv 170 576 [.float 2, v1, v2, v3] r h 90 1596 Q = AW sv 170 577 [.float 2, v1, v2, v3] (.int (0) :: r) h 90 1596 Q := e_iconstv am_h170 dL_law_576 c_iconst_0
set_option maxHeartbeats 20000 in
theorem x170_577 (hz : x = 0 ∨ x = 1) : AW sv 170 577 [.float 2, v1, v2, v3] [.int x] h 90 1596 Q = Q (some (.int x)) h := e_zret am_h170 dL_law_577 rfl ⟨rfl, rfl⟩ hz
set_option maxHeartbeats 20000 in
theorem x170_578 : AW sv 170 578 [.float 2, .ref a, v2, v3] r h 90 1596 Q = AW sv 170 579 [.float 2, .ref a, v2, v3] (.ref a :: r) h 90 1596 Q := e_pv am_h170 dL_law_578 rfl rfl rfl rfl
set_option maxHeartbeats 20000 in
theorem x170_579 : AW sv 170 579 [.float 2, v1, v2, v3] r h 90 1596 Q = AW sv 170 580 [.float 2, v1, v2, v3] (.float 2 :: r) h 90 1596 Q := e_pv am_h170 dL_law_579 rfl rfl rfl rfl
set_option maxHeartbeats 20000 in
theorem x170_580 : AW sv 170 580 [.float 2, v1, v2, .int x] r h 90 1596 Q = AW sv 170 581 [.float 2, v1, v2, .int x] (.int x :: r) h 90 1596 Q := e_pv am_h170 dL_law_580 rfl rfl rfl rfl
set_option maxHeartbeats 20000 in
theorem x170_581 : AW sv 170 581 [.float 2, v1, v2, v3] r h 90 1596 Q = AW sv 170 582 [.float 2, v1, v2, v3] (.int (1) :: r) h 90 1596 Q := e_iconstv am_h170 dL_law_581 c_iconst_1
set_option maxHeartbeats 20000 in
theorem x170_582 : AW sv 170 582 [.float 2, v1, v2, v3] (.int y :: .int x :: r) h 90 1596 Q = AW sv 170 583 [.float 2, v1, v2, v3] (.int (x + y) :: r) h 90 1596 Q := e_iadd am_h170 dL_law_582
set_option maxHeartbeats 20000 in
theorem x170_583 (hi : am_in x (sv 2).1 = true) : AW sv 170 583 [.float 2, v1, v2, v3] (.int x :: .float 2 :: r) h 90 1596 Q = AW sv 170 584 [.float 2, v1, v2, v3] (.int ((sv 2).2 x.toNatClampNeg) :: r) h 90 1596 Q := e_ialx am_h170 dL_law_583 hi
set_option maxHeartbeats 20000 in
theorem x170_584 : AW sv 170 584 [.float 2, v1, v2, v3] r h 90 1596 Q = AW sv 170 585 [.float 2, v1, v2, v3] (.float 2 :: r) h 90 1596 Q := e_pv am_h170 dL_law_584 rfl rfl rfl rfl
set_option maxHeartbeats 20000 in
theorem x170_585 : AW sv 170 585 [.float 2, v1, v2, .int x] r h 90 1596 Q = AW sv 170 586 [.float 2, v1, v2, .int x] (.int x :: r) h 90 1596 Q := e_pv am_h170 dL_law_585 rfl rfl rfl rfl
set_option maxHeartbeats 20000 in
theorem x170_586 : AW sv 170 586 [.float 2, v1, v2, v3] r h 90 1596 Q = AW sv 170 587 [.float 2, v1, v2, v3] (.int (2) :: r) h 90 1596 Q := e_iconstv am_h170 dL_law_586 c_iconst_2
set_option maxHeartbeats 20000 in
theorem x170_587 : AW sv 170 587 [.float 2, v1, v2, v3] (.int y :: .int x :: r) h 90 1596 Q = AW sv 170 588 [.float 2, v1, v2, v3] (.int (x + y) :: r) h 90 1596 Q := e_iadd am_h170 dL_law_587
set_option maxHeartbeats 20000 in
theorem x170_588 (hi : am_in x (sv 2).1 = true) : AW sv 170 588 [.float 2, v1, v2, v3] (.int x :: .float 2 :: r) h 90 1596 Q = AW sv 170 589 [.float 2, v1, v2, v3] (.int ((sv 2).2 x.toNatClampNeg) :: r) h 90 1596 Q := e_ialx am_h170 dL_law_588 hi
set_option maxHeartbeats 20000 in
theorem x170_589 : AW sv 170 589 [.float 2, v1, v2, v3] r h 90 1596 Q = AW sv 170 590 [.float 2, v1, v2, v3] (.float 2 :: r) h 90 1596 Q := e_pv am_h170 dL_law_589 rfl rfl rfl rfl
set_option maxHeartbeats 20000 in
theorem x170_590 : AW sv 170 590 [.float 2, v1, v2, .int x] r h 90 1596 Q = AW sv 170 591 [.float 2, v1, v2, .int x] (.int x :: r) h 90 1596 Q := e_pv am_h170 dL_law_590 rfl rfl rfl rfl
set_option maxHeartbeats 20000 in
theorem x170_591 : AW sv 170 591 [.float 2, v1, v2, v3] r h 90 1596 Q = AW sv 170 592 [.float 2, v1, v2, v3] (.int (3) :: r) h 90 1596 Q := e_iconstv am_h170 dL_law_591 c_iconst_3
set_option maxHeartbeats 20000 in
theorem x170_592 : AW sv 170 592 [.float 2, v1, v2, v3] (.int y :: .int x :: r) h 90 1596 Q = AW sv 170 593 [.float 2, v1, v2, v3] (.int (x + y) :: r) h 90 1596 Q := e_iadd am_h170 dL_law_592
set_option maxHeartbeats 20000 in
theorem x170_593 (hi : am_in x (sv 2).1 = true) : AW sv 170 593 [.float 2, v1, v2, v3] (.int x :: .float 2 :: r) h 90 1596 Q = AW sv 170 594 [.float 2, v1, v2, v3] (.int ((sv 2).2 x.toNatClampNeg) :: r) h 90 1596 Q := e_ialx am_h170 dL_law_593 hi
set_option maxHeartbeats 20000 in
theorem x170_594 : AW sv 170 594 [.float 2, v1, v2, v3] r h 90 1596 Q = AW sv 170 595 [.float 2, v1, v2, v3] (.float 2 :: r) h 90 1596 Q := e_pv am_h170 dL_law_594 rfl rfl rfl rfl
set_option maxHeartbeats 20000 in
theorem x170_595 : AW sv 170 595 [.float 2, v1, v2, .int x] r h 90 1596 Q = AW sv 170 596 [.float 2, v1, v2, .int x] (.int x :: r) h 90 1596 Q := e_pv am_h170 dL_law_595 rfl rfl rfl rfl
set_option maxHeartbeats 20000 in
theorem x170_596 : AW sv 170 596 [.float 2, v1, v2, v3] r h 90 1596 Q = AW sv 170 597 [.float 2, v1, v2, v3] (.int (4) :: r) h 90 1596 Q := e_iconstv am_h170 dL_law_596 c_iconst_4
set_option maxHeartbeats 20000 in
theorem x170_597 : AW sv 170 597 [.float 2, v1, v2, v3] (.int y :: .int x :: r) h 90 1596 Q = AW sv 170 598 [.float 2, v1, v2, v3] (.int (x + y) :: r) h 90 1596 Q := e_iadd am_h170 dL_law_597
set_option maxHeartbeats 20000 in
theorem x170_598 (hi : am_in x (sv 2).1 = true) : AW sv 170 598 [.float 2, v1, v2, v3] (.int x :: .float 2 :: r) h 90 1596 Q = AW sv 170 599 [.float 2, v1, v2, v3] (.int ((sv 2).2 x.toNatClampNeg) :: r) h 90 1596 Q := e_ialx am_h170 dL_law_598 hi
set_option maxHeartbeats 20000 in
theorem x170_599 (h8 : am_cs r ≤ 8) : AW sv 170 599 [.float 2, v1, v2, v3] (.int x3 :: .int x2 :: .int x1 :: .int x0 :: .ref 0 :: r) (am_toH σ) 90 1596 Q = AM sv 73 [.ref 0, .int x0, .int x1, .int x2, .int x3] (am_toH σ) (fun v h1 => AW sv 170 602 [.float 2, v1, v2, v3] (v.toList ++ r) h1 90 1596 Q) := e_cV (as := [.int x0, .int x1, .int x2, .int x3]) am_h170 dL_law_599 ml_10_69 (by decide) am_h73 rfl is8 rfl rfl ⟨by decide, Nat.le_of_ble_eq_true rfl, am_rcL (by decide) h8⟩
set_option maxHeartbeats 20000 in
theorem x170_602 : AW sv 170 602 [.float 2, v1, .ref a, v3] r h 90 1596 Q = AW sv 170 603 [.float 2, v1, .ref a, v3] (.ref a :: r) h 90 1596 Q := e_pv am_h170 dL_law_602 rfl rfl rfl rfl
set_option maxHeartbeats 20000 in
theorem x170_603 : AW sv 170 603 [.float 2, v1, v2, v3] r h 90 1596 Q = AW sv 170 604 [.float 2, v1, v2, v3] (.float 2 :: r) h 90 1596 Q := e_pv am_h170 dL_law_603 rfl rfl rfl rfl
set_option maxHeartbeats 20000 in
theorem x170_604 : AW sv 170 604 [.float 2, v1, v2, .int x] r h 90 1596 Q = AW sv 170 605 [.float 2, v1, v2, .int x] (.int x :: r) h 90 1596 Q := e_pv am_h170 dL_law_604 rfl rfl rfl rfl
set_option maxHeartbeats 20000 in
theorem x170_605 : AW sv 170 605 [.float 2, v1, v2, v3] r h 90 1596 Q = AW sv 170 606 [.float 2, v1, v2, v3] (.int (1) :: r) h 90 1596 Q := e_iconstv am_h170 dL_law_605 c_iconst_1
set_option maxHeartbeats 20000 in
theorem x170_606 : AW sv 170 606 [.float 2, v1, v2, v3] (.int y :: .int x :: r) h 90 1596 Q = AW sv 170 607 [.float 2, v1, v2, v3] (.int (x + y) :: r) h 90 1596 Q := e_iadd am_h170 dL_law_606
set_option maxHeartbeats 20000 in
theorem x170_607 (hi : am_in x (sv 2).1 = true) : AW sv 170 607 [.float 2, v1, v2, v3] (.int x :: .float 2 :: r) h 90 1596 Q = AW sv 170 608 [.float 2, v1, v2, v3] (.int ((sv 2).2 x.toNatClampNeg) :: r) h 90 1596 Q := e_ialx am_h170 dL_law_607 hi
set_option maxHeartbeats 20000 in
theorem x170_608 : AW sv 170 608 [.float 2, v1, v2, v3] r h 90 1596 Q = AW sv 170 609 [.float 2, v1, v2, v3] (.float 2 :: r) h 90 1596 Q := e_pv am_h170 dL_law_608 rfl rfl rfl rfl
set_option maxHeartbeats 20000 in
theorem x170_609 : AW sv 170 609 [.float 2, v1, v2, .int x] r h 90 1596 Q = AW sv 170 610 [.float 2, v1, v2, .int x] (.int x :: r) h 90 1596 Q := e_pv am_h170 dL_law_609 rfl rfl rfl rfl
set_option maxHeartbeats 20000 in
theorem x170_610 : AW sv 170 610 [.float 2, v1, v2, v3] r h 90 1596 Q = AW sv 170 611 [.float 2, v1, v2, v3] (.int (2) :: r) h 90 1596 Q := e_iconstv am_h170 dL_law_610 c_iconst_2
set_option maxHeartbeats 20000 in
theorem x170_611 : AW sv 170 611 [.float 2, v1, v2, v3] (.int y :: .int x :: r) h 90 1596 Q = AW sv 170 612 [.float 2, v1, v2, v3] (.int (x + y) :: r) h 90 1596 Q := e_iadd am_h170 dL_law_611
set_option maxHeartbeats 20000 in
theorem x170_612 (hi : am_in x (sv 2).1 = true) : AW sv 170 612 [.float 2, v1, v2, v3] (.int x :: .float 2 :: r) h 90 1596 Q = AW sv 170 613 [.float 2, v1, v2, v3] (.int ((sv 2).2 x.toNatClampNeg) :: r) h 90 1596 Q := e_ialx am_h170 dL_law_612 hi
set_option maxHeartbeats 20000 in
theorem x170_613 : AW sv 170 613 [.float 2, v1, v2, v3] r h 90 1596 Q = AW sv 170 614 [.float 2, v1, v2, v3] (.float 2 :: r) h 90 1596 Q := e_pv am_h170 dL_law_613 rfl rfl rfl rfl
set_option maxHeartbeats 20000 in
theorem x170_614 : AW sv 170 614 [.float 2, v1, v2, .int x] r h 90 1596 Q = AW sv 170 615 [.float 2, v1, v2, .int x] (.int x :: r) h 90 1596 Q := e_pv am_h170 dL_law_614 rfl rfl rfl rfl
set_option maxHeartbeats 20000 in
theorem x170_615 : AW sv 170 615 [.float 2, v1, v2, v3] r h 90 1596 Q = AW sv 170 616 [.float 2, v1, v2, v3] (.int (3) :: r) h 90 1596 Q := e_iconstv am_h170 dL_law_615 c_iconst_3
set_option maxHeartbeats 20000 in
theorem x170_616 : AW sv 170 616 [.float 2, v1, v2, v3] (.int y :: .int x :: r) h 90 1596 Q = AW sv 170 617 [.float 2, v1, v2, v3] (.int (x + y) :: r) h 90 1596 Q := e_iadd am_h170 dL_law_616
set_option maxHeartbeats 20000 in
theorem x170_617 (hi : am_in x (sv 2).1 = true) : AW sv 170 617 [.float 2, v1, v2, v3] (.int x :: .float 2 :: r) h 90 1596 Q = AW sv 170 618 [.float 2, v1, v2, v3] (.int ((sv 2).2 x.toNatClampNeg) :: r) h 90 1596 Q := e_ialx am_h170 dL_law_617 hi
set_option maxHeartbeats 20000 in
theorem x170_618 : AW sv 170 618 [.float 2, v1, v2, v3] r h 90 1596 Q = AW sv 170 619 [.float 2, v1, v2, v3] (.float 2 :: r) h 90 1596 Q := e_pv am_h170 dL_law_618 rfl rfl rfl rfl
set_option maxHeartbeats 20000 in
theorem x170_619 : AW sv 170 619 [.float 2, v1, v2, .int x] r h 90 1596 Q = AW sv 170 620 [.float 2, v1, v2, .int x] (.int x :: r) h 90 1596 Q := e_pv am_h170 dL_law_619 rfl rfl rfl rfl
set_option maxHeartbeats 20000 in
theorem x170_620 : AW sv 170 620 [.float 2, v1, v2, v3] r h 90 1596 Q = AW sv 170 621 [.float 2, v1, v2, v3] (.int (4) :: r) h 90 1596 Q := e_iconstv am_h170 dL_law_620 c_iconst_4
set_option maxHeartbeats 20000 in
theorem x170_621 : AW sv 170 621 [.float 2, v1, v2, v3] (.int y :: .int x :: r) h 90 1596 Q = AW sv 170 622 [.float 2, v1, v2, v3] (.int (x + y) :: r) h 90 1596 Q := e_iadd am_h170 dL_law_621
set_option maxHeartbeats 20000 in
theorem x170_622 (hi : am_in x (sv 2).1 = true) : AW sv 170 622 [.float 2, v1, v2, v3] (.int x :: .float 2 :: r) h 90 1596 Q = AW sv 170 623 [.float 2, v1, v2, v3] (.int ((sv 2).2 x.toNatClampNeg) :: r) h 90 1596 Q := e_ialx am_h170 dL_law_622 hi
set_option maxHeartbeats 20000 in
theorem x170_623 (h8 : am_cs r ≤ 8) : AW sv 170 623 [.float 2, v1, v2, v3] (.int x3 :: .int x2 :: .int x1 :: .int x0 :: .ref 71 :: r) (am_toH σ) 90 1596 Q = AM sv 132 [.ref 71, .int x0, .int x1, .int x2, .int x3] (am_toH σ) (fun v h1 => AW sv 170 626 [.float 2, v1, v2, v3] (v.toList ++ r) h1 90 1596 Q) := e_cV (as := [.int x0, .int x1, .int x2, .int x3]) am_h170 dL_law_623 ml_10_72 (by decide) am_h132 rfl is9 rfl rfl ⟨by decide, Nat.le_of_ble_eq_true rfl, am_rcL (by decide) h8⟩
set_option maxHeartbeats 20000 in
theorem x170_626 : AW sv 170 626 [.float 2, v1, v2, v3] (.int y :: .int x :: r) h 90 1596 Q = if x = y then AW sv 170 1400 [.float 2, v1, v2, v3] r h 90 1596 Q else AW sv 170 629 [.float 2, v1, v2, v3] r h 90 1596 Q := e_c_eq am_h170 dL_law_626 rfl
set_option maxHeartbeats 20000 in
theorem x170_629 : AW sv 170 629 [.float 2, v1, v2, v3] r h 90 1596 Q = AW sv 170 630 [.float 2, v1, v2, v3] (.int (0) :: r) h 90 1596 Q := e_iconstv am_h170 dL_law_629 c_iconst_0
set_option maxHeartbeats 20000 in
theorem x170_630 (hz : x = 0 ∨ x = 1) : AW sv 170 630 [.float 2, v1, v2, v3] [.int x] h 90 1596 Q = Q (some (.int x)) h := e_zret am_h170 dL_law_630 rfl ⟨rfl, rfl⟩ hz
set_option maxHeartbeats 20000 in
theorem x170_631 : AW sv 170 631 [.float 2, .ref a, v2, v3] r h 90 1596 Q = AW sv 170 632 [.float 2, .ref a, v2, v3] (.ref a :: r) h 90 1596 Q := e_pv am_h170 dL_law_631 rfl rfl rfl rfl
set_option maxHeartbeats 20000 in
theorem x170_632 : AW sv 170 632 [.float 2, v1, v2, v3] r h 90 1596 Q = AW sv 170 633 [.float 2, v1, v2, v3] (.float 2 :: r) h 90 1596 Q := e_pv am_h170 dL_law_632 rfl rfl rfl rfl
set_option maxHeartbeats 20000 in
theorem x170_633 : AW sv 170 633 [.float 2, v1, v2, .int x] r h 90 1596 Q = AW sv 170 634 [.float 2, v1, v2, .int x] (.int x :: r) h 90 1596 Q := e_pv am_h170 dL_law_633 rfl rfl rfl rfl
set_option maxHeartbeats 20000 in
theorem x170_634 : AW sv 170 634 [.float 2, v1, v2, v3] r h 90 1596 Q = AW sv 170 635 [.float 2, v1, v2, v3] (.int (1) :: r) h 90 1596 Q := e_iconstv am_h170 dL_law_634 c_iconst_1
set_option maxHeartbeats 20000 in
theorem x170_635 : AW sv 170 635 [.float 2, v1, v2, v3] (.int y :: .int x :: r) h 90 1596 Q = AW sv 170 636 [.float 2, v1, v2, v3] (.int (x + y) :: r) h 90 1596 Q := e_iadd am_h170 dL_law_635
set_option maxHeartbeats 20000 in
theorem x170_636 (hi : am_in x (sv 2).1 = true) : AW sv 170 636 [.float 2, v1, v2, v3] (.int x :: .float 2 :: r) h 90 1596 Q = AW sv 170 637 [.float 2, v1, v2, v3] (.int ((sv 2).2 x.toNatClampNeg) :: r) h 90 1596 Q := e_ialx am_h170 dL_law_636 hi
set_option maxHeartbeats 20000 in
theorem x170_637 : AW sv 170 637 [.float 2, v1, v2, v3] r h 90 1596 Q = AW sv 170 638 [.float 2, v1, v2, v3] (.float 2 :: r) h 90 1596 Q := e_pv am_h170 dL_law_637 rfl rfl rfl rfl
set_option maxHeartbeats 20000 in
theorem x170_638 : AW sv 170 638 [.float 2, v1, v2, .int x] r h 90 1596 Q = AW sv 170 639 [.float 2, v1, v2, .int x] (.int x :: r) h 90 1596 Q := e_pv am_h170 dL_law_638 rfl rfl rfl rfl
set_option maxHeartbeats 20000 in
theorem x170_639 : AW sv 170 639 [.float 2, v1, v2, v3] r h 90 1596 Q = AW sv 170 640 [.float 2, v1, v2, v3] (.int (2) :: r) h 90 1596 Q := e_iconstv am_h170 dL_law_639 c_iconst_2
set_option maxHeartbeats 20000 in
theorem x170_640 : AW sv 170 640 [.float 2, v1, v2, v3] (.int y :: .int x :: r) h 90 1596 Q = AW sv 170 641 [.float 2, v1, v2, v3] (.int (x + y) :: r) h 90 1596 Q := e_iadd am_h170 dL_law_640
set_option maxHeartbeats 20000 in
theorem x170_641 (hi : am_in x (sv 2).1 = true) : AW sv 170 641 [.float 2, v1, v2, v3] (.int x :: .float 2 :: r) h 90 1596 Q = AW sv 170 642 [.float 2, v1, v2, v3] (.int ((sv 2).2 x.toNatClampNeg) :: r) h 90 1596 Q := e_ialx am_h170 dL_law_641 hi
set_option maxHeartbeats 20000 in
theorem x170_642 (h8 : am_cs r ≤ 8) : AW sv 170 642 [.float 2, v1, v2, v3] (.int x1 :: .int x0 :: .ref 0 :: r) (am_toH σ) 90 1596 Q = AM sv 74 [.ref 0, .int x0, .int x1] (am_toH σ) (fun v h1 => AW sv 170 645 [.float 2, v1, v2, v3] (v.toList ++ r) h1 90 1596 Q) := e_cV (as := [.int x0, .int x1]) am_h170 dL_law_642 ml_10_73 (by decide) am_h74 rfl is8 rfl rfl ⟨by decide, Nat.le_of_ble_eq_true rfl, am_rcL (by decide) h8⟩
set_option maxHeartbeats 20000 in
theorem x170_645 : AW sv 170 645 [.float 2, v1, .ref a, v3] r h 90 1596 Q = AW sv 170 646 [.float 2, v1, .ref a, v3] (.ref a :: r) h 90 1596 Q := e_pv am_h170 dL_law_645 rfl rfl rfl rfl
set_option maxHeartbeats 20000 in
theorem x170_646 : AW sv 170 646 [.float 2, v1, v2, v3] r h 90 1596 Q = AW sv 170 647 [.float 2, v1, v2, v3] (.float 2 :: r) h 90 1596 Q := e_pv am_h170 dL_law_646 rfl rfl rfl rfl
set_option maxHeartbeats 20000 in
theorem x170_647 : AW sv 170 647 [.float 2, v1, v2, .int x] r h 90 1596 Q = AW sv 170 648 [.float 2, v1, v2, .int x] (.int x :: r) h 90 1596 Q := e_pv am_h170 dL_law_647 rfl rfl rfl rfl
set_option maxHeartbeats 20000 in
theorem x170_648 : AW sv 170 648 [.float 2, v1, v2, v3] r h 90 1596 Q = AW sv 170 649 [.float 2, v1, v2, v3] (.int (1) :: r) h 90 1596 Q := e_iconstv am_h170 dL_law_648 c_iconst_1
set_option maxHeartbeats 20000 in
theorem x170_649 : AW sv 170 649 [.float 2, v1, v2, v3] (.int y :: .int x :: r) h 90 1596 Q = AW sv 170 650 [.float 2, v1, v2, v3] (.int (x + y) :: r) h 90 1596 Q := e_iadd am_h170 dL_law_649
set_option maxHeartbeats 20000 in
theorem x170_650 (hi : am_in x (sv 2).1 = true) : AW sv 170 650 [.float 2, v1, v2, v3] (.int x :: .float 2 :: r) h 90 1596 Q = AW sv 170 651 [.float 2, v1, v2, v3] (.int ((sv 2).2 x.toNatClampNeg) :: r) h 90 1596 Q := e_ialx am_h170 dL_law_650 hi
set_option maxHeartbeats 20000 in
theorem x170_651 : AW sv 170 651 [.float 2, v1, v2, v3] r h 90 1596 Q = AW sv 170 652 [.float 2, v1, v2, v3] (.float 2 :: r) h 90 1596 Q := e_pv am_h170 dL_law_651 rfl rfl rfl rfl
set_option maxHeartbeats 20000 in
theorem x170_652 : AW sv 170 652 [.float 2, v1, v2, .int x] r h 90 1596 Q = AW sv 170 653 [.float 2, v1, v2, .int x] (.int x :: r) h 90 1596 Q := e_pv am_h170 dL_law_652 rfl rfl rfl rfl
set_option maxHeartbeats 20000 in
theorem x170_653 : AW sv 170 653 [.float 2, v1, v2, v3] r h 90 1596 Q = AW sv 170 654 [.float 2, v1, v2, v3] (.int (2) :: r) h 90 1596 Q := e_iconstv am_h170 dL_law_653 c_iconst_2
set_option maxHeartbeats 20000 in
theorem x170_654 : AW sv 170 654 [.float 2, v1, v2, v3] (.int y :: .int x :: r) h 90 1596 Q = AW sv 170 655 [.float 2, v1, v2, v3] (.int (x + y) :: r) h 90 1596 Q := e_iadd am_h170 dL_law_654
set_option maxHeartbeats 20000 in
theorem x170_655 (hi : am_in x (sv 2).1 = true) : AW sv 170 655 [.float 2, v1, v2, v3] (.int x :: .float 2 :: r) h 90 1596 Q = AW sv 170 656 [.float 2, v1, v2, v3] (.int ((sv 2).2 x.toNatClampNeg) :: r) h 90 1596 Q := e_ialx am_h170 dL_law_655 hi
set_option maxHeartbeats 20000 in
theorem x170_656 (h8 : am_cs r ≤ 8) : AW sv 170 656 [.float 2, v1, v2, v3] (.int x1 :: .int x0 :: .ref 71 :: r) (am_toH σ) 90 1596 Q = AM sv 134 [.ref 71, .int x0, .int x1] (am_toH σ) (fun v h1 => AW sv 170 659 [.float 2, v1, v2, v3] (v.toList ++ r) h1 90 1596 Q) := e_cV (as := [.int x0, .int x1]) am_h170 dL_law_656 ml_10_76 (by decide) am_h134 rfl is9 rfl rfl ⟨by decide, Nat.le_of_ble_eq_true rfl, am_rcL (by decide) h8⟩
set_option maxHeartbeats 20000 in
theorem x170_659 : AW sv 170 659 [.float 2, v1, v2, v3] (.int y :: .int x :: r) h 90 1596 Q = if x = y then AW sv 170 1400 [.float 2, v1, v2, v3] r h 90 1596 Q else AW sv 170 662 [.float 2, v1, v2, v3] r h 90 1596 Q := e_c_eq am_h170 dL_law_659 rfl
set_option maxHeartbeats 20000 in
theorem x170_662 : AW sv 170 662 [.float 2, v1, v2, v3] r h 90 1596 Q = AW sv 170 663 [.float 2, v1, v2, v3] (.int (0) :: r) h 90 1596 Q := e_iconstv am_h170 dL_law_662 c_iconst_0
set_option maxHeartbeats 20000 in
theorem x170_663 (hz : x = 0 ∨ x = 1) : AW sv 170 663 [.float 2, v1, v2, v3] [.int x] h 90 1596 Q = Q (some (.int x)) h := e_zret am_h170 dL_law_663 rfl ⟨rfl, rfl⟩ hz
set_option maxHeartbeats 20000 in
theorem x170_664 : AW sv 170 664 [.float 2, .ref a, v2, v3] r h 90 1596 Q = AW sv 170 665 [.float 2, .ref a, v2, v3] (.ref a :: r) h 90 1596 Q := e_pv am_h170 dL_law_664 rfl rfl rfl rfl
set_option maxHeartbeats 20000 in
theorem x170_665 : AW sv 170 665 [.float 2, v1, v2, v3] r h 90 1596 Q = AW sv 170 666 [.float 2, v1, v2, v3] (.float 2 :: r) h 90 1596 Q := e_pv am_h170 dL_law_665 rfl rfl rfl rfl
set_option maxHeartbeats 20000 in
theorem x170_666 : AW sv 170 666 [.float 2, v1, v2, .int x] r h 90 1596 Q = AW sv 170 667 [.float 2, v1, v2, .int x] (.int x :: r) h 90 1596 Q := e_pv am_h170 dL_law_666 rfl rfl rfl rfl
set_option maxHeartbeats 20000 in
theorem x170_667 : AW sv 170 667 [.float 2, v1, v2, v3] r h 90 1596 Q = AW sv 170 668 [.float 2, v1, v2, v3] (.int (1) :: r) h 90 1596 Q := e_iconstv am_h170 dL_law_667 c_iconst_1
set_option maxHeartbeats 20000 in
theorem x170_668 : AW sv 170 668 [.float 2, v1, v2, v3] (.int y :: .int x :: r) h 90 1596 Q = AW sv 170 669 [.float 2, v1, v2, v3] (.int (x + y) :: r) h 90 1596 Q := e_iadd am_h170 dL_law_668
set_option maxHeartbeats 20000 in
theorem x170_669 (hi : am_in x (sv 2).1 = true) : AW sv 170 669 [.float 2, v1, v2, v3] (.int x :: .float 2 :: r) h 90 1596 Q = AW sv 170 670 [.float 2, v1, v2, v3] (.int ((sv 2).2 x.toNatClampNeg) :: r) h 90 1596 Q := e_ialx am_h170 dL_law_669 hi
set_option maxHeartbeats 20000 in
theorem x170_670 : AW sv 170 670 [.float 2, v1, v2, v3] r h 90 1596 Q = AW sv 170 671 [.float 2, v1, v2, v3] (.float 2 :: r) h 90 1596 Q := e_pv am_h170 dL_law_670 rfl rfl rfl rfl
set_option maxHeartbeats 20000 in
theorem x170_671 : AW sv 170 671 [.float 2, v1, v2, .int x] r h 90 1596 Q = AW sv 170 672 [.float 2, v1, v2, .int x] (.int x :: r) h 90 1596 Q := e_pv am_h170 dL_law_671 rfl rfl rfl rfl
set_option maxHeartbeats 20000 in
theorem x170_672 : AW sv 170 672 [.float 2, v1, v2, v3] r h 90 1596 Q = AW sv 170 673 [.float 2, v1, v2, v3] (.int (2) :: r) h 90 1596 Q := e_iconstv am_h170 dL_law_672 c_iconst_2
set_option maxHeartbeats 20000 in
theorem x170_673 : AW sv 170 673 [.float 2, v1, v2, v3] (.int y :: .int x :: r) h 90 1596 Q = AW sv 170 674 [.float 2, v1, v2, v3] (.int (x + y) :: r) h 90 1596 Q := e_iadd am_h170 dL_law_673
set_option maxHeartbeats 20000 in
theorem x170_674 (hi : am_in x (sv 2).1 = true) : AW sv 170 674 [.float 2, v1, v2, v3] (.int x :: .float 2 :: r) h 90 1596 Q = AW sv 170 675 [.float 2, v1, v2, v3] (.int ((sv 2).2 x.toNatClampNeg) :: r) h 90 1596 Q := e_ialx am_h170 dL_law_674 hi
set_option maxHeartbeats 20000 in
theorem x170_675 (h8 : am_cs r ≤ 8) : AW sv 170 675 [.float 2, v1, v2, v3] (.int x1 :: .int x0 :: .ref 0 :: r) (am_toH σ) 90 1596 Q = AM sv 75 [.ref 0, .int x0, .int x1] (am_toH σ) (fun v h1 => AW sv 170 678 [.float 2, v1, v2, v3] (v.toList ++ r) h1 90 1596 Q) := e_cV (as := [.int x0, .int x1]) am_h170 dL_law_675 ml_10_77 (by decide) am_h75 rfl is8 rfl rfl ⟨by decide, Nat.le_of_ble_eq_true rfl, am_rcL (by decide) h8⟩
set_option maxHeartbeats 20000 in
theorem x170_678 : AW sv 170 678 [.float 2, v1, .ref a, v3] r h 90 1596 Q = AW sv 170 679 [.float 2, v1, .ref a, v3] (.ref a :: r) h 90 1596 Q := e_pv am_h170 dL_law_678 rfl rfl rfl rfl
set_option maxHeartbeats 20000 in
theorem x170_679 : AW sv 170 679 [.float 2, v1, v2, v3] r h 90 1596 Q = AW sv 170 680 [.float 2, v1, v2, v3] (.float 2 :: r) h 90 1596 Q := e_pv am_h170 dL_law_679 rfl rfl rfl rfl
set_option maxHeartbeats 20000 in
theorem x170_680 : AW sv 170 680 [.float 2, v1, v2, .int x] r h 90 1596 Q = AW sv 170 681 [.float 2, v1, v2, .int x] (.int x :: r) h 90 1596 Q := e_pv am_h170 dL_law_680 rfl rfl rfl rfl
set_option maxHeartbeats 20000 in
theorem x170_681 : AW sv 170 681 [.float 2, v1, v2, v3] r h 90 1596 Q = AW sv 170 682 [.float 2, v1, v2, v3] (.int (1) :: r) h 90 1596 Q := e_iconstv am_h170 dL_law_681 c_iconst_1
set_option maxHeartbeats 20000 in
theorem x170_682 : AW sv 170 682 [.float 2, v1, v2, v3] (.int y :: .int x :: r) h 90 1596 Q = AW sv 170 683 [.float 2, v1, v2, v3] (.int (x + y) :: r) h 90 1596 Q := e_iadd am_h170 dL_law_682
set_option maxHeartbeats 20000 in
theorem x170_683 (hi : am_in x (sv 2).1 = true) : AW sv 170 683 [.float 2, v1, v2, v3] (.int x :: .float 2 :: r) h 90 1596 Q = AW sv 170 684 [.float 2, v1, v2, v3] (.int ((sv 2).2 x.toNatClampNeg) :: r) h 90 1596 Q := e_ialx am_h170 dL_law_683 hi
set_option maxHeartbeats 20000 in
theorem x170_684 : AW sv 170 684 [.float 2, v1, v2, v3] r h 90 1596 Q = AW sv 170 685 [.float 2, v1, v2, v3] (.float 2 :: r) h 90 1596 Q := e_pv am_h170 dL_law_684 rfl rfl rfl rfl
set_option maxHeartbeats 20000 in
theorem x170_685 : AW sv 170 685 [.float 2, v1, v2, .int x] r h 90 1596 Q = AW sv 170 686 [.float 2, v1, v2, .int x] (.int x :: r) h 90 1596 Q := e_pv am_h170 dL_law_685 rfl rfl rfl rfl
set_option maxHeartbeats 20000 in
theorem x170_686 : AW sv 170 686 [.float 2, v1, v2, v3] r h 90 1596 Q = AW sv 170 687 [.float 2, v1, v2, v3] (.int (2) :: r) h 90 1596 Q := e_iconstv am_h170 dL_law_686 c_iconst_2
set_option maxHeartbeats 20000 in
theorem x170_687 : AW sv 170 687 [.float 2, v1, v2, v3] (.int y :: .int x :: r) h 90 1596 Q = AW sv 170 688 [.float 2, v1, v2, v3] (.int (x + y) :: r) h 90 1596 Q := e_iadd am_h170 dL_law_687
set_option maxHeartbeats 20000 in
theorem x170_688 (hi : am_in x (sv 2).1 = true) : AW sv 170 688 [.float 2, v1, v2, v3] (.int x :: .float 2 :: r) h 90 1596 Q = AW sv 170 689 [.float 2, v1, v2, v3] (.int ((sv 2).2 x.toNatClampNeg) :: r) h 90 1596 Q := e_ialx am_h170 dL_law_688 hi
set_option maxHeartbeats 20000 in
theorem x170_689 (h8 : am_cs r ≤ 8) : AW sv 170 689 [.float 2, v1, v2, v3] (.int x1 :: .int x0 :: .ref 71 :: r) (am_toH σ) 90 1596 Q = AM sv 136 [.ref 71, .int x0, .int x1] (am_toH σ) (fun v h1 => AW sv 170 692 [.float 2, v1, v2, v3] (v.toList ++ r) h1 90 1596 Q) := e_cV (as := [.int x0, .int x1]) am_h170 dL_law_689 ml_10_80 (by decide) am_h136 rfl is9 rfl rfl ⟨by decide, Nat.le_of_ble_eq_true rfl, am_rcL (by decide) h8⟩
set_option maxHeartbeats 20000 in
theorem x170_692 : AW sv 170 692 [.float 2, v1, v2, v3] (.int y :: .int x :: r) h 90 1596 Q = if x = y then AW sv 170 1400 [.float 2, v1, v2, v3] r h 90 1596 Q else AW sv 170 695 [.float 2, v1, v2, v3] r h 90 1596 Q := e_c_eq am_h170 dL_law_692 rfl
set_option maxHeartbeats 20000 in
theorem x170_695 : AW sv 170 695 [.float 2, v1, v2, v3] r h 90 1596 Q = AW sv 170 696 [.float 2, v1, v2, v3] (.int (0) :: r) h 90 1596 Q := e_iconstv am_h170 dL_law_695 c_iconst_0
set_option maxHeartbeats 20000 in
theorem x170_696 (hz : x = 0 ∨ x = 1) : AW sv 170 696 [.float 2, v1, v2, v3] [.int x] h 90 1596 Q = Q (some (.int x)) h := e_zret am_h170 dL_law_696 rfl ⟨rfl, rfl⟩ hz
set_option maxHeartbeats 20000 in
theorem x170_697 : AW sv 170 697 [.float 2, .ref a, v2, v3] r h 90 1596 Q = AW sv 170 698 [.float 2, .ref a, v2, v3] (.ref a :: r) h 90 1596 Q := e_pv am_h170 dL_law_697 rfl rfl rfl rfl
set_option maxHeartbeats 20000 in
theorem x170_698 : AW sv 170 698 [.float 2, v1, v2, v3] r h 90 1596 Q = AW sv 170 699 [.float 2, v1, v2, v3] (.float 2 :: r) h 90 1596 Q := e_pv am_h170 dL_law_698 rfl rfl rfl rfl
set_option maxHeartbeats 20000 in
theorem x170_699 : AW sv 170 699 [.float 2, v1, v2, .int x] r h 90 1596 Q = AW sv 170 700 [.float 2, v1, v2, .int x] (.int x :: r) h 90 1596 Q := e_pv am_h170 dL_law_699 rfl rfl rfl rfl
set_option maxHeartbeats 20000 in
theorem x170_700 : AW sv 170 700 [.float 2, v1, v2, v3] r h 90 1596 Q = AW sv 170 701 [.float 2, v1, v2, v3] (.int (1) :: r) h 90 1596 Q := e_iconstv am_h170 dL_law_700 c_iconst_1
set_option maxHeartbeats 20000 in
theorem x170_701 : AW sv 170 701 [.float 2, v1, v2, v3] (.int y :: .int x :: r) h 90 1596 Q = AW sv 170 702 [.float 2, v1, v2, v3] (.int (x + y) :: r) h 90 1596 Q := e_iadd am_h170 dL_law_701
set_option maxHeartbeats 20000 in
theorem x170_702 (hi : am_in x (sv 2).1 = true) : AW sv 170 702 [.float 2, v1, v2, v3] (.int x :: .float 2 :: r) h 90 1596 Q = AW sv 170 703 [.float 2, v1, v2, v3] (.int ((sv 2).2 x.toNatClampNeg) :: r) h 90 1596 Q := e_ialx am_h170 dL_law_702 hi
set_option maxHeartbeats 20000 in
theorem x170_703 : AW sv 170 703 [.float 2, v1, v2, v3] r h 90 1596 Q = AW sv 170 704 [.float 2, v1, v2, v3] (.float 2 :: r) h 90 1596 Q := e_pv am_h170 dL_law_703 rfl rfl rfl rfl
set_option maxHeartbeats 20000 in
theorem x170_704 : AW sv 170 704 [.float 2, v1, v2, .int x] r h 90 1596 Q = AW sv 170 705 [.float 2, v1, v2, .int x] (.int x :: r) h 90 1596 Q := e_pv am_h170 dL_law_704 rfl rfl rfl rfl
set_option maxHeartbeats 20000 in
theorem x170_705 : AW sv 170 705 [.float 2, v1, v2, v3] r h 90 1596 Q = AW sv 170 706 [.float 2, v1, v2, v3] (.int (2) :: r) h 90 1596 Q := e_iconstv am_h170 dL_law_705 c_iconst_2
set_option maxHeartbeats 20000 in
theorem x170_706 : AW sv 170 706 [.float 2, v1, v2, v3] (.int y :: .int x :: r) h 90 1596 Q = AW sv 170 707 [.float 2, v1, v2, v3] (.int (x + y) :: r) h 90 1596 Q := e_iadd am_h170 dL_law_706
set_option maxHeartbeats 20000 in
theorem x170_707 (hi : am_in x (sv 2).1 = true) : AW sv 170 707 [.float 2, v1, v2, v3] (.int x :: .float 2 :: r) h 90 1596 Q = AW sv 170 708 [.float 2, v1, v2, v3] (.int ((sv 2).2 x.toNatClampNeg) :: r) h 90 1596 Q := e_ialx am_h170 dL_law_707 hi
set_option maxHeartbeats 20000 in
theorem x170_708 : AW sv 170 708 [.float 2, v1, v2, v3] r h 90 1596 Q = AW sv 170 709 [.float 2, v1, v2, v3] (.float 2 :: r) h 90 1596 Q := e_pv am_h170 dL_law_708 rfl rfl rfl rfl
set_option maxHeartbeats 20000 in
theorem x170_709 : AW sv 170 709 [.float 2, v1, v2, .int x] r h 90 1596 Q = AW sv 170 710 [.float 2, v1, v2, .int x] (.int x :: r) h 90 1596 Q := e_pv am_h170 dL_law_709 rfl rfl rfl rfl
set_option maxHeartbeats 20000 in
theorem x170_710 : AW sv 170 710 [.float 2, v1, v2, v3] r h 90 1596 Q = AW sv 170 711 [.float 2, v1, v2, v3] (.int (3) :: r) h 90 1596 Q := e_iconstv am_h170 dL_law_710 c_iconst_3
set_option maxHeartbeats 20000 in
theorem x170_711 : AW sv 170 711 [.float 2, v1, v2, v3] (.int y :: .int x :: r) h 90 1596 Q = AW sv 170 712 [.float 2, v1, v2, v3] (.int (x + y) :: r) h 90 1596 Q := e_iadd am_h170 dL_law_711
set_option maxHeartbeats 20000 in
theorem x170_712 (hi : am_in x (sv 2).1 = true) : AW sv 170 712 [.float 2, v1, v2, v3] (.int x :: .float 2 :: r) h 90 1596 Q = AW sv 170 713 [.float 2, v1, v2, v3] (.int ((sv 2).2 x.toNatClampNeg) :: r) h 90 1596 Q := e_ialx am_h170 dL_law_712 hi
set_option maxHeartbeats 20000 in
theorem x170_713 : AW sv 170 713 [.float 2, v1, v2, v3] r h 90 1596 Q = AW sv 170 714 [.float 2, v1, v2, v3] (.float 2 :: r) h 90 1596 Q := e_pv am_h170 dL_law_713 rfl rfl rfl rfl
set_option maxHeartbeats 20000 in
theorem x170_714 : AW sv 170 714 [.float 2, v1, v2, .int x] r h 90 1596 Q = AW sv 170 715 [.float 2, v1, v2, .int x] (.int x :: r) h 90 1596 Q := e_pv am_h170 dL_law_714 rfl rfl rfl rfl
set_option maxHeartbeats 20000 in
theorem x170_715 : AW sv 170 715 [.float 2, v1, v2, v3] r h 90 1596 Q = AW sv 170 716 [.float 2, v1, v2, v3] (.int (4) :: r) h 90 1596 Q := e_iconstv am_h170 dL_law_715 c_iconst_4
set_option maxHeartbeats 20000 in
theorem x170_716 : AW sv 170 716 [.float 2, v1, v2, v3] (.int y :: .int x :: r) h 90 1596 Q = AW sv 170 717 [.float 2, v1, v2, v3] (.int (x + y) :: r) h 90 1596 Q := e_iadd am_h170 dL_law_716
set_option maxHeartbeats 20000 in
theorem x170_717 (hi : am_in x (sv 2).1 = true) : AW sv 170 717 [.float 2, v1, v2, v3] (.int x :: .float 2 :: r) h 90 1596 Q = AW sv 170 718 [.float 2, v1, v2, v3] (.int ((sv 2).2 x.toNatClampNeg) :: r) h 90 1596 Q := e_ialx am_h170 dL_law_717 hi
set_option maxHeartbeats 20000 in
theorem x170_718 (h8 : am_cs r ≤ 8) : AW sv 170 718 [.float 2, v1, v2, v3] (.int x3 :: .int x2 :: .int x1 :: .int x0 :: .ref 0 :: r) (am_toH σ) 90 1596 Q = AM sv 76 [.ref 0, .int x0, .int x1, .int x2, .int x3] (am_toH σ) (fun v h1 => AW sv 170 721 [.float 2, v1, v2, v3] (v.toList ++ r) h1 90 1596 Q) := e_cV (as := [.int x0, .int x1, .int x2, .int x3]) am_h170 dL_law_718 ml_10_81 (by decide) am_h76 rfl is8 rfl rfl ⟨by decide, Nat.le_of_ble_eq_true rfl, am_rcL (by decide) h8⟩
set_option maxHeartbeats 20000 in
theorem x170_721 : AW sv 170 721 [.float 2, v1, .ref a, v3] r h 90 1596 Q = AW sv 170 722 [.float 2, v1, .ref a, v3] (.ref a :: r) h 90 1596 Q := e_pv am_h170 dL_law_721 rfl rfl rfl rfl
set_option maxHeartbeats 20000 in
theorem x170_722 : AW sv 170 722 [.float 2, v1, v2, v3] r h 90 1596 Q = AW sv 170 723 [.float 2, v1, v2, v3] (.float 2 :: r) h 90 1596 Q := e_pv am_h170 dL_law_722 rfl rfl rfl rfl
set_option maxHeartbeats 20000 in
theorem x170_723 : AW sv 170 723 [.float 2, v1, v2, .int x] r h 90 1596 Q = AW sv 170 724 [.float 2, v1, v2, .int x] (.int x :: r) h 90 1596 Q := e_pv am_h170 dL_law_723 rfl rfl rfl rfl
set_option maxHeartbeats 20000 in
theorem x170_724 : AW sv 170 724 [.float 2, v1, v2, v3] r h 90 1596 Q = AW sv 170 725 [.float 2, v1, v2, v3] (.int (1) :: r) h 90 1596 Q := e_iconstv am_h170 dL_law_724 c_iconst_1
set_option maxHeartbeats 20000 in
theorem x170_725 : AW sv 170 725 [.float 2, v1, v2, v3] (.int y :: .int x :: r) h 90 1596 Q = AW sv 170 726 [.float 2, v1, v2, v3] (.int (x + y) :: r) h 90 1596 Q := e_iadd am_h170 dL_law_725
set_option maxHeartbeats 20000 in
theorem x170_726 (hi : am_in x (sv 2).1 = true) : AW sv 170 726 [.float 2, v1, v2, v3] (.int x :: .float 2 :: r) h 90 1596 Q = AW sv 170 727 [.float 2, v1, v2, v3] (.int ((sv 2).2 x.toNatClampNeg) :: r) h 90 1596 Q := e_ialx am_h170 dL_law_726 hi
set_option maxHeartbeats 20000 in
theorem x170_727 : AW sv 170 727 [.float 2, v1, v2, v3] r h 90 1596 Q = AW sv 170 728 [.float 2, v1, v2, v3] (.float 2 :: r) h 90 1596 Q := e_pv am_h170 dL_law_727 rfl rfl rfl rfl
set_option maxHeartbeats 20000 in
theorem x170_728 : AW sv 170 728 [.float 2, v1, v2, .int x] r h 90 1596 Q = AW sv 170 729 [.float 2, v1, v2, .int x] (.int x :: r) h 90 1596 Q := e_pv am_h170 dL_law_728 rfl rfl rfl rfl
set_option maxHeartbeats 20000 in
theorem x170_729 : AW sv 170 729 [.float 2, v1, v2, v3] r h 90 1596 Q = AW sv 170 730 [.float 2, v1, v2, v3] (.int (2) :: r) h 90 1596 Q := e_iconstv am_h170 dL_law_729 c_iconst_2
set_option maxHeartbeats 20000 in
theorem x170_730 : AW sv 170 730 [.float 2, v1, v2, v3] (.int y :: .int x :: r) h 90 1596 Q = AW sv 170 731 [.float 2, v1, v2, v3] (.int (x + y) :: r) h 90 1596 Q := e_iadd am_h170 dL_law_730
set_option maxHeartbeats 20000 in
theorem x170_731 (hi : am_in x (sv 2).1 = true) : AW sv 170 731 [.float 2, v1, v2, v3] (.int x :: .float 2 :: r) h 90 1596 Q = AW sv 170 732 [.float 2, v1, v2, v3] (.int ((sv 2).2 x.toNatClampNeg) :: r) h 90 1596 Q := e_ialx am_h170 dL_law_731 hi
set_option maxHeartbeats 20000 in
theorem x170_732 : AW sv 170 732 [.float 2, v1, v2, v3] r h 90 1596 Q = AW sv 170 733 [.float 2, v1, v2, v3] (.float 2 :: r) h 90 1596 Q := e_pv am_h170 dL_law_732 rfl rfl rfl rfl
set_option maxHeartbeats 20000 in
theorem x170_733 : AW sv 170 733 [.float 2, v1, v2, .int x] r h 90 1596 Q = AW sv 170 734 [.float 2, v1, v2, .int x] (.int x :: r) h 90 1596 Q := e_pv am_h170 dL_law_733 rfl rfl rfl rfl
set_option maxHeartbeats 20000 in
theorem x170_734 : AW sv 170 734 [.float 2, v1, v2, v3] r h 90 1596 Q = AW sv 170 735 [.float 2, v1, v2, v3] (.int (3) :: r) h 90 1596 Q := e_iconstv am_h170 dL_law_734 c_iconst_3
set_option maxHeartbeats 20000 in
theorem x170_735 : AW sv 170 735 [.float 2, v1, v2, v3] (.int y :: .int x :: r) h 90 1596 Q = AW sv 170 736 [.float 2, v1, v2, v3] (.int (x + y) :: r) h 90 1596 Q := e_iadd am_h170 dL_law_735
set_option maxHeartbeats 20000 in
theorem x170_736 (hi : am_in x (sv 2).1 = true) : AW sv 170 736 [.float 2, v1, v2, v3] (.int x :: .float 2 :: r) h 90 1596 Q = AW sv 170 737 [.float 2, v1, v2, v3] (.int ((sv 2).2 x.toNatClampNeg) :: r) h 90 1596 Q := e_ialx am_h170 dL_law_736 hi
set_option maxHeartbeats 20000 in
theorem x170_737 : AW sv 170 737 [.float 2, v1, v2, v3] r h 90 1596 Q = AW sv 170 738 [.float 2, v1, v2, v3] (.float 2 :: r) h 90 1596 Q := e_pv am_h170 dL_law_737 rfl rfl rfl rfl
set_option maxHeartbeats 20000 in
theorem x170_738 : AW sv 170 738 [.float 2, v1, v2, .int x] r h 90 1596 Q = AW sv 170 739 [.float 2, v1, v2, .int x] (.int x :: r) h 90 1596 Q := e_pv am_h170 dL_law_738 rfl rfl rfl rfl
set_option maxHeartbeats 20000 in
theorem x170_739 : AW sv 170 739 [.float 2, v1, v2, v3] r h 90 1596 Q = AW sv 170 740 [.float 2, v1, v2, v3] (.int (4) :: r) h 90 1596 Q := e_iconstv am_h170 dL_law_739 c_iconst_4
set_option maxHeartbeats 20000 in
theorem x170_740 : AW sv 170 740 [.float 2, v1, v2, v3] (.int y :: .int x :: r) h 90 1596 Q = AW sv 170 741 [.float 2, v1, v2, v3] (.int (x + y) :: r) h 90 1596 Q := e_iadd am_h170 dL_law_740
set_option maxHeartbeats 20000 in
theorem x170_741 (hi : am_in x (sv 2).1 = true) : AW sv 170 741 [.float 2, v1, v2, v3] (.int x :: .float 2 :: r) h 90 1596 Q = AW sv 170 742 [.float 2, v1, v2, v3] (.int ((sv 2).2 x.toNatClampNeg) :: r) h 90 1596 Q := e_ialx am_h170 dL_law_741 hi
set_option maxHeartbeats 20000 in
theorem x170_742 (h8 : am_cs r ≤ 8) : AW sv 170 742 [.float 2, v1, v2, v3] (.int x3 :: .int x2 :: .int x1 :: .int x0 :: .ref 71 :: r) (am_toH σ) 90 1596 Q = AM sv 138 [.ref 71, .int x0, .int x1, .int x2, .int x3] (am_toH σ) (fun v h1 => AW sv 170 745 [.float 2, v1, v2, v3] (v.toList ++ r) h1 90 1596 Q) := e_cV (as := [.int x0, .int x1, .int x2, .int x3]) am_h170 dL_law_742 ml_10_84 (by decide) am_h138 rfl is9 rfl rfl ⟨by decide, Nat.le_of_ble_eq_true rfl, am_rcL (by decide) h8⟩
set_option maxHeartbeats 20000 in
theorem x170_745 : AW sv 170 745 [.float 2, v1, v2, v3] (.int y :: .int x :: r) h 90 1596 Q = if x = y then AW sv 170 1400 [.float 2, v1, v2, v3] r h 90 1596 Q else AW sv 170 748 [.float 2, v1, v2, v3] r h 90 1596 Q := e_c_eq am_h170 dL_law_745 rfl
set_option maxHeartbeats 20000 in
theorem x170_748 : AW sv 170 748 [.float 2, v1, v2, v3] r h 90 1596 Q = AW sv 170 749 [.float 2, v1, v2, v3] (.int (0) :: r) h 90 1596 Q := e_iconstv am_h170 dL_law_748 c_iconst_0
set_option maxHeartbeats 20000 in
theorem x170_749 (hz : x = 0 ∨ x = 1) : AW sv 170 749 [.float 2, v1, v2, v3] [.int x] h 90 1596 Q = Q (some (.int x)) h := e_zret am_h170 dL_law_749 rfl ⟨rfl, rfl⟩ hz
set_option maxHeartbeats 20000 in
theorem x170_750 : AW sv 170 750 [.float 2, .ref a, v2, v3] r h 90 1596 Q = AW sv 170 751 [.float 2, .ref a, v2, v3] (.ref a :: r) h 90 1596 Q := e_pv am_h170 dL_law_750 rfl rfl rfl rfl
set_option maxHeartbeats 20000 in
theorem x170_751 : AW sv 170 751 [.float 2, v1, v2, v3] r h 90 1596 Q = AW sv 170 752 [.float 2, v1, v2, v3] (.float 2 :: r) h 90 1596 Q := e_pv am_h170 dL_law_751 rfl rfl rfl rfl
set_option maxHeartbeats 20000 in
theorem x170_752 : AW sv 170 752 [.float 2, v1, v2, .int x] r h 90 1596 Q = AW sv 170 753 [.float 2, v1, v2, .int x] (.int x :: r) h 90 1596 Q := e_pv am_h170 dL_law_752 rfl rfl rfl rfl
set_option maxHeartbeats 20000 in
theorem x170_753 : AW sv 170 753 [.float 2, v1, v2, v3] r h 90 1596 Q = AW sv 170 754 [.float 2, v1, v2, v3] (.int (1) :: r) h 90 1596 Q := e_iconstv am_h170 dL_law_753 c_iconst_1
set_option maxHeartbeats 20000 in
theorem x170_754 : AW sv 170 754 [.float 2, v1, v2, v3] (.int y :: .int x :: r) h 90 1596 Q = AW sv 170 755 [.float 2, v1, v2, v3] (.int (x + y) :: r) h 90 1596 Q := e_iadd am_h170 dL_law_754
set_option maxHeartbeats 20000 in
theorem x170_755 (hi : am_in x (sv 2).1 = true) : AW sv 170 755 [.float 2, v1, v2, v3] (.int x :: .float 2 :: r) h 90 1596 Q = AW sv 170 756 [.float 2, v1, v2, v3] (.int ((sv 2).2 x.toNatClampNeg) :: r) h 90 1596 Q := e_ialx am_h170 dL_law_755 hi
set_option maxHeartbeats 20000 in
theorem x170_756 : AW sv 170 756 [.float 2, v1, v2, v3] r h 90 1596 Q = AW sv 170 757 [.float 2, v1, v2, v3] (.float 2 :: r) h 90 1596 Q := e_pv am_h170 dL_law_756 rfl rfl rfl rfl
set_option maxHeartbeats 20000 in
theorem x170_757 : AW sv 170 757 [.float 2, v1, v2, .int x] r h 90 1596 Q = AW sv 170 758 [.float 2, v1, v2, .int x] (.int x :: r) h 90 1596 Q := e_pv am_h170 dL_law_757 rfl rfl rfl rfl
set_option maxHeartbeats 20000 in
theorem x170_758 : AW sv 170 758 [.float 2, v1, v2, v3] r h 90 1596 Q = AW sv 170 759 [.float 2, v1, v2, v3] (.int (2) :: r) h 90 1596 Q := e_iconstv am_h170 dL_law_758 c_iconst_2
set_option maxHeartbeats 20000 in
theorem x170_759 : AW sv 170 759 [.float 2, v1, v2, v3] (.int y :: .int x :: r) h 90 1596 Q = AW sv 170 760 [.float 2, v1, v2, v3] (.int (x + y) :: r) h 90 1596 Q := e_iadd am_h170 dL_law_759
set_option maxHeartbeats 20000 in
theorem x170_760 (hi : am_in x (sv 2).1 = true) : AW sv 170 760 [.float 2, v1, v2, v3] (.int x :: .float 2 :: r) h 90 1596 Q = AW sv 170 761 [.float 2, v1, v2, v3] (.int ((sv 2).2 x.toNatClampNeg) :: r) h 90 1596 Q := e_ialx am_h170 dL_law_760 hi
set_option maxHeartbeats 20000 in
theorem x170_761 (h8 : am_cs r ≤ 8) : AW sv 170 761 [.float 2, v1, v2, v3] (.int x1 :: .int x0 :: .ref 0 :: r) (am_toH σ) 90 1596 Q = AM sv 77 [.ref 0, .int x0, .int x1] (am_toH σ) (fun v h1 => AW sv 170 764 [.float 2, v1, v2, v3] (v.toList ++ r) h1 90 1596 Q) := e_cV (as := [.int x0, .int x1]) am_h170 dL_law_761 ml_10_85 (by decide) am_h77 rfl is8 rfl rfl ⟨by decide, Nat.le_of_ble_eq_true rfl, am_rcL (by decide) h8⟩
set_option maxHeartbeats 20000 in
theorem x170_764 : AW sv 170 764 [.float 2, v1, .ref a, v3] r h 90 1596 Q = AW sv 170 765 [.float 2, v1, .ref a, v3] (.ref a :: r) h 90 1596 Q := e_pv am_h170 dL_law_764 rfl rfl rfl rfl
set_option maxHeartbeats 20000 in
theorem x170_765 : AW sv 170 765 [.float 2, v1, v2, v3] r h 90 1596 Q = AW sv 170 766 [.float 2, v1, v2, v3] (.float 2 :: r) h 90 1596 Q := e_pv am_h170 dL_law_765 rfl rfl rfl rfl
set_option maxHeartbeats 20000 in
theorem x170_766 : AW sv 170 766 [.float 2, v1, v2, .int x] r h 90 1596 Q = AW sv 170 767 [.float 2, v1, v2, .int x] (.int x :: r) h 90 1596 Q := e_pv am_h170 dL_law_766 rfl rfl rfl rfl
set_option maxHeartbeats 20000 in
theorem x170_767 : AW sv 170 767 [.float 2, v1, v2, v3] r h 90 1596 Q = AW sv 170 768 [.float 2, v1, v2, v3] (.int (1) :: r) h 90 1596 Q := e_iconstv am_h170 dL_law_767 c_iconst_1
set_option maxHeartbeats 20000 in
theorem x170_768 : AW sv 170 768 [.float 2, v1, v2, v3] (.int y :: .int x :: r) h 90 1596 Q = AW sv 170 769 [.float 2, v1, v2, v3] (.int (x + y) :: r) h 90 1596 Q := e_iadd am_h170 dL_law_768
set_option maxHeartbeats 20000 in
theorem x170_769 (hi : am_in x (sv 2).1 = true) : AW sv 170 769 [.float 2, v1, v2, v3] (.int x :: .float 2 :: r) h 90 1596 Q = AW sv 170 770 [.float 2, v1, v2, v3] (.int ((sv 2).2 x.toNatClampNeg) :: r) h 90 1596 Q := e_ialx am_h170 dL_law_769 hi
set_option maxHeartbeats 20000 in
theorem x170_770 : AW sv 170 770 [.float 2, v1, v2, v3] r h 90 1596 Q = AW sv 170 771 [.float 2, v1, v2, v3] (.float 2 :: r) h 90 1596 Q := e_pv am_h170 dL_law_770 rfl rfl rfl rfl
set_option maxHeartbeats 20000 in
theorem x170_771 : AW sv 170 771 [.float 2, v1, v2, .int x] r h 90 1596 Q = AW sv 170 772 [.float 2, v1, v2, .int x] (.int x :: r) h 90 1596 Q := e_pv am_h170 dL_law_771 rfl rfl rfl rfl
set_option maxHeartbeats 20000 in
theorem x170_772 : AW sv 170 772 [.float 2, v1, v2, v3] r h 90 1596 Q = AW sv 170 773 [.float 2, v1, v2, v3] (.int (2) :: r) h 90 1596 Q := e_iconstv am_h170 dL_law_772 c_iconst_2
set_option maxHeartbeats 20000 in
theorem x170_773 : AW sv 170 773 [.float 2, v1, v2, v3] (.int y :: .int x :: r) h 90 1596 Q = AW sv 170 774 [.float 2, v1, v2, v3] (.int (x + y) :: r) h 90 1596 Q := e_iadd am_h170 dL_law_773
set_option maxHeartbeats 20000 in
theorem x170_774 (hi : am_in x (sv 2).1 = true) : AW sv 170 774 [.float 2, v1, v2, v3] (.int x :: .float 2 :: r) h 90 1596 Q = AW sv 170 775 [.float 2, v1, v2, v3] (.int ((sv 2).2 x.toNatClampNeg) :: r) h 90 1596 Q := e_ialx am_h170 dL_law_774 hi
set_option maxHeartbeats 20000 in
theorem x170_775 (h8 : am_cs r ≤ 8) : AW sv 170 775 [.float 2, v1, v2, v3] (.int x1 :: .int x0 :: .ref 71 :: r) (am_toH σ) 90 1596 Q = AM sv 141 [.ref 71, .int x0, .int x1] (am_toH σ) (fun v h1 => AW sv 170 778 [.float 2, v1, v2, v3] (v.toList ++ r) h1 90 1596 Q) := e_cV (as := [.int x0, .int x1]) am_h170 dL_law_775 ml_10_88 (by decide) am_h141 rfl is9 rfl rfl ⟨by decide, Nat.le_of_ble_eq_true rfl, am_rcL (by decide) h8⟩
set_option maxHeartbeats 20000 in
theorem x170_778 : AW sv 170 778 [.float 2, v1, v2, v3] (.int y :: .int x :: r) h 90 1596 Q = if x = y then AW sv 170 1400 [.float 2, v1, v2, v3] r h 90 1596 Q else AW sv 170 781 [.float 2, v1, v2, v3] r h 90 1596 Q := e_c_eq am_h170 dL_law_778 rfl
set_option maxHeartbeats 20000 in
theorem x170_781 : AW sv 170 781 [.float 2, v1, v2, v3] r h 90 1596 Q = AW sv 170 782 [.float 2, v1, v2, v3] (.int (0) :: r) h 90 1596 Q := e_iconstv am_h170 dL_law_781 c_iconst_0
set_option maxHeartbeats 20000 in
theorem x170_782 (hz : x = 0 ∨ x = 1) : AW sv 170 782 [.float 2, v1, v2, v3] [.int x] h 90 1596 Q = Q (some (.int x)) h := e_zret am_h170 dL_law_782 rfl ⟨rfl, rfl⟩ hz
set_option maxHeartbeats 20000 in
theorem x170_783 : AW sv 170 783 [.float 2, .ref a, v2, v3] r h 90 1596 Q = AW sv 170 784 [.float 2, .ref a, v2, v3] (.ref a :: r) h 90 1596 Q := e_pv am_h170 dL_law_783 rfl rfl rfl rfl
set_option maxHeartbeats 20000 in
theorem x170_784 : AW sv 170 784 [.float 2, v1, v2, v3] r h 90 1596 Q = AW sv 170 785 [.float 2, v1, v2, v3] (.float 2 :: r) h 90 1596 Q := e_pv am_h170 dL_law_784 rfl rfl rfl rfl
set_option maxHeartbeats 20000 in
theorem x170_785 : AW sv 170 785 [.float 2, v1, v2, .int x] r h 90 1596 Q = AW sv 170 786 [.float 2, v1, v2, .int x] (.int x :: r) h 90 1596 Q := e_pv am_h170 dL_law_785 rfl rfl rfl rfl
set_option maxHeartbeats 20000 in
theorem x170_786 : AW sv 170 786 [.float 2, v1, v2, v3] r h 90 1596 Q = AW sv 170 787 [.float 2, v1, v2, v3] (.int (1) :: r) h 90 1596 Q := e_iconstv am_h170 dL_law_786 c_iconst_1
set_option maxHeartbeats 20000 in
theorem x170_787 : AW sv 170 787 [.float 2, v1, v2, v3] (.int y :: .int x :: r) h 90 1596 Q = AW sv 170 788 [.float 2, v1, v2, v3] (.int (x + y) :: r) h 90 1596 Q := e_iadd am_h170 dL_law_787
set_option maxHeartbeats 20000 in
theorem x170_788 (hi : am_in x (sv 2).1 = true) : AW sv 170 788 [.float 2, v1, v2, v3] (.int x :: .float 2 :: r) h 90 1596 Q = AW sv 170 789 [.float 2, v1, v2, v3] (.int ((sv 2).2 x.toNatClampNeg) :: r) h 90 1596 Q := e_ialx am_h170 dL_law_788 hi
set_option maxHeartbeats 20000 in
theorem x170_789 : AW sv 170 789 [.float 2, v1, v2, v3] r h 90 1596 Q = AW sv 170 790 [.float 2, v1, v2, v3] (.float 2 :: r) h 90 1596 Q := e_pv am_h170 dL_law_789 rfl rfl rfl rfl
set_option maxHeartbeats 20000 in
theorem x170_790 : AW sv 170 790 [.float 2, v1, v2, .int x] r h 90 1596 Q = AW sv 170 791 [.float 2, v1, v2, .int x] (.int x :: r) h 90 1596 Q := e_pv am_h170 dL_law_790 rfl rfl rfl rfl
set_option maxHeartbeats 20000 in
theorem x170_791 : AW sv 170 791 [.float 2, v1, v2, v3] r h 90 1596 Q = AW sv 170 792 [.float 2, v1, v2, v3] (.int (2) :: r) h 90 1596 Q := e_iconstv am_h170 dL_law_791 c_iconst_2
set_option maxHeartbeats 20000 in
theorem x170_792 : AW sv 170 792 [.float 2, v1, v2, v3] (.int y :: .int x :: r) h 90 1596 Q = AW sv 170 793 [.float 2, v1, v2, v3] (.int (x + y) :: r) h 90 1596 Q := e_iadd am_h170 dL_law_792
set_option maxHeartbeats 20000 in
theorem x170_793 (hi : am_in x (sv 2).1 = true) : AW sv 170 793 [.float 2, v1, v2, v3] (.int x :: .float 2 :: r) h 90 1596 Q = AW sv 170 794 [.float 2, v1, v2, v3] (.int ((sv 2).2 x.toNatClampNeg) :: r) h 90 1596 Q := e_ialx am_h170 dL_law_793 hi
set_option maxHeartbeats 20000 in
theorem x170_794 (h8 : am_cs r ≤ 8) : AW sv 170 794 [.float 2, v1, v2, v3] (.int x1 :: .int x0 :: .ref 0 :: r) (am_toH σ) 90 1596 Q = AM sv 78 [.ref 0, .int x0, .int x1] (am_toH σ) (fun v h1 => AW sv 170 797 [.float 2, v1, v2, v3] (v.toList ++ r) h1 90 1596 Q) := e_cV (as := [.int x0, .int x1]) am_h170 dL_law_794 ml_10_89 (by decide) am_h78 rfl is8 rfl rfl ⟨by decide, Nat.le_of_ble_eq_true rfl, am_rcL (by decide) h8⟩
set_option maxHeartbeats 20000 in
theorem x170_797 : AW sv 170 797 [.float 2, v1, .ref a, v3] r h 90 1596 Q = AW sv 170 798 [.float 2, v1, .ref a, v3] (.ref a :: r) h 90 1596 Q := e_pv am_h170 dL_law_797 rfl rfl rfl rfl
set_option maxHeartbeats 20000 in
theorem x170_798 : AW sv 170 798 [.float 2, v1, v2, v3] r h 90 1596 Q = AW sv 170 799 [.float 2, v1, v2, v3] (.float 2 :: r) h 90 1596 Q := e_pv am_h170 dL_law_798 rfl rfl rfl rfl
set_option maxHeartbeats 20000 in
theorem x170_799 : AW sv 170 799 [.float 2, v1, v2, .int x] r h 90 1596 Q = AW sv 170 800 [.float 2, v1, v2, .int x] (.int x :: r) h 90 1596 Q := e_pv am_h170 dL_law_799 rfl rfl rfl rfl
set_option maxHeartbeats 20000 in
theorem x170_800 : AW sv 170 800 [.float 2, v1, v2, v3] r h 90 1596 Q = AW sv 170 801 [.float 2, v1, v2, v3] (.int (1) :: r) h 90 1596 Q := e_iconstv am_h170 dL_law_800 c_iconst_1
set_option maxHeartbeats 20000 in
theorem x170_801 : AW sv 170 801 [.float 2, v1, v2, v3] (.int y :: .int x :: r) h 90 1596 Q = AW sv 170 802 [.float 2, v1, v2, v3] (.int (x + y) :: r) h 90 1596 Q := e_iadd am_h170 dL_law_801
set_option maxHeartbeats 20000 in
theorem x170_802 (hi : am_in x (sv 2).1 = true) : AW sv 170 802 [.float 2, v1, v2, v3] (.int x :: .float 2 :: r) h 90 1596 Q = AW sv 170 803 [.float 2, v1, v2, v3] (.int ((sv 2).2 x.toNatClampNeg) :: r) h 90 1596 Q := e_ialx am_h170 dL_law_802 hi
set_option maxHeartbeats 20000 in
theorem x170_803 : AW sv 170 803 [.float 2, v1, v2, v3] r h 90 1596 Q = AW sv 170 804 [.float 2, v1, v2, v3] (.float 2 :: r) h 90 1596 Q := e_pv am_h170 dL_law_803 rfl rfl rfl rfl
set_option maxHeartbeats 20000 in
theorem x170_804 : AW sv 170 804 [.float 2, v1, v2, .int x] r h 90 1596 Q = AW sv 170 805 [.float 2, v1, v2, .int x] (.int x :: r) h 90 1596 Q := e_pv am_h170 dL_law_804 rfl rfl rfl rfl
set_option maxHeartbeats 20000 in
theorem x170_805 : AW sv 170 805 [.float 2, v1, v2, v3] r h 90 1596 Q = AW sv 170 806 [.float 2, v1, v2, v3] (.int (2) :: r) h 90 1596 Q := e_iconstv am_h170 dL_law_805 c_iconst_2
set_option maxHeartbeats 20000 in
theorem x170_806 : AW sv 170 806 [.float 2, v1, v2, v3] (.int y :: .int x :: r) h 90 1596 Q = AW sv 170 807 [.float 2, v1, v2, v3] (.int (x + y) :: r) h 90 1596 Q := e_iadd am_h170 dL_law_806
set_option maxHeartbeats 20000 in
theorem x170_807 (hi : am_in x (sv 2).1 = true) : AW sv 170 807 [.float 2, v1, v2, v3] (.int x :: .float 2 :: r) h 90 1596 Q = AW sv 170 808 [.float 2, v1, v2, v3] (.int ((sv 2).2 x.toNatClampNeg) :: r) h 90 1596 Q := e_ialx am_h170 dL_law_807 hi
set_option maxHeartbeats 20000 in
theorem x170_808 (h8 : am_cs r ≤ 8) : AW sv 170 808 [.float 2, v1, v2, v3] (.int x1 :: .int x0 :: .ref 71 :: r) (am_toH σ) 90 1596 Q = AM sv 142 [.ref 71, .int x0, .int x1] (am_toH σ) (fun v h1 => AW sv 170 811 [.float 2, v1, v2, v3] (v.toList ++ r) h1 90 1596 Q) := e_cV (as := [.int x0, .int x1]) am_h170 dL_law_808 ml_10_92 (by decide) am_h142 rfl is9 rfl rfl ⟨by decide, Nat.le_of_ble_eq_true rfl, am_rcL (by decide) h8⟩
set_option maxHeartbeats 20000 in
theorem x170_811 : AW sv 170 811 [.float 2, v1, v2, v3] (.int y :: .int x :: r) h 90 1596 Q = if x = y then AW sv 170 1400 [.float 2, v1, v2, v3] r h 90 1596 Q else AW sv 170 814 [.float 2, v1, v2, v3] r h 90 1596 Q := e_c_eq am_h170 dL_law_811 rfl
set_option maxHeartbeats 20000 in
theorem x170_814 : AW sv 170 814 [.float 2, v1, v2, v3] r h 90 1596 Q = AW sv 170 815 [.float 2, v1, v2, v3] (.int (0) :: r) h 90 1596 Q := e_iconstv am_h170 dL_law_814 c_iconst_0
set_option maxHeartbeats 20000 in
theorem x170_815 (hz : x = 0 ∨ x = 1) : AW sv 170 815 [.float 2, v1, v2, v3] [.int x] h 90 1596 Q = Q (some (.int x)) h := e_zret am_h170 dL_law_815 rfl ⟨rfl, rfl⟩ hz
set_option maxHeartbeats 20000 in
theorem x170_816 : AW sv 170 816 [.float 2, .ref a, v2, v3] r h 90 1596 Q = AW sv 170 817 [.float 2, .ref a, v2, v3] (.ref a :: r) h 90 1596 Q := e_pv am_h170 dL_law_816 rfl rfl rfl rfl
set_option maxHeartbeats 20000 in
theorem x170_817 : AW sv 170 817 [.float 2, v1, v2, v3] r h 90 1596 Q = AW sv 170 818 [.float 2, v1, v2, v3] (.float 2 :: r) h 90 1596 Q := e_pv am_h170 dL_law_817 rfl rfl rfl rfl
set_option maxHeartbeats 20000 in
theorem x170_818 : AW sv 170 818 [.float 2, v1, v2, .int x] r h 90 1596 Q = AW sv 170 819 [.float 2, v1, v2, .int x] (.int x :: r) h 90 1596 Q := e_pv am_h170 dL_law_818 rfl rfl rfl rfl
set_option maxHeartbeats 20000 in
theorem x170_819 : AW sv 170 819 [.float 2, v1, v2, v3] r h 90 1596 Q = AW sv 170 820 [.float 2, v1, v2, v3] (.int (1) :: r) h 90 1596 Q := e_iconstv am_h170 dL_law_819 c_iconst_1
set_option maxHeartbeats 20000 in
theorem x170_820 : AW sv 170 820 [.float 2, v1, v2, v3] (.int y :: .int x :: r) h 90 1596 Q = AW sv 170 821 [.float 2, v1, v2, v3] (.int (x + y) :: r) h 90 1596 Q := e_iadd am_h170 dL_law_820
set_option maxHeartbeats 20000 in
theorem x170_821 (hi : am_in x (sv 2).1 = true) : AW sv 170 821 [.float 2, v1, v2, v3] (.int x :: .float 2 :: r) h 90 1596 Q = AW sv 170 822 [.float 2, v1, v2, v3] (.int ((sv 2).2 x.toNatClampNeg) :: r) h 90 1596 Q := e_ialx am_h170 dL_law_821 hi
set_option maxHeartbeats 20000 in
theorem x170_822 : AW sv 170 822 [.float 2, v1, v2, v3] r h 90 1596 Q = AW sv 170 823 [.float 2, v1, v2, v3] (.float 2 :: r) h 90 1596 Q := e_pv am_h170 dL_law_822 rfl rfl rfl rfl
set_option maxHeartbeats 20000 in
theorem x170_823 : AW sv 170 823 [.float 2, v1, v2, .int x] r h 90 1596 Q = AW sv 170 824 [.float 2, v1, v2, .int x] (.int x :: r) h 90 1596 Q := e_pv am_h170 dL_law_823 rfl rfl rfl rfl
set_option maxHeartbeats 20000 in
theorem x170_824 : AW sv 170 824 [.float 2, v1, v2, v3] r h 90 1596 Q = AW sv 170 825 [.float 2, v1, v2, v3] (.int (2) :: r) h 90 1596 Q := e_iconstv am_h170 dL_law_824 c_iconst_2
set_option maxHeartbeats 20000 in
theorem x170_825 : AW sv 170 825 [.float 2, v1, v2, v3] (.int y :: .int x :: r) h 90 1596 Q = AW sv 170 826 [.float 2, v1, v2, v3] (.int (x + y) :: r) h 90 1596 Q := e_iadd am_h170 dL_law_825
set_option maxHeartbeats 20000 in
theorem x170_826 (hi : am_in x (sv 2).1 = true) : AW sv 170 826 [.float 2, v1, v2, v3] (.int x :: .float 2 :: r) h 90 1596 Q = AW sv 170 827 [.float 2, v1, v2, v3] (.int ((sv 2).2 x.toNatClampNeg) :: r) h 90 1596 Q := e_ialx am_h170 dL_law_826 hi
set_option maxHeartbeats 20000 in
theorem x170_827 : AW sv 170 827 [.float 2, v1, v2, v3] r h 90 1596 Q = AW sv 170 828 [.float 2, v1, v2, v3] (.float 2 :: r) h 90 1596 Q := e_pv am_h170 dL_law_827 rfl rfl rfl rfl
set_option maxHeartbeats 20000 in
theorem x170_828 : AW sv 170 828 [.float 2, v1, v2, .int x] r h 90 1596 Q = AW sv 170 829 [.float 2, v1, v2, .int x] (.int x :: r) h 90 1596 Q := e_pv am_h170 dL_law_828 rfl rfl rfl rfl
set_option maxHeartbeats 20000 in
theorem x170_829 : AW sv 170 829 [.float 2, v1, v2, v3] r h 90 1596 Q = AW sv 170 830 [.float 2, v1, v2, v3] (.int (3) :: r) h 90 1596 Q := e_iconstv am_h170 dL_law_829 c_iconst_3
set_option maxHeartbeats 20000 in
theorem x170_830 : AW sv 170 830 [.float 2, v1, v2, v3] (.int y :: .int x :: r) h 90 1596 Q = AW sv 170 831 [.float 2, v1, v2, v3] (.int (x + y) :: r) h 90 1596 Q := e_iadd am_h170 dL_law_830
set_option maxHeartbeats 20000 in
theorem x170_831 (hi : am_in x (sv 2).1 = true) : AW sv 170 831 [.float 2, v1, v2, v3] (.int x :: .float 2 :: r) h 90 1596 Q = AW sv 170 832 [.float 2, v1, v2, v3] (.int ((sv 2).2 x.toNatClampNeg) :: r) h 90 1596 Q := e_ialx am_h170 dL_law_831 hi
set_option maxHeartbeats 20000 in
theorem x170_832 : AW sv 170 832 [.float 2, v1, v2, v3] r h 90 1596 Q = AW sv 170 833 [.float 2, v1, v2, v3] (.float 2 :: r) h 90 1596 Q := e_pv am_h170 dL_law_832 rfl rfl rfl rfl
set_option maxHeartbeats 20000 in
theorem x170_833 : AW sv 170 833 [.float 2, v1, v2, .int x] r h 90 1596 Q = AW sv 170 834 [.float 2, v1, v2, .int x] (.int x :: r) h 90 1596 Q := e_pv am_h170 dL_law_833 rfl rfl rfl rfl
set_option maxHeartbeats 20000 in
theorem x170_834 : AW sv 170 834 [.float 2, v1, v2, v3] r h 90 1596 Q = AW sv 170 835 [.float 2, v1, v2, v3] (.int (4) :: r) h 90 1596 Q := e_iconstv am_h170 dL_law_834 c_iconst_4
set_option maxHeartbeats 20000 in
theorem x170_835 : AW sv 170 835 [.float 2, v1, v2, v3] (.int y :: .int x :: r) h 90 1596 Q = AW sv 170 836 [.float 2, v1, v2, v3] (.int (x + y) :: r) h 90 1596 Q := e_iadd am_h170 dL_law_835
set_option maxHeartbeats 20000 in
theorem x170_836 (hi : am_in x (sv 2).1 = true) : AW sv 170 836 [.float 2, v1, v2, v3] (.int x :: .float 2 :: r) h 90 1596 Q = AW sv 170 837 [.float 2, v1, v2, v3] (.int ((sv 2).2 x.toNatClampNeg) :: r) h 90 1596 Q := e_ialx am_h170 dL_law_836 hi
set_option maxHeartbeats 20000 in
theorem x170_837 (h8 : am_cs r ≤ 8) : AW sv 170 837 [.float 2, v1, v2, v3] (.int x3 :: .int x2 :: .int x1 :: .int x0 :: .ref 0 :: r) (am_toH σ) 90 1596 Q = AM sv 79 [.ref 0, .int x0, .int x1, .int x2, .int x3] (am_toH σ) (fun v h1 => AW sv 170 840 [.float 2, v1, v2, v3] (v.toList ++ r) h1 90 1596 Q) := e_cV (as := [.int x0, .int x1, .int x2, .int x3]) am_h170 dL_law_837 ml_10_93 (by decide) am_h79 rfl is8 rfl rfl ⟨by decide, Nat.le_of_ble_eq_true rfl, am_rcL (by decide) h8⟩
set_option maxHeartbeats 20000 in
theorem x170_840 : AW sv 170 840 [.float 2, v1, .ref a, v3] r h 90 1596 Q = AW sv 170 841 [.float 2, v1, .ref a, v3] (.ref a :: r) h 90 1596 Q := e_pv am_h170 dL_law_840 rfl rfl rfl rfl
set_option maxHeartbeats 20000 in
theorem x170_841 : AW sv 170 841 [.float 2, v1, v2, v3] r h 90 1596 Q = AW sv 170 842 [.float 2, v1, v2, v3] (.float 2 :: r) h 90 1596 Q := e_pv am_h170 dL_law_841 rfl rfl rfl rfl
set_option maxHeartbeats 20000 in
theorem x170_842 : AW sv 170 842 [.float 2, v1, v2, .int x] r h 90 1596 Q = AW sv 170 843 [.float 2, v1, v2, .int x] (.int x :: r) h 90 1596 Q := e_pv am_h170 dL_law_842 rfl rfl rfl rfl
set_option maxHeartbeats 20000 in
theorem x170_843 : AW sv 170 843 [.float 2, v1, v2, v3] r h 90 1596 Q = AW sv 170 844 [.float 2, v1, v2, v3] (.int (1) :: r) h 90 1596 Q := e_iconstv am_h170 dL_law_843 c_iconst_1
set_option maxHeartbeats 20000 in
theorem x170_844 : AW sv 170 844 [.float 2, v1, v2, v3] (.int y :: .int x :: r) h 90 1596 Q = AW sv 170 845 [.float 2, v1, v2, v3] (.int (x + y) :: r) h 90 1596 Q := e_iadd am_h170 dL_law_844
set_option maxHeartbeats 20000 in
theorem x170_845 (hi : am_in x (sv 2).1 = true) : AW sv 170 845 [.float 2, v1, v2, v3] (.int x :: .float 2 :: r) h 90 1596 Q = AW sv 170 846 [.float 2, v1, v2, v3] (.int ((sv 2).2 x.toNatClampNeg) :: r) h 90 1596 Q := e_ialx am_h170 dL_law_845 hi
set_option maxHeartbeats 20000 in
theorem x170_846 : AW sv 170 846 [.float 2, v1, v2, v3] r h 90 1596 Q = AW sv 170 847 [.float 2, v1, v2, v3] (.float 2 :: r) h 90 1596 Q := e_pv am_h170 dL_law_846 rfl rfl rfl rfl
set_option maxHeartbeats 20000 in
theorem x170_847 : AW sv 170 847 [.float 2, v1, v2, .int x] r h 90 1596 Q = AW sv 170 848 [.float 2, v1, v2, .int x] (.int x :: r) h 90 1596 Q := e_pv am_h170 dL_law_847 rfl rfl rfl rfl
set_option maxHeartbeats 20000 in
theorem x170_848 : AW sv 170 848 [.float 2, v1, v2, v3] r h 90 1596 Q = AW sv 170 849 [.float 2, v1, v2, v3] (.int (2) :: r) h 90 1596 Q := e_iconstv am_h170 dL_law_848 c_iconst_2
set_option maxHeartbeats 20000 in
theorem x170_849 : AW sv 170 849 [.float 2, v1, v2, v3] (.int y :: .int x :: r) h 90 1596 Q = AW sv 170 850 [.float 2, v1, v2, v3] (.int (x + y) :: r) h 90 1596 Q := e_iadd am_h170 dL_law_849
set_option maxHeartbeats 20000 in
theorem x170_850 (hi : am_in x (sv 2).1 = true) : AW sv 170 850 [.float 2, v1, v2, v3] (.int x :: .float 2 :: r) h 90 1596 Q = AW sv 170 851 [.float 2, v1, v2, v3] (.int ((sv 2).2 x.toNatClampNeg) :: r) h 90 1596 Q := e_ialx am_h170 dL_law_850 hi
set_option maxHeartbeats 20000 in
theorem x170_851 : AW sv 170 851 [.float 2, v1, v2, v3] r h 90 1596 Q = AW sv 170 852 [.float 2, v1, v2, v3] (.float 2 :: r) h 90 1596 Q := e_pv am_h170 dL_law_851 rfl rfl rfl rfl
set_option maxHeartbeats 20000 in
theorem x170_852 : AW sv 170 852 [.float 2, v1, v2, .int x] r h 90 1596 Q = AW sv 170 853 [.float 2, v1, v2, .int x] (.int x :: r) h 90 1596 Q := e_pv am_h170 dL_law_852 rfl rfl rfl rfl
set_option maxHeartbeats 20000 in
theorem x170_853 : AW sv 170 853 [.float 2, v1, v2, v3] r h 90 1596 Q = AW sv 170 854 [.float 2, v1, v2, v3] (.int (3) :: r) h 90 1596 Q := e_iconstv am_h170 dL_law_853 c_iconst_3
set_option maxHeartbeats 20000 in
theorem x170_854 : AW sv 170 854 [.float 2, v1, v2, v3] (.int y :: .int x :: r) h 90 1596 Q = AW sv 170 855 [.float 2, v1, v2, v3] (.int (x + y) :: r) h 90 1596 Q := e_iadd am_h170 dL_law_854
set_option maxHeartbeats 20000 in
theorem x170_855 (hi : am_in x (sv 2).1 = true) : AW sv 170 855 [.float 2, v1, v2, v3] (.int x :: .float 2 :: r) h 90 1596 Q = AW sv 170 856 [.float 2, v1, v2, v3] (.int ((sv 2).2 x.toNatClampNeg) :: r) h 90 1596 Q := e_ialx am_h170 dL_law_855 hi
set_option maxHeartbeats 20000 in
theorem x170_856 : AW sv 170 856 [.float 2, v1, v2, v3] r h 90 1596 Q = AW sv 170 857 [.float 2, v1, v2, v3] (.float 2 :: r) h 90 1596 Q := e_pv am_h170 dL_law_856 rfl rfl rfl rfl
set_option maxHeartbeats 20000 in
theorem x170_857 : AW sv 170 857 [.float 2, v1, v2, .int x] r h 90 1596 Q = AW sv 170 858 [.float 2, v1, v2, .int x] (.int x :: r) h 90 1596 Q := e_pv am_h170 dL_law_857 rfl rfl rfl rfl
set_option maxHeartbeats 20000 in
theorem x170_858 : AW sv 170 858 [.float 2, v1, v2, v3] r h 90 1596 Q = AW sv 170 859 [.float 2, v1, v2, v3] (.int (4) :: r) h 90 1596 Q := e_iconstv am_h170 dL_law_858 c_iconst_4
set_option maxHeartbeats 20000 in
theorem x170_859 : AW sv 170 859 [.float 2, v1, v2, v3] (.int y :: .int x :: r) h 90 1596 Q = AW sv 170 860 [.float 2, v1, v2, v3] (.int (x + y) :: r) h 90 1596 Q := e_iadd am_h170 dL_law_859
set_option maxHeartbeats 20000 in
theorem x170_860 (hi : am_in x (sv 2).1 = true) : AW sv 170 860 [.float 2, v1, v2, v3] (.int x :: .float 2 :: r) h 90 1596 Q = AW sv 170 861 [.float 2, v1, v2, v3] (.int ((sv 2).2 x.toNatClampNeg) :: r) h 90 1596 Q := e_ialx am_h170 dL_law_860 hi
set_option maxHeartbeats 20000 in
theorem x170_861 (h8 : am_cs r ≤ 8) : AW sv 170 861 [.float 2, v1, v2, v3] (.int x3 :: .int x2 :: .int x1 :: .int x0 :: .ref 71 :: r) (am_toH σ) 90 1596 Q = AM sv 143 [.ref 71, .int x0, .int x1, .int x2, .int x3] (am_toH σ) (fun v h1 => AW sv 170 864 [.float 2, v1, v2, v3] (v.toList ++ r) h1 90 1596 Q) := e_cV (as := [.int x0, .int x1, .int x2, .int x3]) am_h170 dL_law_861 ml_10_96 (by decide) am_h143 rfl is9 rfl rfl ⟨by decide, Nat.le_of_ble_eq_true rfl, am_rcL (by decide) h8⟩
set_option maxHeartbeats 20000 in
theorem x170_864 : AW sv 170 864 [.float 2, v1, v2, v3] (.int y :: .int x :: r) h 90 1596 Q = if x = y then AW sv 170 1400 [.float 2, v1, v2, v3] r h 90 1596 Q else AW sv 170 867 [.float 2, v1, v2, v3] r h 90 1596 Q := e_c_eq am_h170 dL_law_864 rfl
set_option maxHeartbeats 20000 in
theorem x170_867 : AW sv 170 867 [.float 2, v1, v2, v3] r h 90 1596 Q = AW sv 170 868 [.float 2, v1, v2, v3] (.int (0) :: r) h 90 1596 Q := e_iconstv am_h170 dL_law_867 c_iconst_0
set_option maxHeartbeats 20000 in
theorem x170_868 (hz : x = 0 ∨ x = 1) : AW sv 170 868 [.float 2, v1, v2, v3] [.int x] h 90 1596 Q = Q (some (.int x)) h := e_zret am_h170 dL_law_868 rfl ⟨rfl, rfl⟩ hz
set_option maxHeartbeats 20000 in
theorem x170_869 : AW sv 170 869 [.float 2, .ref a, v2, v3] r h 90 1596 Q = AW sv 170 870 [.float 2, .ref a, v2, v3] (.ref a :: r) h 90 1596 Q := e_pv am_h170 dL_law_869 rfl rfl rfl rfl
set_option maxHeartbeats 20000 in
theorem x170_870 : AW sv 170 870 [.float 2, v1, v2, v3] r h 90 1596 Q = AW sv 170 871 [.float 2, v1, v2, v3] (.float 2 :: r) h 90 1596 Q := e_pv am_h170 dL_law_870 rfl rfl rfl rfl
set_option maxHeartbeats 20000 in
theorem x170_871 : AW sv 170 871 [.float 2, v1, v2, .int x] r h 90 1596 Q = AW sv 170 872 [.float 2, v1, v2, .int x] (.int x :: r) h 90 1596 Q := e_pv am_h170 dL_law_871 rfl rfl rfl rfl
set_option maxHeartbeats 20000 in
theorem x170_872 : AW sv 170 872 [.float 2, v1, v2, v3] r h 90 1596 Q = AW sv 170 873 [.float 2, v1, v2, v3] (.int (1) :: r) h 90 1596 Q := e_iconstv am_h170 dL_law_872 c_iconst_1
set_option maxHeartbeats 20000 in
theorem x170_873 : AW sv 170 873 [.float 2, v1, v2, v3] (.int y :: .int x :: r) h 90 1596 Q = AW sv 170 874 [.float 2, v1, v2, v3] (.int (x + y) :: r) h 90 1596 Q := e_iadd am_h170 dL_law_873
set_option maxHeartbeats 20000 in
theorem x170_874 (hi : am_in x (sv 2).1 = true) : AW sv 170 874 [.float 2, v1, v2, v3] (.int x :: .float 2 :: r) h 90 1596 Q = AW sv 170 875 [.float 2, v1, v2, v3] (.int ((sv 2).2 x.toNatClampNeg) :: r) h 90 1596 Q := e_ialx am_h170 dL_law_874 hi
set_option maxHeartbeats 20000 in
theorem x170_875 : AW sv 170 875 [.float 2, v1, v2, v3] r h 90 1596 Q = AW sv 170 876 [.float 2, v1, v2, v3] (.float 2 :: r) h 90 1596 Q := e_pv am_h170 dL_law_875 rfl rfl rfl rfl
set_option maxHeartbeats 20000 in
theorem x170_876 : AW sv 170 876 [.float 2, v1, v2, .int x] r h 90 1596 Q = AW sv 170 877 [.float 2, v1, v2, .int x] (.int x :: r) h 90 1596 Q := e_pv am_h170 dL_law_876 rfl rfl rfl rfl
set_option maxHeartbeats 20000 in
theorem x170_877 : AW sv 170 877 [.float 2, v1, v2, v3] r h 90 1596 Q = AW sv 170 878 [.float 2, v1, v2, v3] (.int (2) :: r) h 90 1596 Q := e_iconstv am_h170 dL_law_877 c_iconst_2
set_option maxHeartbeats 20000 in
theorem x170_878 : AW sv 170 878 [.float 2, v1, v2, v3] (.int y :: .int x :: r) h 90 1596 Q = AW sv 170 879 [.float 2, v1, v2, v3] (.int (x + y) :: r) h 90 1596 Q := e_iadd am_h170 dL_law_878
set_option maxHeartbeats 20000 in
theorem x170_879 (hi : am_in x (sv 2).1 = true) : AW sv 170 879 [.float 2, v1, v2, v3] (.int x :: .float 2 :: r) h 90 1596 Q = AW sv 170 880 [.float 2, v1, v2, v3] (.int ((sv 2).2 x.toNatClampNeg) :: r) h 90 1596 Q := e_ialx am_h170 dL_law_879 hi
set_option maxHeartbeats 20000 in
theorem x170_880 (h8 : am_cs r ≤ 8) : AW sv 170 880 [.float 2, v1, v2, v3] (.int x1 :: .int x0 :: .ref 0 :: r) (am_toH σ) 90 1596 Q = AM sv 80 [.ref 0, .int x0, .int x1] (am_toH σ) (fun v h1 => AW sv 170 883 [.float 2, v1, v2, v3] (v.toList ++ r) h1 90 1596 Q) := e_cV (as := [.int x0, .int x1]) am_h170 dL_law_880 ml_10_97 (by decide) am_h80 rfl is8 rfl rfl ⟨by decide, Nat.le_of_ble_eq_true rfl, am_rcL (by decide) h8⟩
set_option maxHeartbeats 20000 in
theorem x170_883 : AW sv 170 883 [.float 2, v1, .ref a, v3] r h 90 1596 Q = AW sv 170 884 [.float 2, v1, .ref a, v3] (.ref a :: r) h 90 1596 Q := e_pv am_h170 dL_law_883 rfl rfl rfl rfl
set_option maxHeartbeats 20000 in
theorem x170_884 : AW sv 170 884 [.float 2, v1, v2, v3] r h 90 1596 Q = AW sv 170 885 [.float 2, v1, v2, v3] (.float 2 :: r) h 90 1596 Q := e_pv am_h170 dL_law_884 rfl rfl rfl rfl
set_option maxHeartbeats 20000 in
theorem x170_885 : AW sv 170 885 [.float 2, v1, v2, .int x] r h 90 1596 Q = AW sv 170 886 [.float 2, v1, v2, .int x] (.int x :: r) h 90 1596 Q := e_pv am_h170 dL_law_885 rfl rfl rfl rfl
set_option maxHeartbeats 20000 in
theorem x170_886 : AW sv 170 886 [.float 2, v1, v2, v3] r h 90 1596 Q = AW sv 170 887 [.float 2, v1, v2, v3] (.int (1) :: r) h 90 1596 Q := e_iconstv am_h170 dL_law_886 c_iconst_1
set_option maxHeartbeats 20000 in
theorem x170_887 : AW sv 170 887 [.float 2, v1, v2, v3] (.int y :: .int x :: r) h 90 1596 Q = AW sv 170 888 [.float 2, v1, v2, v3] (.int (x + y) :: r) h 90 1596 Q := e_iadd am_h170 dL_law_887
set_option maxHeartbeats 20000 in
theorem x170_888 (hi : am_in x (sv 2).1 = true) : AW sv 170 888 [.float 2, v1, v2, v3] (.int x :: .float 2 :: r) h 90 1596 Q = AW sv 170 889 [.float 2, v1, v2, v3] (.int ((sv 2).2 x.toNatClampNeg) :: r) h 90 1596 Q := e_ialx am_h170 dL_law_888 hi
set_option maxHeartbeats 20000 in
theorem x170_889 : AW sv 170 889 [.float 2, v1, v2, v3] r h 90 1596 Q = AW sv 170 890 [.float 2, v1, v2, v3] (.float 2 :: r) h 90 1596 Q := e_pv am_h170 dL_law_889 rfl rfl rfl rfl
set_option maxHeartbeats 20000 in
theorem x170_890 : AW sv 170 890 [.float 2, v1, v2, .int x] r h 90 1596 Q = AW sv 170 891 [.float 2, v1, v2, .int x] (.int x :: r) h 90 1596 Q := e_pv am_h170 dL_law_890 rfl rfl rfl rfl
set_option maxHeartbeats 20000 in
theorem x170_891 : AW sv 170 891 [.float 2, v1, v2, v3] r h 90 1596 Q = AW sv 170 892 [.float 2, v1, v2, v3] (.int (2) :: r) h 90 1596 Q := e_iconstv am_h170 dL_law_891 c_iconst_2
set_option maxHeartbeats 20000 in
theorem x170_892 : AW sv 170 892 [.float 2, v1, v2, v3] (.int y :: .int x :: r) h 90 1596 Q = AW sv 170 893 [.float 2, v1, v2, v3] (.int (x + y) :: r) h 90 1596 Q := e_iadd am_h170 dL_law_892
set_option maxHeartbeats 20000 in
theorem x170_893 (hi : am_in x (sv 2).1 = true) : AW sv 170 893 [.float 2, v1, v2, v3] (.int x :: .float 2 :: r) h 90 1596 Q = AW sv 170 894 [.float 2, v1, v2, v3] (.int ((sv 2).2 x.toNatClampNeg) :: r) h 90 1596 Q := e_ialx am_h170 dL_law_893 hi
set_option maxHeartbeats 20000 in
theorem x170_894 (h8 : am_cs r ≤ 8) : AW sv 170 894 [.float 2, v1, v2, v3] (.int x1 :: .int x0 :: .ref 71 :: r) (am_toH σ) 90 1596 Q = AM sv 145 [.ref 71, .int x0, .int x1] (am_toH σ) (fun v h1 => AW sv 170 897 [.float 2, v1, v2, v3] (v.toList ++ r) h1 90 1596 Q) := e_cV (as := [.int x0, .int x1]) am_h170 dL_law_894 ml_10_100 (by decide) am_h145 rfl is9 rfl rfl ⟨by decide, Nat.le_of_ble_eq_true rfl, am_rcL (by decide) h8⟩
set_option maxHeartbeats 20000 in
theorem x170_897 : AW sv 170 897 [.float 2, v1, v2, v3] (.int y :: .int x :: r) h 90 1596 Q = if x = y then AW sv 170 1400 [.float 2, v1, v2, v3] r h 90 1596 Q else AW sv 170 900 [.float 2, v1, v2, v3] r h 90 1596 Q := e_c_eq am_h170 dL_law_897 rfl
set_option maxHeartbeats 20000 in
theorem x170_900 : AW sv 170 900 [.float 2, v1, v2, v3] r h 90 1596 Q = AW sv 170 901 [.float 2, v1, v2, v3] (.int (0) :: r) h 90 1596 Q := e_iconstv am_h170 dL_law_900 c_iconst_0
set_option maxHeartbeats 20000 in
theorem x170_901 (hz : x = 0 ∨ x = 1) : AW sv 170 901 [.float 2, v1, v2, v3] [.int x] h 90 1596 Q = Q (some (.int x)) h := e_zret am_h170 dL_law_901 rfl ⟨rfl, rfl⟩ hz
set_option maxHeartbeats 20000 in
theorem x170_902 : AW sv 170 902 [.float 2, .ref a, v2, v3] r h 90 1596 Q = AW sv 170 903 [.float 2, .ref a, v2, v3] (.ref a :: r) h 90 1596 Q := e_pv am_h170 dL_law_902 rfl rfl rfl rfl
set_option maxHeartbeats 20000 in
theorem x170_903 : AW sv 170 903 [.float 2, v1, v2, v3] r h 90 1596 Q = AW sv 170 904 [.float 2, v1, v2, v3] (.float 2 :: r) h 90 1596 Q := e_pv am_h170 dL_law_903 rfl rfl rfl rfl
set_option maxHeartbeats 20000 in
theorem x170_904 : AW sv 170 904 [.float 2, v1, v2, .int x] r h 90 1596 Q = AW sv 170 905 [.float 2, v1, v2, .int x] (.int x :: r) h 90 1596 Q := e_pv am_h170 dL_law_904 rfl rfl rfl rfl
set_option maxHeartbeats 20000 in
theorem x170_905 : AW sv 170 905 [.float 2, v1, v2, v3] r h 90 1596 Q = AW sv 170 906 [.float 2, v1, v2, v3] (.int (1) :: r) h 90 1596 Q := e_iconstv am_h170 dL_law_905 c_iconst_1
set_option maxHeartbeats 20000 in
theorem x170_906 : AW sv 170 906 [.float 2, v1, v2, v3] (.int y :: .int x :: r) h 90 1596 Q = AW sv 170 907 [.float 2, v1, v2, v3] (.int (x + y) :: r) h 90 1596 Q := e_iadd am_h170 dL_law_906
set_option maxHeartbeats 20000 in
theorem x170_907 (hi : am_in x (sv 2).1 = true) : AW sv 170 907 [.float 2, v1, v2, v3] (.int x :: .float 2 :: r) h 90 1596 Q = AW sv 170 908 [.float 2, v1, v2, v3] (.int ((sv 2).2 x.toNatClampNeg) :: r) h 90 1596 Q := e_ialx am_h170 dL_law_907 hi
set_option maxHeartbeats 20000 in
theorem x170_908 : AW sv 170 908 [.float 2, v1, v2, v3] r h 90 1596 Q = AW sv 170 909 [.float 2, v1, v2, v3] (.float 2 :: r) h 90 1596 Q := e_pv am_h170 dL_law_908 rfl rfl rfl rfl
set_option maxHeartbeats 20000 in
theorem x170_909 : AW sv 170 909 [.float 2, v1, v2, .int x] r h 90 1596 Q = AW sv 170 910 [.float 2, v1, v2, .int x] (.int x :: r) h 90 1596 Q := e_pv am_h170 dL_law_909 rfl rfl rfl rfl
set_option maxHeartbeats 20000 in
theorem x170_910 : AW sv 170 910 [.float 2, v1, v2, v3] r h 90 1596 Q = AW sv 170 911 [.float 2, v1, v2, v3] (.int (2) :: r) h 90 1596 Q := e_iconstv am_h170 dL_law_910 c_iconst_2
set_option maxHeartbeats 20000 in
theorem x170_911 : AW sv 170 911 [.float 2, v1, v2, v3] (.int y :: .int x :: r) h 90 1596 Q = AW sv 170 912 [.float 2, v1, v2, v3] (.int (x + y) :: r) h 90 1596 Q := e_iadd am_h170 dL_law_911
set_option maxHeartbeats 20000 in
theorem x170_912 (hi : am_in x (sv 2).1 = true) : AW sv 170 912 [.float 2, v1, v2, v3] (.int x :: .float 2 :: r) h 90 1596 Q = AW sv 170 913 [.float 2, v1, v2, v3] (.int ((sv 2).2 x.toNatClampNeg) :: r) h 90 1596 Q := e_ialx am_h170 dL_law_912 hi
set_option maxHeartbeats 20000 in
theorem x170_913 (h8 : am_cs r ≤ 8) : AW sv 170 913 [.float 2, v1, v2, v3] (.int x1 :: .int x0 :: .ref 0 :: r) (am_toH σ) 90 1596 Q = AM sv 81 [.ref 0, .int x0, .int x1] (am_toH σ) (fun v h1 => AW sv 170 916 [.float 2, v1, v2, v3] (v.toList ++ r) h1 90 1596 Q) := e_cV (as := [.int x0, .int x1]) am_h170 dL_law_913 ml_10_101 (by decide) am_h81 rfl is8 rfl rfl ⟨by decide, Nat.le_of_ble_eq_true rfl, am_rcL (by decide) h8⟩
set_option maxHeartbeats 20000 in
theorem x170_916 : AW sv 170 916 [.float 2, v1, .ref a, v3] r h 90 1596 Q = AW sv 170 917 [.float 2, v1, .ref a, v3] (.ref a :: r) h 90 1596 Q := e_pv am_h170 dL_law_916 rfl rfl rfl rfl
set_option maxHeartbeats 20000 in
theorem x170_917 : AW sv 170 917 [.float 2, v1, v2, v3] r h 90 1596 Q = AW sv 170 918 [.float 2, v1, v2, v3] (.float 2 :: r) h 90 1596 Q := e_pv am_h170 dL_law_917 rfl rfl rfl rfl
set_option maxHeartbeats 20000 in
theorem x170_918 : AW sv 170 918 [.float 2, v1, v2, .int x] r h 90 1596 Q = AW sv 170 919 [.float 2, v1, v2, .int x] (.int x :: r) h 90 1596 Q := e_pv am_h170 dL_law_918 rfl rfl rfl rfl
set_option maxHeartbeats 20000 in
theorem x170_919 : AW sv 170 919 [.float 2, v1, v2, v3] r h 90 1596 Q = AW sv 170 920 [.float 2, v1, v2, v3] (.int (1) :: r) h 90 1596 Q := e_iconstv am_h170 dL_law_919 c_iconst_1
set_option maxHeartbeats 20000 in
theorem x170_920 : AW sv 170 920 [.float 2, v1, v2, v3] (.int y :: .int x :: r) h 90 1596 Q = AW sv 170 921 [.float 2, v1, v2, v3] (.int (x + y) :: r) h 90 1596 Q := e_iadd am_h170 dL_law_920
set_option maxHeartbeats 20000 in
theorem x170_921 (hi : am_in x (sv 2).1 = true) : AW sv 170 921 [.float 2, v1, v2, v3] (.int x :: .float 2 :: r) h 90 1596 Q = AW sv 170 922 [.float 2, v1, v2, v3] (.int ((sv 2).2 x.toNatClampNeg) :: r) h 90 1596 Q := e_ialx am_h170 dL_law_921 hi
set_option maxHeartbeats 20000 in
theorem x170_922 : AW sv 170 922 [.float 2, v1, v2, v3] r h 90 1596 Q = AW sv 170 923 [.float 2, v1, v2, v3] (.float 2 :: r) h 90 1596 Q := e_pv am_h170 dL_law_922 rfl rfl rfl rfl
set_option maxHeartbeats 20000 in
theorem x170_923 : AW sv 170 923 [.float 2, v1, v2, .int x] r h 90 1596 Q = AW sv 170 924 [.float 2, v1, v2, .int x] (.int x :: r) h 90 1596 Q := e_pv am_h170 dL_law_923 rfl rfl rfl rfl
set_option maxHeartbeats 20000 in
theorem x170_924 : AW sv 170 924 [.float 2, v1, v2, v3] r h 90 1596 Q = AW sv 170 925 [.float 2, v1, v2, v3] (.int (2) :: r) h 90 1596 Q := e_iconstv am_h170 dL_law_924 c_iconst_2
set_option maxHeartbeats 20000 in
theorem x170_925 : AW sv 170 925 [.float 2, v1, v2, v3] (.int y :: .int x :: r) h 90 1596 Q = AW sv 170 926 [.float 2, v1, v2, v3] (.int (x + y) :: r) h 90 1596 Q := e_iadd am_h170 dL_law_925
set_option maxHeartbeats 20000 in
theorem x170_926 (hi : am_in x (sv 2).1 = true) : AW sv 170 926 [.float 2, v1, v2, v3] (.int x :: .float 2 :: r) h 90 1596 Q = AW sv 170 927 [.float 2, v1, v2, v3] (.int ((sv 2).2 x.toNatClampNeg) :: r) h 90 1596 Q := e_ialx am_h170 dL_law_926 hi
set_option maxHeartbeats 20000 in
theorem x170_927 (h8 : am_cs r ≤ 8) : AW sv 170 927 [.float 2, v1, v2, v3] (.int x1 :: .int x0 :: .ref 71 :: r) (am_toH σ) 90 1596 Q = AM sv 146 [.ref 71, .int x0, .int x1] (am_toH σ) (fun v h1 => AW sv 170 930 [.float 2, v1, v2, v3] (v.toList ++ r) h1 90 1596 Q) := e_cV (as := [.int x0, .int x1]) am_h170 dL_law_927 ml_10_104 (by decide) am_h146 rfl is9 rfl rfl ⟨by decide, Nat.le_of_ble_eq_true rfl, am_rcL (by decide) h8⟩
set_option maxHeartbeats 20000 in
theorem x170_930 : AW sv 170 930 [.float 2, v1, v2, v3] (.int y :: .int x :: r) h 90 1596 Q = if x = y then AW sv 170 1400 [.float 2, v1, v2, v3] r h 90 1596 Q else AW sv 170 933 [.float 2, v1, v2, v3] r h 90 1596 Q := e_c_eq am_h170 dL_law_930 rfl
set_option maxHeartbeats 20000 in
theorem x170_933 : AW sv 170 933 [.float 2, v1, v2, v3] r h 90 1596 Q = AW sv 170 934 [.float 2, v1, v2, v3] (.int (0) :: r) h 90 1596 Q := e_iconstv am_h170 dL_law_933 c_iconst_0
set_option maxHeartbeats 20000 in
theorem x170_934 (hz : x = 0 ∨ x = 1) : AW sv 170 934 [.float 2, v1, v2, v3] [.int x] h 90 1596 Q = Q (some (.int x)) h := e_zret am_h170 dL_law_934 rfl ⟨rfl, rfl⟩ hz
set_option maxHeartbeats 20000 in
theorem x170_935 : AW sv 170 935 [.float 2, .ref a, v2, v3] r h 90 1596 Q = AW sv 170 936 [.float 2, .ref a, v2, v3] (.ref a :: r) h 90 1596 Q := e_pv am_h170 dL_law_935 rfl rfl rfl rfl
set_option maxHeartbeats 20000 in
theorem x170_936 (h8 : am_cs r ≤ 8) : AW sv 170 936 [.float 2, v1, v2, v3] (.ref 0 :: r) (am_toH σ) 90 1596 Q = AM sv 82 [.ref 0] (am_toH σ) (fun v h1 => AW sv 170 939 [.float 2, v1, v2, v3] (v.toList ++ r) h1 90 1596 Q) := e_cV (as := []) am_h170 dL_law_936 ml_10_105 (by decide) am_h82 rfl is8 rfl rfl ⟨by decide, Nat.le_of_ble_eq_true rfl, am_rcL (by decide) h8⟩
set_option maxHeartbeats 20000 in
theorem x170_939 : AW sv 170 939 [.float 2, v1, .ref a, v3] r h 90 1596 Q = AW sv 170 940 [.float 2, v1, .ref a, v3] (.ref a :: r) h 90 1596 Q := e_pv am_h170 dL_law_939 rfl rfl rfl rfl
set_option maxHeartbeats 20000 in
theorem x170_940 (h8 : am_cs r ≤ 8) : AW sv 170 940 [.float 2, v1, v2, v3] (.ref 71 :: r) (am_toH σ) 90 1596 Q = AM sv 147 [.ref 71] (am_toH σ) (fun v h1 => AW sv 170 943 [.float 2, v1, v2, v3] (v.toList ++ r) h1 90 1596 Q) := e_cV (as := []) am_h170 dL_law_940 ml_10_108 (by decide) am_h147 rfl is9 rfl rfl ⟨by decide, Nat.le_of_ble_eq_true rfl, am_rcL (by decide) h8⟩
set_option maxHeartbeats 20000 in
theorem x170_943 : AW sv 170 943 [.float 2, v1, v2, v3] (.int y :: .int x :: r) h 90 1596 Q = if x = y then AW sv 170 1400 [.float 2, v1, v2, v3] r h 90 1596 Q else AW sv 170 946 [.float 2, v1, v2, v3] r h 90 1596 Q := e_c_eq am_h170 dL_law_943 rfl
set_option maxHeartbeats 20000 in
theorem x170_946 : AW sv 170 946 [.float 2, v1, v2, v3] r h 90 1596 Q = AW sv 170 947 [.float 2, v1, v2, v3] (.int (0) :: r) h 90 1596 Q := e_iconstv am_h170 dL_law_946 c_iconst_0
set_option maxHeartbeats 20000 in
theorem x170_947 (hz : x = 0 ∨ x = 1) : AW sv 170 947 [.float 2, v1, v2, v3] [.int x] h 90 1596 Q = Q (some (.int x)) h := e_zret am_h170 dL_law_947 rfl ⟨rfl, rfl⟩ hz
set_option maxHeartbeats 20000 in
theorem x170_948 : AW sv 170 948 [.float 2, .ref a, v2, v3] r h 90 1596 Q = AW sv 170 949 [.float 2, .ref a, v2, v3] (.ref a :: r) h 90 1596 Q := e_pv am_h170 dL_law_948 rfl rfl rfl rfl
set_option maxHeartbeats 20000 in
theorem x170_949 : AW sv 170 949 [.float 2, v1, v2, v3] r h 90 1596 Q = AW sv 170 950 [.float 2, v1, v2, v3] (.float 2 :: r) h 90 1596 Q := e_pv am_h170 dL_law_949 rfl rfl rfl rfl
set_option maxHeartbeats 20000 in
theorem x170_950 : AW sv 170 950 [.float 2, v1, v2, .int x] r h 90 1596 Q = AW sv 170 951 [.float 2, v1, v2, .int x] (.int x :: r) h 90 1596 Q := e_pv am_h170 dL_law_950 rfl rfl rfl rfl
set_option maxHeartbeats 20000 in
theorem x170_951 : AW sv 170 951 [.float 2, v1, v2, v3] r h 90 1596 Q = AW sv 170 952 [.float 2, v1, v2, v3] (.int (1) :: r) h 90 1596 Q := e_iconstv am_h170 dL_law_951 c_iconst_1
set_option maxHeartbeats 20000 in
theorem x170_952 : AW sv 170 952 [.float 2, v1, v2, v3] (.int y :: .int x :: r) h 90 1596 Q = AW sv 170 953 [.float 2, v1, v2, v3] (.int (x + y) :: r) h 90 1596 Q := e_iadd am_h170 dL_law_952
set_option maxHeartbeats 20000 in
theorem x170_953 (hi : am_in x (sv 2).1 = true) : AW sv 170 953 [.float 2, v1, v2, v3] (.int x :: .float 2 :: r) h 90 1596 Q = AW sv 170 954 [.float 2, v1, v2, v3] (.int ((sv 2).2 x.toNatClampNeg) :: r) h 90 1596 Q := e_ialx am_h170 dL_law_953 hi
set_option maxHeartbeats 20000 in
theorem x170_954 (h8 : am_cs r ≤ 8) : AW sv 170 954 [.float 2, v1, v2, v3] (.int x0 :: .ref 0 :: r) (am_toH σ) 90 1596 Q = AM sv 83 [.ref 0, .int x0] (am_toH σ) (fun v h1 => AW sv 170 957 [.float 2, v1, v2, v3] (v.toList ++ r) h1 90 1596 Q) := e_cV (as := [.int x0]) am_h170 dL_law_954 ml_10_109 (by decide) am_h83 rfl is8 rfl rfl ⟨by decide, Nat.le_of_ble_eq_true rfl, am_rcL (by decide) h8⟩
set_option maxHeartbeats 20000 in
theorem x170_957 : AW sv 170 957 [.float 2, v1, .ref a, v3] r h 90 1596 Q = AW sv 170 958 [.float 2, v1, .ref a, v3] (.ref a :: r) h 90 1596 Q := e_pv am_h170 dL_law_957 rfl rfl rfl rfl
set_option maxHeartbeats 20000 in
theorem x170_958 : AW sv 170 958 [.float 2, v1, v2, v3] r h 90 1596 Q = AW sv 170 959 [.float 2, v1, v2, v3] (.float 2 :: r) h 90 1596 Q := e_pv am_h170 dL_law_958 rfl rfl rfl rfl
set_option maxHeartbeats 20000 in
theorem x170_959 : AW sv 170 959 [.float 2, v1, v2, .int x] r h 90 1596 Q = AW sv 170 960 [.float 2, v1, v2, .int x] (.int x :: r) h 90 1596 Q := e_pv am_h170 dL_law_959 rfl rfl rfl rfl
set_option maxHeartbeats 20000 in
theorem x170_960 : AW sv 170 960 [.float 2, v1, v2, v3] r h 90 1596 Q = AW sv 170 961 [.float 2, v1, v2, v3] (.int (1) :: r) h 90 1596 Q := e_iconstv am_h170 dL_law_960 c_iconst_1
set_option maxHeartbeats 20000 in
theorem x170_961 : AW sv 170 961 [.float 2, v1, v2, v3] (.int y :: .int x :: r) h 90 1596 Q = AW sv 170 962 [.float 2, v1, v2, v3] (.int (x + y) :: r) h 90 1596 Q := e_iadd am_h170 dL_law_961
set_option maxHeartbeats 20000 in
theorem x170_962 (hi : am_in x (sv 2).1 = true) : AW sv 170 962 [.float 2, v1, v2, v3] (.int x :: .float 2 :: r) h 90 1596 Q = AW sv 170 963 [.float 2, v1, v2, v3] (.int ((sv 2).2 x.toNatClampNeg) :: r) h 90 1596 Q := e_ialx am_h170 dL_law_962 hi
set_option maxHeartbeats 20000 in
theorem x170_963 (h8 : am_cs r ≤ 8) : AW sv 170 963 [.float 2, v1, v2, v3] (.int x0 :: .ref 71 :: r) (am_toH σ) 90 1596 Q = AM sv 148 [.ref 71, .int x0] (am_toH σ) (fun v h1 => AW sv 170 966 [.float 2, v1, v2, v3] (v.toList ++ r) h1 90 1596 Q) := e_cV (as := [.int x0]) am_h170 dL_law_963 ml_10_112 (by decide) am_h148 rfl is9 rfl rfl ⟨by decide, Nat.le_of_ble_eq_true rfl, am_rcL (by decide) h8⟩
set_option maxHeartbeats 20000 in
theorem x170_966 : AW sv 170 966 [.float 2, v1, v2, v3] (.int y :: .int x :: r) h 90 1596 Q = if x = y then AW sv 170 1400 [.float 2, v1, v2, v3] r h 90 1596 Q else AW sv 170 969 [.float 2, v1, v2, v3] r h 90 1596 Q := e_c_eq am_h170 dL_law_966 rfl
set_option maxHeartbeats 20000 in
theorem x170_969 : AW sv 170 969 [.float 2, v1, v2, v3] r h 90 1596 Q = AW sv 170 970 [.float 2, v1, v2, v3] (.int (0) :: r) h 90 1596 Q := e_iconstv am_h170 dL_law_969 c_iconst_0
set_option maxHeartbeats 20000 in
theorem x170_970 (hz : x = 0 ∨ x = 1) : AW sv 170 970 [.float 2, v1, v2, v3] [.int x] h 90 1596 Q = Q (some (.int x)) h := e_zret am_h170 dL_law_970 rfl ⟨rfl, rfl⟩ hz
set_option maxHeartbeats 20000 in
theorem x170_971 : AW sv 170 971 [.float 2, .ref a, v2, v3] r h 90 1596 Q = AW sv 170 972 [.float 2, .ref a, v2, v3] (.ref a :: r) h 90 1596 Q := e_pv am_h170 dL_law_971 rfl rfl rfl rfl
set_option maxHeartbeats 20000 in
theorem x170_972 (h8 : am_cs r ≤ 8) : AW sv 170 972 [.float 2, v1, v2, v3] (.ref 0 :: r) (am_toH σ) 90 1596 Q = AM sv 84 [.ref 0] (am_toH σ) (fun v h1 => AW sv 170 975 [.float 2, v1, v2, v3] (v.toList ++ r) h1 90 1596 Q) := e_cV (as := []) am_h170 dL_law_972 ml_10_113 (by decide) am_h84 rfl is8 rfl rfl ⟨by decide, Nat.le_of_ble_eq_true rfl, am_rcL (by decide) h8⟩
set_option maxHeartbeats 20000 in
theorem x170_975 : AW sv 170 975 [.float 2, v1, .ref a, v3] r h 90 1596 Q = AW sv 170 976 [.float 2, v1, .ref a, v3] (.ref a :: r) h 90 1596 Q := e_pv am_h170 dL_law_975 rfl rfl rfl rfl
set_option maxHeartbeats 20000 in
theorem x170_976 (h8 : am_cs r ≤ 8) : AW sv 170 976 [.float 2, v1, v2, v3] (.ref 71 :: r) (am_toH σ) 90 1596 Q = AM sv 149 [.ref 71] (am_toH σ) (fun v h1 => AW sv 170 979 [.float 2, v1, v2, v3] (v.toList ++ r) h1 90 1596 Q) := e_cV (as := []) am_h170 dL_law_976 ml_10_116 (by decide) am_h149 rfl is9 rfl rfl ⟨by decide, Nat.le_of_ble_eq_true rfl, am_rcL (by decide) h8⟩
set_option maxHeartbeats 20000 in
theorem x170_979 : AW sv 170 979 [.float 2, v1, v2, v3] (.int y :: .int x :: r) h 90 1596 Q = if x = y then AW sv 170 1400 [.float 2, v1, v2, v3] r h 90 1596 Q else AW sv 170 982 [.float 2, v1, v2, v3] r h 90 1596 Q := e_c_eq am_h170 dL_law_979 rfl
set_option maxHeartbeats 20000 in
theorem x170_982 : AW sv 170 982 [.float 2, v1, v2, v3] r h 90 1596 Q = AW sv 170 983 [.float 2, v1, v2, v3] (.int (0) :: r) h 90 1596 Q := e_iconstv am_h170 dL_law_982 c_iconst_0
set_option maxHeartbeats 20000 in
theorem x170_983 (hz : x = 0 ∨ x = 1) : AW sv 170 983 [.float 2, v1, v2, v3] [.int x] h 90 1596 Q = Q (some (.int x)) h := e_zret am_h170 dL_law_983 rfl ⟨rfl, rfl⟩ hz
set_option maxHeartbeats 20000 in
theorem x170_984 : AW sv 170 984 [.float 2, .ref a, v2, v3] r h 90 1596 Q = AW sv 170 985 [.float 2, .ref a, v2, v3] (.ref a :: r) h 90 1596 Q := e_pv am_h170 dL_law_984 rfl rfl rfl rfl
set_option maxHeartbeats 20000 in
theorem x170_985 : AW sv 170 985 [.float 2, v1, v2, v3] r h 90 1596 Q = AW sv 170 986 [.float 2, v1, v2, v3] (.float 2 :: r) h 90 1596 Q := e_pv am_h170 dL_law_985 rfl rfl rfl rfl
set_option maxHeartbeats 20000 in
theorem x170_986 : AW sv 170 986 [.float 2, v1, v2, .int x] r h 90 1596 Q = AW sv 170 987 [.float 2, v1, v2, .int x] (.int x :: r) h 90 1596 Q := e_pv am_h170 dL_law_986 rfl rfl rfl rfl
set_option maxHeartbeats 20000 in
theorem x170_987 : AW sv 170 987 [.float 2, v1, v2, v3] r h 90 1596 Q = AW sv 170 988 [.float 2, v1, v2, v3] (.int (1) :: r) h 90 1596 Q := e_iconstv am_h170 dL_law_987 c_iconst_1
set_option maxHeartbeats 20000 in
theorem x170_988 : AW sv 170 988 [.float 2, v1, v2, v3] (.int y :: .int x :: r) h 90 1596 Q = AW sv 170 989 [.float 2, v1, v2, v3] (.int (x + y) :: r) h 90 1596 Q := e_iadd am_h170 dL_law_988
set_option maxHeartbeats 20000 in
theorem x170_989 (hi : am_in x (sv 2).1 = true) : AW sv 170 989 [.float 2, v1, v2, v3] (.int x :: .float 2 :: r) h 90 1596 Q = AW sv 170 990 [.float 2, v1, v2, v3] (.int ((sv 2).2 x.toNatClampNeg) :: r) h 90 1596 Q := e_ialx am_h170 dL_law_989 hi
set_option maxHeartbeats 20000 in
theorem x170_990 (h8 : am_cs r ≤ 8) : AW sv 170 990 [.float 2, v1, v2, v3] (.int x0 :: .ref 0 :: r) (am_toH σ) 90 1596 Q = AM sv 85 [.ref 0, .int x0] (am_toH σ) (fun v h1 => AW sv 170 993 [.float 2, v1, v2, v3] (v.toList ++ r) h1 90 1596 Q) := e_cV (as := [.int x0]) am_h170 dL_law_990 ml_10_117 (by decide) am_h85 rfl is8 rfl rfl ⟨by decide, Nat.le_of_ble_eq_true rfl, am_rcL (by decide) h8⟩
set_option maxHeartbeats 20000 in
theorem x170_993 : AW sv 170 993 [.float 2, v1, .ref a, v3] r h 90 1596 Q = AW sv 170 994 [.float 2, v1, .ref a, v3] (.ref a :: r) h 90 1596 Q := e_pv am_h170 dL_law_993 rfl rfl rfl rfl
set_option maxHeartbeats 20000 in
theorem x170_994 : AW sv 170 994 [.float 2, v1, v2, v3] r h 90 1596 Q = AW sv 170 995 [.float 2, v1, v2, v3] (.float 2 :: r) h 90 1596 Q := e_pv am_h170 dL_law_994 rfl rfl rfl rfl
set_option maxHeartbeats 20000 in
theorem x170_995 : AW sv 170 995 [.float 2, v1, v2, .int x] r h 90 1596 Q = AW sv 170 996 [.float 2, v1, v2, .int x] (.int x :: r) h 90 1596 Q := e_pv am_h170 dL_law_995 rfl rfl rfl rfl
set_option maxHeartbeats 20000 in
theorem x170_996 : AW sv 170 996 [.float 2, v1, v2, v3] r h 90 1596 Q = AW sv 170 997 [.float 2, v1, v2, v3] (.int (1) :: r) h 90 1596 Q := e_iconstv am_h170 dL_law_996 c_iconst_1
set_option maxHeartbeats 20000 in
theorem x170_997 : AW sv 170 997 [.float 2, v1, v2, v3] (.int y :: .int x :: r) h 90 1596 Q = AW sv 170 998 [.float 2, v1, v2, v3] (.int (x + y) :: r) h 90 1596 Q := e_iadd am_h170 dL_law_997
set_option maxHeartbeats 20000 in
theorem x170_998 (hi : am_in x (sv 2).1 = true) : AW sv 170 998 [.float 2, v1, v2, v3] (.int x :: .float 2 :: r) h 90 1596 Q = AW sv 170 999 [.float 2, v1, v2, v3] (.int ((sv 2).2 x.toNatClampNeg) :: r) h 90 1596 Q := e_ialx am_h170 dL_law_998 hi
set_option maxHeartbeats 20000 in
theorem x170_999 (h8 : am_cs r ≤ 8) : AW sv 170 999 [.float 2, v1, v2, v3] (.int x0 :: .ref 71 :: r) (am_toH σ) 90 1596 Q = AM sv 151 [.ref 71, .int x0] (am_toH σ) (fun v h1 => AW sv 170 1002 [.float 2, v1, v2, v3] (v.toList ++ r) h1 90 1596 Q) := e_cV (as := [.int x0]) am_h170 dL_law_999 ml_10_120 (by decide) am_h151 rfl is9 rfl rfl ⟨by decide, Nat.le_of_ble_eq_true rfl, am_rcL (by decide) h8⟩
set_option maxHeartbeats 20000 in
theorem x170_1002 : AW sv 170 1002 [.float 2, v1, v2, v3] (.int y :: .int x :: r) h 90 1596 Q = if x = y then AW sv 170 1400 [.float 2, v1, v2, v3] r h 90 1596 Q else AW sv 170 1005 [.float 2, v1, v2, v3] r h 90 1596 Q := e_c_eq am_h170 dL_law_1002 rfl
set_option maxHeartbeats 20000 in
theorem x170_1005 : AW sv 170 1005 [.float 2, v1, v2, v3] r h 90 1596 Q = AW sv 170 1006 [.float 2, v1, v2, v3] (.int (0) :: r) h 90 1596 Q := e_iconstv am_h170 dL_law_1005 c_iconst_0
set_option maxHeartbeats 20000 in
theorem x170_1006 (hz : x = 0 ∨ x = 1) : AW sv 170 1006 [.float 2, v1, v2, v3] [.int x] h 90 1596 Q = Q (some (.int x)) h := e_zret am_h170 dL_law_1006 rfl ⟨rfl, rfl⟩ hz
set_option maxHeartbeats 20000 in
theorem x170_1007 : AW sv 170 1007 [.float 2, .ref a, v2, v3] r h 90 1596 Q = AW sv 170 1008 [.float 2, .ref a, v2, v3] (.ref a :: r) h 90 1596 Q := e_pv am_h170 dL_law_1007 rfl rfl rfl rfl
set_option maxHeartbeats 20000 in
theorem x170_1008 : AW sv 170 1008 [.float 2, v1, v2, v3] r h 90 1596 Q = AW sv 170 1009 [.float 2, v1, v2, v3] (.float 2 :: r) h 90 1596 Q := e_pv am_h170 dL_law_1008 rfl rfl rfl rfl
set_option maxHeartbeats 20000 in
theorem x170_1009 : AW sv 170 1009 [.float 2, v1, v2, .int x] r h 90 1596 Q = AW sv 170 1010 [.float 2, v1, v2, .int x] (.int x :: r) h 90 1596 Q := e_pv am_h170 dL_law_1009 rfl rfl rfl rfl
set_option maxHeartbeats 20000 in
theorem x170_1010 : AW sv 170 1010 [.float 2, v1, v2, v3] r h 90 1596 Q = AW sv 170 1011 [.float 2, v1, v2, v3] (.int (1) :: r) h 90 1596 Q := e_iconstv am_h170 dL_law_1010 c_iconst_1
set_option maxHeartbeats 20000 in
theorem x170_1011 : AW sv 170 1011 [.float 2, v1, v2, v3] (.int y :: .int x :: r) h 90 1596 Q = AW sv 170 1012 [.float 2, v1, v2, v3] (.int (x + y) :: r) h 90 1596 Q := e_iadd am_h170 dL_law_1011
set_option maxHeartbeats 20000 in
theorem x170_1012 (hi : am_in x (sv 2).1 = true) : AW sv 170 1012 [.float 2, v1, v2, v3] (.int x :: .float 2 :: r) h 90 1596 Q = AW sv 170 1013 [.float 2, v1, v2, v3] (.int ((sv 2).2 x.toNatClampNeg) :: r) h 90 1596 Q := e_ialx am_h170 dL_law_1012 hi
set_option maxHeartbeats 20000 in
theorem x170_1013 : AW sv 170 1013 [.float 2, v1, v2, v3] r h 90 1596 Q = AW sv 170 1014 [.float 2, v1, v2, v3] (.float 2 :: r) h 90 1596 Q := e_pv am_h170 dL_law_1013 rfl rfl rfl rfl
set_option maxHeartbeats 20000 in
theorem x170_1014 : AW sv 170 1014 [.float 2, v1, v2, .int x] r h 90 1596 Q = AW sv 170 1015 [.float 2, v1, v2, .int x] (.int x :: r) h 90 1596 Q := e_pv am_h170 dL_law_1014 rfl rfl rfl rfl
set_option maxHeartbeats 20000 in
theorem x170_1015 : AW sv 170 1015 [.float 2, v1, v2, v3] r h 90 1596 Q = AW sv 170 1016 [.float 2, v1, v2, v3] (.int (2) :: r) h 90 1596 Q := e_iconstv am_h170 dL_law_1015 c_iconst_2
set_option maxHeartbeats 20000 in
theorem x170_1016 : AW sv 170 1016 [.float 2, v1, v2, v3] (.int y :: .int x :: r) h 90 1596 Q = AW sv 170 1017 [.float 2, v1, v2, v3] (.int (x + y) :: r) h 90 1596 Q := e_iadd am_h170 dL_law_1016
set_option maxHeartbeats 20000 in
theorem x170_1017 (hi : am_in x (sv 2).1 = true) : AW sv 170 1017 [.float 2, v1, v2, v3] (.int x :: .float 2 :: r) h 90 1596 Q = AW sv 170 1018 [.float 2, v1, v2, v3] (.int ((sv 2).2 x.toNatClampNeg) :: r) h 90 1596 Q := e_ialx am_h170 dL_law_1017 hi
set_option maxHeartbeats 20000 in
theorem x170_1018 (h8 : am_cs r ≤ 8) : AW sv 170 1018 [.float 2, v1, v2, v3] (.int x1 :: .int x0 :: .ref 0 :: r) (am_toH σ) 90 1596 Q = AM sv 86 [.ref 0, .int x0, .int x1] (am_toH σ) (fun v h1 => AW sv 170 1021 [.float 2, v1, v2, v3] (v.toList ++ r) h1 90 1596 Q) := e_cV (as := [.int x0, .int x1]) am_h170 dL_law_1018 ml_10_121 (by decide) am_h86 rfl is8 rfl rfl ⟨by decide, Nat.le_of_ble_eq_true rfl, am_rcL (by decide) h8⟩
set_option maxHeartbeats 20000 in
theorem x170_1021 : AW sv 170 1021 [.float 2, v1, .ref a, v3] r h 90 1596 Q = AW sv 170 1022 [.float 2, v1, .ref a, v3] (.ref a :: r) h 90 1596 Q := e_pv am_h170 dL_law_1021 rfl rfl rfl rfl
set_option maxHeartbeats 20000 in
theorem x170_1022 : AW sv 170 1022 [.float 2, v1, v2, v3] r h 90 1596 Q = AW sv 170 1023 [.float 2, v1, v2, v3] (.float 2 :: r) h 90 1596 Q := e_pv am_h170 dL_law_1022 rfl rfl rfl rfl
set_option maxHeartbeats 20000 in
theorem x170_1023 : AW sv 170 1023 [.float 2, v1, v2, .int x] r h 90 1596 Q = AW sv 170 1024 [.float 2, v1, v2, .int x] (.int x :: r) h 90 1596 Q := e_pv am_h170 dL_law_1023 rfl rfl rfl rfl
set_option maxHeartbeats 20000 in
theorem x170_1024 : AW sv 170 1024 [.float 2, v1, v2, v3] r h 90 1596 Q = AW sv 170 1025 [.float 2, v1, v2, v3] (.int (1) :: r) h 90 1596 Q := e_iconstv am_h170 dL_law_1024 c_iconst_1
set_option maxHeartbeats 20000 in
theorem x170_1025 : AW sv 170 1025 [.float 2, v1, v2, v3] (.int y :: .int x :: r) h 90 1596 Q = AW sv 170 1026 [.float 2, v1, v2, v3] (.int (x + y) :: r) h 90 1596 Q := e_iadd am_h170 dL_law_1025
set_option maxHeartbeats 20000 in
theorem x170_1026 (hi : am_in x (sv 2).1 = true) : AW sv 170 1026 [.float 2, v1, v2, v3] (.int x :: .float 2 :: r) h 90 1596 Q = AW sv 170 1027 [.float 2, v1, v2, v3] (.int ((sv 2).2 x.toNatClampNeg) :: r) h 90 1596 Q := e_ialx am_h170 dL_law_1026 hi
set_option maxHeartbeats 20000 in
theorem x170_1027 : AW sv 170 1027 [.float 2, v1, v2, v3] r h 90 1596 Q = AW sv 170 1028 [.float 2, v1, v2, v3] (.float 2 :: r) h 90 1596 Q := e_pv am_h170 dL_law_1027 rfl rfl rfl rfl
set_option maxHeartbeats 20000 in
theorem x170_1028 : AW sv 170 1028 [.float 2, v1, v2, .int x] r h 90 1596 Q = AW sv 170 1029 [.float 2, v1, v2, .int x] (.int x :: r) h 90 1596 Q := e_pv am_h170 dL_law_1028 rfl rfl rfl rfl
set_option maxHeartbeats 20000 in
theorem x170_1029 : AW sv 170 1029 [.float 2, v1, v2, v3] r h 90 1596 Q = AW sv 170 1030 [.float 2, v1, v2, v3] (.int (2) :: r) h 90 1596 Q := e_iconstv am_h170 dL_law_1029 c_iconst_2
set_option maxHeartbeats 20000 in
theorem x170_1030 : AW sv 170 1030 [.float 2, v1, v2, v3] (.int y :: .int x :: r) h 90 1596 Q = AW sv 170 1031 [.float 2, v1, v2, v3] (.int (x + y) :: r) h 90 1596 Q := e_iadd am_h170 dL_law_1030
set_option maxHeartbeats 20000 in
theorem x170_1031 (hi : am_in x (sv 2).1 = true) : AW sv 170 1031 [.float 2, v1, v2, v3] (.int x :: .float 2 :: r) h 90 1596 Q = AW sv 170 1032 [.float 2, v1, v2, v3] (.int ((sv 2).2 x.toNatClampNeg) :: r) h 90 1596 Q := e_ialx am_h170 dL_law_1031 hi
set_option maxHeartbeats 20000 in
theorem x170_1032 (h8 : am_cs r ≤ 8) : AW sv 170 1032 [.float 2, v1, v2, v3] (.int x1 :: .int x0 :: .ref 71 :: r) (am_toH σ) 90 1596 Q = AM sv 153 [.ref 71, .int x0, .int x1] (am_toH σ) (fun v h1 => AW sv 170 1035 [.float 2, v1, v2, v3] (v.toList ++ r) h1 90 1596 Q) := e_cV (as := [.int x0, .int x1]) am_h170 dL_law_1032 ml_10_124 (by decide) am_h153 rfl is9 rfl rfl ⟨by decide, Nat.le_of_ble_eq_true rfl, am_rcL (by decide) h8⟩
set_option maxHeartbeats 20000 in
theorem x170_1035 : AW sv 170 1035 [.float 2, v1, v2, v3] (.int y :: .int x :: r) h 90 1596 Q = if x = y then AW sv 170 1400 [.float 2, v1, v2, v3] r h 90 1596 Q else AW sv 170 1038 [.float 2, v1, v2, v3] r h 90 1596 Q := e_c_eq am_h170 dL_law_1035 rfl
set_option maxHeartbeats 20000 in
theorem x170_1038 : AW sv 170 1038 [.float 2, v1, v2, v3] r h 90 1596 Q = AW sv 170 1039 [.float 2, v1, v2, v3] (.int (0) :: r) h 90 1596 Q := e_iconstv am_h170 dL_law_1038 c_iconst_0
set_option maxHeartbeats 20000 in
theorem x170_1039 (hz : x = 0 ∨ x = 1) : AW sv 170 1039 [.float 2, v1, v2, v3] [.int x] h 90 1596 Q = Q (some (.int x)) h := e_zret am_h170 dL_law_1039 rfl ⟨rfl, rfl⟩ hz
set_option maxHeartbeats 20000 in
theorem x170_1040 : AW sv 170 1040 [.float 2, .ref a, v2, v3] r h 90 1596 Q = AW sv 170 1041 [.float 2, .ref a, v2, v3] (.ref a :: r) h 90 1596 Q := e_pv am_h170 dL_law_1040 rfl rfl rfl rfl
set_option maxHeartbeats 20000 in
theorem x170_1041 : AW sv 170 1041 [.float 2, v1, v2, v3] r h 90 1596 Q = AW sv 170 1042 [.float 2, v1, v2, v3] (.float 2 :: r) h 90 1596 Q := e_pv am_h170 dL_law_1041 rfl rfl rfl rfl
set_option maxHeartbeats 20000 in
theorem x170_1042 : AW sv 170 1042 [.float 2, v1, v2, .int x] r h 90 1596 Q = AW sv 170 1043 [.float 2, v1, v2, .int x] (.int x :: r) h 90 1596 Q := e_pv am_h170 dL_law_1042 rfl rfl rfl rfl
set_option maxHeartbeats 20000 in
theorem x170_1043 : AW sv 170 1043 [.float 2, v1, v2, v3] r h 90 1596 Q = AW sv 170 1044 [.float 2, v1, v2, v3] (.int (1) :: r) h 90 1596 Q := e_iconstv am_h170 dL_law_1043 c_iconst_1
set_option maxHeartbeats 20000 in
theorem x170_1044 : AW sv 170 1044 [.float 2, v1, v2, v3] (.int y :: .int x :: r) h 90 1596 Q = AW sv 170 1045 [.float 2, v1, v2, v3] (.int (x + y) :: r) h 90 1596 Q := e_iadd am_h170 dL_law_1044
set_option maxHeartbeats 20000 in
theorem x170_1045 (hi : am_in x (sv 2).1 = true) : AW sv 170 1045 [.float 2, v1, v2, v3] (.int x :: .float 2 :: r) h 90 1596 Q = AW sv 170 1046 [.float 2, v1, v2, v3] (.int ((sv 2).2 x.toNatClampNeg) :: r) h 90 1596 Q := e_ialx am_h170 dL_law_1045 hi
set_option maxHeartbeats 20000 in
theorem x170_1046 (h8 : am_cs r ≤ 8) : AW sv 170 1046 [.float 2, v1, v2, v3] (.int x0 :: .ref 0 :: r) (am_toH σ) 90 1596 Q = AM sv 87 [.ref 0, .int x0] (am_toH σ) (fun v h1 => AW sv 170 1049 [.float 2, v1, v2, v3] (v.toList ++ r) h1 90 1596 Q) := e_cV (as := [.int x0]) am_h170 dL_law_1046 ml_10_125 (by decide) am_h87 rfl is8 rfl rfl ⟨by decide, Nat.le_of_ble_eq_true rfl, am_rcL (by decide) h8⟩
set_option maxHeartbeats 20000 in
theorem x170_1049 : AW sv 170 1049 [.float 2, v1, .ref a, v3] r h 90 1596 Q = AW sv 170 1050 [.float 2, v1, .ref a, v3] (.ref a :: r) h 90 1596 Q := e_pv am_h170 dL_law_1049 rfl rfl rfl rfl
set_option maxHeartbeats 20000 in
theorem x170_1050 : AW sv 170 1050 [.float 2, v1, v2, v3] r h 90 1596 Q = AW sv 170 1051 [.float 2, v1, v2, v3] (.float 2 :: r) h 90 1596 Q := e_pv am_h170 dL_law_1050 rfl rfl rfl rfl
set_option maxHeartbeats 20000 in
theorem x170_1051 : AW sv 170 1051 [.float 2, v1, v2, .int x] r h 90 1596 Q = AW sv 170 1052 [.float 2, v1, v2, .int x] (.int x :: r) h 90 1596 Q := e_pv am_h170 dL_law_1051 rfl rfl rfl rfl
set_option maxHeartbeats 20000 in
theorem x170_1052 : AW sv 170 1052 [.float 2, v1, v2, v3] r h 90 1596 Q = AW sv 170 1053 [.float 2, v1, v2, v3] (.int (1) :: r) h 90 1596 Q := e_iconstv am_h170 dL_law_1052 c_iconst_1
set_option maxHeartbeats 20000 in
theorem x170_1053 : AW sv 170 1053 [.float 2, v1, v2, v3] (.int y :: .int x :: r) h 90 1596 Q = AW sv 170 1054 [.float 2, v1, v2, v3] (.int (x + y) :: r) h 90 1596 Q := e_iadd am_h170 dL_law_1053
set_option maxHeartbeats 20000 in
theorem x170_1054 (hi : am_in x (sv 2).1 = true) : AW sv 170 1054 [.float 2, v1, v2, v3] (.int x :: .float 2 :: r) h 90 1596 Q = AW sv 170 1055 [.float 2, v1, v2, v3] (.int ((sv 2).2 x.toNatClampNeg) :: r) h 90 1596 Q := e_ialx am_h170 dL_law_1054 hi
set_option maxHeartbeats 20000 in
theorem x170_1055 (h8 : am_cs r ≤ 8) : AW sv 170 1055 [.float 2, v1, v2, v3] (.int x0 :: .ref 71 :: r) (am_toH σ) 90 1596 Q = AM sv 154 [.ref 71, .int x0] (am_toH σ) (fun v h1 => AW sv 170 1058 [.float 2, v1, v2, v3] (v.toList ++ r) h1 90 1596 Q) := e_cV (as := [.int x0]) am_h170 dL_law_1055 ml_10_128 (by decide) am_h154 rfl is9 rfl rfl ⟨by decide, Nat.le_of_ble_eq_true rfl, am_rcL (by decide) h8⟩
set_option maxHeartbeats 20000 in
theorem x170_1058 : AW sv 170 1058 [.float 2, v1, v2, v3] (.int y :: .int x :: r) h 90 1596 Q = if x = y then AW sv 170 1400 [.float 2, v1, v2, v3] r h 90 1596 Q else AW sv 170 1061 [.float 2, v1, v2, v3] r h 90 1596 Q := e_c_eq am_h170 dL_law_1058 rfl
set_option maxHeartbeats 20000 in
theorem x170_1061 : AW sv 170 1061 [.float 2, v1, v2, v3] r h 90 1596 Q = AW sv 170 1062 [.float 2, v1, v2, v3] (.int (0) :: r) h 90 1596 Q := e_iconstv am_h170 dL_law_1061 c_iconst_0
set_option maxHeartbeats 20000 in
theorem x170_1062 (hz : x = 0 ∨ x = 1) : AW sv 170 1062 [.float 2, v1, v2, v3] [.int x] h 90 1596 Q = Q (some (.int x)) h := e_zret am_h170 dL_law_1062 rfl ⟨rfl, rfl⟩ hz
set_option maxHeartbeats 20000 in
theorem x170_1063 : AW sv 170 1063 [.float 2, .ref a, v2, v3] r h 90 1596 Q = AW sv 170 1064 [.float 2, .ref a, v2, v3] (.ref a :: r) h 90 1596 Q := e_pv am_h170 dL_law_1063 rfl rfl rfl rfl
set_option maxHeartbeats 20000 in
theorem x170_1064 : AW sv 170 1064 [.float 2, v1, v2, v3] r h 90 1596 Q = AW sv 170 1065 [.float 2, v1, v2, v3] (.float 2 :: r) h 90 1596 Q := e_pv am_h170 dL_law_1064 rfl rfl rfl rfl
set_option maxHeartbeats 20000 in
theorem x170_1065 : AW sv 170 1065 [.float 2, v1, v2, .int x] r h 90 1596 Q = AW sv 170 1066 [.float 2, v1, v2, .int x] (.int x :: r) h 90 1596 Q := e_pv am_h170 dL_law_1065 rfl rfl rfl rfl
set_option maxHeartbeats 20000 in
theorem x170_1066 : AW sv 170 1066 [.float 2, v1, v2, v3] r h 90 1596 Q = AW sv 170 1067 [.float 2, v1, v2, v3] (.int (1) :: r) h 90 1596 Q := e_iconstv am_h170 dL_law_1066 c_iconst_1
set_option maxHeartbeats 20000 in
theorem x170_1067 : AW sv 170 1067 [.float 2, v1, v2, v3] (.int y :: .int x :: r) h 90 1596 Q = AW sv 170 1068 [.float 2, v1, v2, v3] (.int (x + y) :: r) h 90 1596 Q := e_iadd am_h170 dL_law_1067
set_option maxHeartbeats 20000 in
theorem x170_1068 (hi : am_in x (sv 2).1 = true) : AW sv 170 1068 [.float 2, v1, v2, v3] (.int x :: .float 2 :: r) h 90 1596 Q = AW sv 170 1069 [.float 2, v1, v2, v3] (.int ((sv 2).2 x.toNatClampNeg) :: r) h 90 1596 Q := e_ialx am_h170 dL_law_1068 hi
set_option maxHeartbeats 20000 in
theorem x170_1069 : AW sv 170 1069 [.float 2, v1, v2, v3] r h 90 1596 Q = AW sv 170 1070 [.float 2, v1, v2, v3] (.float 2 :: r) h 90 1596 Q := e_pv am_h170 dL_law_1069 rfl rfl rfl rfl
set_option maxHeartbeats 20000 in
theorem x170_1070 : AW sv 170 1070 [.float 2, v1, v2, .int x] r h 90 1596 Q = AW sv 170 1071 [.float 2, v1, v2, .int x] (.int x :: r) h 90 1596 Q := e_pv am_h170 dL_law_1070 rfl rfl rfl rfl
set_option maxHeartbeats 20000 in
theorem x170_1071 : AW sv 170 1071 [.float 2, v1, v2, v3] r h 90 1596 Q = AW sv 170 1072 [.float 2, v1, v2, v3] (.int (2) :: r) h 90 1596 Q := e_iconstv am_h170 dL_law_1071 c_iconst_2
set_option maxHeartbeats 20000 in
theorem x170_1072 : AW sv 170 1072 [.float 2, v1, v2, v3] (.int y :: .int x :: r) h 90 1596 Q = AW sv 170 1073 [.float 2, v1, v2, v3] (.int (x + y) :: r) h 90 1596 Q := e_iadd am_h170 dL_law_1072
set_option maxHeartbeats 20000 in
theorem x170_1073 (hi : am_in x (sv 2).1 = true) : AW sv 170 1073 [.float 2, v1, v2, v3] (.int x :: .float 2 :: r) h 90 1596 Q = AW sv 170 1074 [.float 2, v1, v2, v3] (.int ((sv 2).2 x.toNatClampNeg) :: r) h 90 1596 Q := e_ialx am_h170 dL_law_1073 hi
set_option maxHeartbeats 20000 in
theorem x170_1074 : AW sv 170 1074 [.float 2, v1, v2, v3] r h 90 1596 Q = AW sv 170 1075 [.float 2, v1, v2, v3] (.float 2 :: r) h 90 1596 Q := e_pv am_h170 dL_law_1074 rfl rfl rfl rfl
set_option maxHeartbeats 20000 in
theorem x170_1075 : AW sv 170 1075 [.float 2, v1, v2, .int x] r h 90 1596 Q = AW sv 170 1076 [.float 2, v1, v2, .int x] (.int x :: r) h 90 1596 Q := e_pv am_h170 dL_law_1075 rfl rfl rfl rfl
set_option maxHeartbeats 20000 in
theorem x170_1076 : AW sv 170 1076 [.float 2, v1, v2, v3] r h 90 1596 Q = AW sv 170 1077 [.float 2, v1, v2, v3] (.int (3) :: r) h 90 1596 Q := e_iconstv am_h170 dL_law_1076 c_iconst_3
set_option maxHeartbeats 20000 in
theorem x170_1077 : AW sv 170 1077 [.float 2, v1, v2, v3] (.int y :: .int x :: r) h 90 1596 Q = AW sv 170 1078 [.float 2, v1, v2, v3] (.int (x + y) :: r) h 90 1596 Q := e_iadd am_h170 dL_law_1077
set_option maxHeartbeats 20000 in
theorem x170_1078 (hi : am_in x (sv 2).1 = true) : AW sv 170 1078 [.float 2, v1, v2, v3] (.int x :: .float 2 :: r) h 90 1596 Q = AW sv 170 1079 [.float 2, v1, v2, v3] (.int ((sv 2).2 x.toNatClampNeg) :: r) h 90 1596 Q := e_ialx am_h170 dL_law_1078 hi
set_option maxHeartbeats 20000 in
theorem x170_1079 : AW sv 170 1079 [.float 2, v1, v2, v3] r h 90 1596 Q = AW sv 170 1080 [.float 2, v1, v2, v3] (.float 2 :: r) h 90 1596 Q := e_pv am_h170 dL_law_1079 rfl rfl rfl rfl
set_option maxHeartbeats 20000 in
theorem x170_1080 : AW sv 170 1080 [.float 2, v1, v2, .int x] r h 90 1596 Q = AW sv 170 1081 [.float 2, v1, v2, .int x] (.int x :: r) h 90 1596 Q := e_pv am_h170 dL_law_1080 rfl rfl rfl rfl
set_option maxHeartbeats 20000 in
theorem x170_1081 : AW sv 170 1081 [.float 2, v1, v2, v3] r h 90 1596 Q = AW sv 170 1082 [.float 2, v1, v2, v3] (.int (4) :: r) h 90 1596 Q := e_iconstv am_h170 dL_law_1081 c_iconst_4
set_option maxHeartbeats 20000 in
theorem x170_1082 : AW sv 170 1082 [.float 2, v1, v2, v3] (.int y :: .int x :: r) h 90 1596 Q = AW sv 170 1083 [.float 2, v1, v2, v3] (.int (x + y) :: r) h 90 1596 Q := e_iadd am_h170 dL_law_1082
set_option maxHeartbeats 20000 in
theorem x170_1083 (hi : am_in x (sv 2).1 = true) : AW sv 170 1083 [.float 2, v1, v2, v3] (.int x :: .float 2 :: r) h 90 1596 Q = AW sv 170 1084 [.float 2, v1, v2, v3] (.int ((sv 2).2 x.toNatClampNeg) :: r) h 90 1596 Q := e_ialx am_h170 dL_law_1083 hi
set_option maxHeartbeats 20000 in
theorem x170_1084 (h8 : am_cs r ≤ 8) : AW sv 170 1084 [.float 2, v1, v2, v3] (.int x3 :: .int x2 :: .int x1 :: .int x0 :: .ref 0 :: r) (am_toH σ) 90 1596 Q = AM sv 88 [.ref 0, .int x0, .int x1, .int x2, .int x3] (am_toH σ) (fun v h1 => AW sv 170 1087 [.float 2, v1, v2, v3] (v.toList ++ r) h1 90 1596 Q) := e_cV (as := [.int x0, .int x1, .int x2, .int x3]) am_h170 dL_law_1084 ml_10_129 (by decide) am_h88 rfl is8 rfl rfl ⟨by decide, Nat.le_of_ble_eq_true rfl, am_rcL (by decide) h8⟩
set_option maxHeartbeats 20000 in
theorem x170_1087 : AW sv 170 1087 [.float 2, v1, .ref a, v3] r h 90 1596 Q = AW sv 170 1088 [.float 2, v1, .ref a, v3] (.ref a :: r) h 90 1596 Q := e_pv am_h170 dL_law_1087 rfl rfl rfl rfl
set_option maxHeartbeats 20000 in
theorem x170_1088 : AW sv 170 1088 [.float 2, v1, v2, v3] r h 90 1596 Q = AW sv 170 1089 [.float 2, v1, v2, v3] (.float 2 :: r) h 90 1596 Q := e_pv am_h170 dL_law_1088 rfl rfl rfl rfl
set_option maxHeartbeats 20000 in
theorem x170_1089 : AW sv 170 1089 [.float 2, v1, v2, .int x] r h 90 1596 Q = AW sv 170 1090 [.float 2, v1, v2, .int x] (.int x :: r) h 90 1596 Q := e_pv am_h170 dL_law_1089 rfl rfl rfl rfl
set_option maxHeartbeats 20000 in
theorem x170_1090 : AW sv 170 1090 [.float 2, v1, v2, v3] r h 90 1596 Q = AW sv 170 1091 [.float 2, v1, v2, v3] (.int (1) :: r) h 90 1596 Q := e_iconstv am_h170 dL_law_1090 c_iconst_1
set_option maxHeartbeats 20000 in
theorem x170_1091 : AW sv 170 1091 [.float 2, v1, v2, v3] (.int y :: .int x :: r) h 90 1596 Q = AW sv 170 1092 [.float 2, v1, v2, v3] (.int (x + y) :: r) h 90 1596 Q := e_iadd am_h170 dL_law_1091
set_option maxHeartbeats 20000 in
theorem x170_1092 (hi : am_in x (sv 2).1 = true) : AW sv 170 1092 [.float 2, v1, v2, v3] (.int x :: .float 2 :: r) h 90 1596 Q = AW sv 170 1093 [.float 2, v1, v2, v3] (.int ((sv 2).2 x.toNatClampNeg) :: r) h 90 1596 Q := e_ialx am_h170 dL_law_1092 hi
set_option maxHeartbeats 20000 in
theorem x170_1093 : AW sv 170 1093 [.float 2, v1, v2, v3] r h 90 1596 Q = AW sv 170 1094 [.float 2, v1, v2, v3] (.float 2 :: r) h 90 1596 Q := e_pv am_h170 dL_law_1093 rfl rfl rfl rfl
set_option maxHeartbeats 20000 in
theorem x170_1094 : AW sv 170 1094 [.float 2, v1, v2, .int x] r h 90 1596 Q = AW sv 170 1095 [.float 2, v1, v2, .int x] (.int x :: r) h 90 1596 Q := e_pv am_h170 dL_law_1094 rfl rfl rfl rfl
set_option maxHeartbeats 20000 in
theorem x170_1095 : AW sv 170 1095 [.float 2, v1, v2, v3] r h 90 1596 Q = AW sv 170 1096 [.float 2, v1, v2, v3] (.int (2) :: r) h 90 1596 Q := e_iconstv am_h170 dL_law_1095 c_iconst_2
set_option maxHeartbeats 20000 in
theorem x170_1096 : AW sv 170 1096 [.float 2, v1, v2, v3] (.int y :: .int x :: r) h 90 1596 Q = AW sv 170 1097 [.float 2, v1, v2, v3] (.int (x + y) :: r) h 90 1596 Q := e_iadd am_h170 dL_law_1096
set_option maxHeartbeats 20000 in
theorem x170_1097 (hi : am_in x (sv 2).1 = true) : AW sv 170 1097 [.float 2, v1, v2, v3] (.int x :: .float 2 :: r) h 90 1596 Q = AW sv 170 1098 [.float 2, v1, v2, v3] (.int ((sv 2).2 x.toNatClampNeg) :: r) h 90 1596 Q := e_ialx am_h170 dL_law_1097 hi
set_option maxHeartbeats 20000 in
theorem x170_1098 : AW sv 170 1098 [.float 2, v1, v2, v3] r h 90 1596 Q = AW sv 170 1099 [.float 2, v1, v2, v3] (.float 2 :: r) h 90 1596 Q := e_pv am_h170 dL_law_1098 rfl rfl rfl rfl
set_option maxHeartbeats 20000 in
theorem x170_1099 : AW sv 170 1099 [.float 2, v1, v2, .int x] r h 90 1596 Q = AW sv 170 1100 [.float 2, v1, v2, .int x] (.int x :: r) h 90 1596 Q := e_pv am_h170 dL_law_1099 rfl rfl rfl rfl
set_option maxHeartbeats 20000 in
theorem x170_1100 : AW sv 170 1100 [.float 2, v1, v2, v3] r h 90 1596 Q = AW sv 170 1101 [.float 2, v1, v2, v3] (.int (3) :: r) h 90 1596 Q := e_iconstv am_h170 dL_law_1100 c_iconst_3
set_option maxHeartbeats 20000 in
theorem x170_1101 : AW sv 170 1101 [.float 2, v1, v2, v3] (.int y :: .int x :: r) h 90 1596 Q = AW sv 170 1102 [.float 2, v1, v2, v3] (.int (x + y) :: r) h 90 1596 Q := e_iadd am_h170 dL_law_1101
set_option maxHeartbeats 20000 in
theorem x170_1102 (hi : am_in x (sv 2).1 = true) : AW sv 170 1102 [.float 2, v1, v2, v3] (.int x :: .float 2 :: r) h 90 1596 Q = AW sv 170 1103 [.float 2, v1, v2, v3] (.int ((sv 2).2 x.toNatClampNeg) :: r) h 90 1596 Q := e_ialx am_h170 dL_law_1102 hi
set_option maxHeartbeats 20000 in
theorem x170_1103 : AW sv 170 1103 [.float 2, v1, v2, v3] r h 90 1596 Q = AW sv 170 1104 [.float 2, v1, v2, v3] (.float 2 :: r) h 90 1596 Q := e_pv am_h170 dL_law_1103 rfl rfl rfl rfl
set_option maxHeartbeats 20000 in
theorem x170_1104 : AW sv 170 1104 [.float 2, v1, v2, .int x] r h 90 1596 Q = AW sv 170 1105 [.float 2, v1, v2, .int x] (.int x :: r) h 90 1596 Q := e_pv am_h170 dL_law_1104 rfl rfl rfl rfl
set_option maxHeartbeats 20000 in
theorem x170_1105 : AW sv 170 1105 [.float 2, v1, v2, v3] r h 90 1596 Q = AW sv 170 1106 [.float 2, v1, v2, v3] (.int (4) :: r) h 90 1596 Q := e_iconstv am_h170 dL_law_1105 c_iconst_4
set_option maxHeartbeats 20000 in
theorem x170_1106 : AW sv 170 1106 [.float 2, v1, v2, v3] (.int y :: .int x :: r) h 90 1596 Q = AW sv 170 1107 [.float 2, v1, v2, v3] (.int (x + y) :: r) h 90 1596 Q := e_iadd am_h170 dL_law_1106
set_option maxHeartbeats 20000 in
theorem x170_1107 (hi : am_in x (sv 2).1 = true) : AW sv 170 1107 [.float 2, v1, v2, v3] (.int x :: .float 2 :: r) h 90 1596 Q = AW sv 170 1108 [.float 2, v1, v2, v3] (.int ((sv 2).2 x.toNatClampNeg) :: r) h 90 1596 Q := e_ialx am_h170 dL_law_1107 hi
set_option maxHeartbeats 20000 in
theorem x170_1108 (h8 : am_cs r ≤ 8) : AW sv 170 1108 [.float 2, v1, v2, v3] (.int x3 :: .int x2 :: .int x1 :: .int x0 :: .ref 71 :: r) (am_toH σ) 90 1596 Q = AM sv 156 [.ref 71, .int x0, .int x1, .int x2, .int x3] (am_toH σ) (fun v h1 => AW sv 170 1111 [.float 2, v1, v2, v3] (v.toList ++ r) h1 90 1596 Q) := e_cV (as := [.int x0, .int x1, .int x2, .int x3]) am_h170 dL_law_1108 ml_10_132 (by decide) am_h156 rfl is9 rfl rfl ⟨by decide, Nat.le_of_ble_eq_true rfl, am_rcL (by decide) h8⟩
set_option maxHeartbeats 20000 in
theorem x170_1111 : AW sv 170 1111 [.float 2, v1, v2, v3] (.int y :: .int x :: r) h 90 1596 Q = if x = y then AW sv 170 1400 [.float 2, v1, v2, v3] r h 90 1596 Q else AW sv 170 1114 [.float 2, v1, v2, v3] r h 90 1596 Q := e_c_eq am_h170 dL_law_1111 rfl
set_option maxHeartbeats 20000 in
theorem x170_1114 : AW sv 170 1114 [.float 2, v1, v2, v3] r h 90 1596 Q = AW sv 170 1115 [.float 2, v1, v2, v3] (.int (0) :: r) h 90 1596 Q := e_iconstv am_h170 dL_law_1114 c_iconst_0
set_option maxHeartbeats 20000 in
theorem x170_1115 (hz : x = 0 ∨ x = 1) : AW sv 170 1115 [.float 2, v1, v2, v3] [.int x] h 90 1596 Q = Q (some (.int x)) h := e_zret am_h170 dL_law_1115 rfl ⟨rfl, rfl⟩ hz
set_option maxHeartbeats 20000 in
theorem x170_1116 : AW sv 170 1116 [.float 2, .ref a, v2, v3] r h 90 1596 Q = AW sv 170 1117 [.float 2, .ref a, v2, v3] (.ref a :: r) h 90 1596 Q := e_pv am_h170 dL_law_1116 rfl rfl rfl rfl
set_option maxHeartbeats 20000 in
theorem x170_1117 (h8 : am_cs r ≤ 8) : AW sv 170 1117 [.float 2, v1, v2, v3] (.ref 0 :: r) (am_toH σ) 90 1596 Q = AM sv 89 [.ref 0] (am_toH σ) (fun v h1 => AW sv 170 1120 [.float 2, v1, v2, v3] (v.toList ++ r) h1 90 1596 Q) := e_cV (as := []) am_h170 dL_law_1117 ml_10_133 (by decide) am_h89 rfl is8 rfl rfl ⟨by decide, Nat.le_of_ble_eq_true rfl, am_rcL (by decide) h8⟩
set_option maxHeartbeats 20000 in
theorem x170_1120 : AW sv 170 1120 [.float 2, v1, .ref a, v3] r h 90 1596 Q = AW sv 170 1121 [.float 2, v1, .ref a, v3] (.ref a :: r) h 90 1596 Q := e_pv am_h170 dL_law_1120 rfl rfl rfl rfl
set_option maxHeartbeats 20000 in
theorem x170_1121 (h8 : am_cs r ≤ 8) : AW sv 170 1121 [.float 2, v1, v2, v3] (.ref 71 :: r) (am_toH σ) 90 1596 Q = AM sv 157 [.ref 71] (am_toH σ) (fun v h1 => AW sv 170 1124 [.float 2, v1, v2, v3] (v.toList ++ r) h1 90 1596 Q) := e_cV (as := []) am_h170 dL_law_1121 ml_10_136 (by decide) am_h157 rfl is9 rfl rfl ⟨by decide, Nat.le_of_ble_eq_true rfl, am_rcL (by decide) h8⟩
set_option maxHeartbeats 20000 in
theorem x170_1124 : AW sv 170 1124 [.float 2, v1, v2, v3] (.int y :: .int x :: r) h 90 1596 Q = if x = y then AW sv 170 1400 [.float 2, v1, v2, v3] r h 90 1596 Q else AW sv 170 1127 [.float 2, v1, v2, v3] r h 90 1596 Q := e_c_eq am_h170 dL_law_1124 rfl
set_option maxHeartbeats 20000 in
theorem x170_1127 : AW sv 170 1127 [.float 2, v1, v2, v3] r h 90 1596 Q = AW sv 170 1128 [.float 2, v1, v2, v3] (.int (0) :: r) h 90 1596 Q := e_iconstv am_h170 dL_law_1127 c_iconst_0
set_option maxHeartbeats 20000 in
theorem x170_1128 (hz : x = 0 ∨ x = 1) : AW sv 170 1128 [.float 2, v1, v2, v3] [.int x] h 90 1596 Q = Q (some (.int x)) h := e_zret am_h170 dL_law_1128 rfl ⟨rfl, rfl⟩ hz
set_option maxHeartbeats 20000 in
theorem x170_1129 : AW sv 170 1129 [.float 2, .ref a, v2, v3] r h 90 1596 Q = AW sv 170 1130 [.float 2, .ref a, v2, v3] (.ref a :: r) h 90 1596 Q := e_pv am_h170 dL_law_1129 rfl rfl rfl rfl
set_option maxHeartbeats 20000 in
theorem x170_1130 (h8 : am_cs r ≤ 8) : AW sv 170 1130 [.float 2, v1, v2, v3] (.ref 0 :: r) (am_toH σ) 90 1596 Q = AM sv 90 [.ref 0] (am_toH σ) (fun v h1 => AW sv 170 1133 [.float 2, v1, v2, v3] (v.toList ++ r) h1 90 1596 Q) := e_cV (as := []) am_h170 dL_law_1130 ml_10_137 (by decide) am_h90 rfl is8 rfl rfl ⟨by decide, Nat.le_of_ble_eq_true rfl, am_rcL (by decide) h8⟩
set_option maxHeartbeats 20000 in
theorem x170_1133 : AW sv 170 1133 [.float 2, v1, .ref a, v3] r h 90 1596 Q = AW sv 170 1134 [.float 2, v1, .ref a, v3] (.ref a :: r) h 90 1596 Q := e_pv am_h170 dL_law_1133 rfl rfl rfl rfl
set_option maxHeartbeats 20000 in
theorem x170_1134 (h8 : am_cs r ≤ 8) : AW sv 170 1134 [.float 2, v1, v2, v3] (.ref 71 :: r) (am_toH σ) 90 1596 Q = AM sv 160 [.ref 71] (am_toH σ) (fun v h1 => AW sv 170 1137 [.float 2, v1, v2, v3] (v.toList ++ r) h1 90 1596 Q) := e_cV (as := []) am_h170 dL_law_1134 ml_10_140 (by decide) am_h160 rfl is9 rfl rfl ⟨by decide, Nat.le_of_ble_eq_true rfl, am_rcL (by decide) h8⟩
set_option maxHeartbeats 20000 in
theorem x170_1137 : AW sv 170 1137 [.float 2, v1, v2, v3] (.int y :: .int x :: r) h 90 1596 Q = if x = y then AW sv 170 1400 [.float 2, v1, v2, v3] r h 90 1596 Q else AW sv 170 1140 [.float 2, v1, v2, v3] r h 90 1596 Q := e_c_eq am_h170 dL_law_1137 rfl
set_option maxHeartbeats 20000 in
theorem x170_1140 : AW sv 170 1140 [.float 2, v1, v2, v3] r h 90 1596 Q = AW sv 170 1141 [.float 2, v1, v2, v3] (.int (0) :: r) h 90 1596 Q := e_iconstv am_h170 dL_law_1140 c_iconst_0
set_option maxHeartbeats 20000 in
theorem x170_1141 (hz : x = 0 ∨ x = 1) : AW sv 170 1141 [.float 2, v1, v2, v3] [.int x] h 90 1596 Q = Q (some (.int x)) h := e_zret am_h170 dL_law_1141 rfl ⟨rfl, rfl⟩ hz
set_option maxHeartbeats 20000 in
theorem x170_1142 : AW sv 170 1142 [.float 2, .ref a, v2, v3] r h 90 1596 Q = AW sv 170 1143 [.float 2, .ref a, v2, v3] (.ref a :: r) h 90 1596 Q := e_pv am_h170 dL_law_1142 rfl rfl rfl rfl
set_option maxHeartbeats 20000 in
theorem x170_1143 (h8 : am_cs r ≤ 8) : AW sv 170 1143 [.float 2, v1, v2, v3] (.ref 0 :: r) (am_toH σ) 90 1596 Q = AM sv 91 [.ref 0] (am_toH σ) (fun v h1 => AW sv 170 1146 [.float 2, v1, v2, v3] (v.toList ++ r) h1 90 1596 Q) := e_cV (as := []) am_h170 dL_law_1143 ml_10_141 (by decide) am_h91 rfl is8 rfl rfl ⟨by decide, Nat.le_of_ble_eq_true rfl, am_rcL (by decide) h8⟩
set_option maxHeartbeats 20000 in
theorem x170_1146 : AW sv 170 1146 [.float 2, v1, .ref a, v3] r h 90 1596 Q = AW sv 170 1147 [.float 2, v1, .ref a, v3] (.ref a :: r) h 90 1596 Q := e_pv am_h170 dL_law_1146 rfl rfl rfl rfl
set_option maxHeartbeats 20000 in
theorem x170_1147 (h8 : am_cs r ≤ 8) : AW sv 170 1147 [.float 2, v1, v2, v3] (.ref 71 :: r) (am_toH σ) 90 1596 Q = AM sv 161 [.ref 71] (am_toH σ) (fun v h1 => AW sv 170 1150 [.float 2, v1, v2, v3] (v.toList ++ r) h1 90 1596 Q) := e_cV (as := []) am_h170 dL_law_1147 ml_10_144 (by decide) am_h161 rfl is9 rfl rfl ⟨by decide, Nat.le_of_ble_eq_true rfl, am_rcL (by decide) h8⟩
set_option maxHeartbeats 20000 in
theorem x170_1150 : AW sv 170 1150 [.float 2, v1, v2, v3] (.int y :: .int x :: r) h 90 1596 Q = if x = y then AW sv 170 1400 [.float 2, v1, v2, v3] r h 90 1596 Q else AW sv 170 1153 [.float 2, v1, v2, v3] r h 90 1596 Q := e_c_eq am_h170 dL_law_1150 rfl
set_option maxHeartbeats 20000 in
theorem x170_1153 : AW sv 170 1153 [.float 2, v1, v2, v3] r h 90 1596 Q = AW sv 170 1154 [.float 2, v1, v2, v3] (.int (0) :: r) h 90 1596 Q := e_iconstv am_h170 dL_law_1153 c_iconst_0
set_option maxHeartbeats 20000 in
theorem x170_1154 (hz : x = 0 ∨ x = 1) : AW sv 170 1154 [.float 2, v1, v2, v3] [.int x] h 90 1596 Q = Q (some (.int x)) h := e_zret am_h170 dL_law_1154 rfl ⟨rfl, rfl⟩ hz
set_option maxHeartbeats 20000 in
theorem x170_1155 : AW sv 170 1155 [.float 2, .ref a, v2, v3] r h 90 1596 Q = AW sv 170 1156 [.float 2, .ref a, v2, v3] (.ref a :: r) h 90 1596 Q := e_pv am_h170 dL_law_1155 rfl rfl rfl rfl
set_option maxHeartbeats 20000 in
theorem x170_1156 : AW sv 170 1156 [.float 2, v1, v2, v3] r h 90 1596 Q = AW sv 170 1157 [.float 2, v1, v2, v3] (.float 2 :: r) h 90 1596 Q := e_pv am_h170 dL_law_1156 rfl rfl rfl rfl
set_option maxHeartbeats 20000 in
theorem x170_1157 : AW sv 170 1157 [.float 2, v1, v2, .int x] r h 90 1596 Q = AW sv 170 1158 [.float 2, v1, v2, .int x] (.int x :: r) h 90 1596 Q := e_pv am_h170 dL_law_1157 rfl rfl rfl rfl
set_option maxHeartbeats 20000 in
theorem x170_1158 : AW sv 170 1158 [.float 2, v1, v2, v3] r h 90 1596 Q = AW sv 170 1159 [.float 2, v1, v2, v3] (.int (1) :: r) h 90 1596 Q := e_iconstv am_h170 dL_law_1158 c_iconst_1
set_option maxHeartbeats 20000 in
theorem x170_1159 : AW sv 170 1159 [.float 2, v1, v2, v3] (.int y :: .int x :: r) h 90 1596 Q = AW sv 170 1160 [.float 2, v1, v2, v3] (.int (x + y) :: r) h 90 1596 Q := e_iadd am_h170 dL_law_1159
set_option maxHeartbeats 20000 in
theorem x170_1160 (hi : am_in x (sv 2).1 = true) : AW sv 170 1160 [.float 2, v1, v2, v3] (.int x :: .float 2 :: r) h 90 1596 Q = AW sv 170 1161 [.float 2, v1, v2, v3] (.int ((sv 2).2 x.toNatClampNeg) :: r) h 90 1596 Q := e_ialx am_h170 dL_law_1160 hi
set_option maxHeartbeats 20000 in
theorem x170_1161 : AW sv 170 1161 [.float 2, v1, v2, v3] r h 90 1596 Q = AW sv 170 1162 [.float 2, v1, v2, v3] (.float 2 :: r) h 90 1596 Q := e_pv am_h170 dL_law_1161 rfl rfl rfl rfl
set_option maxHeartbeats 20000 in
theorem x170_1162 : AW sv 170 1162 [.float 2, v1, v2, .int x] r h 90 1596 Q = AW sv 170 1163 [.float 2, v1, v2, .int x] (.int x :: r) h 90 1596 Q := e_pv am_h170 dL_law_1162 rfl rfl rfl rfl
set_option maxHeartbeats 20000 in
theorem x170_1163 : AW sv 170 1163 [.float 2, v1, v2, v3] r h 90 1596 Q = AW sv 170 1164 [.float 2, v1, v2, v3] (.int (2) :: r) h 90 1596 Q := e_iconstv am_h170 dL_law_1163 c_iconst_2
set_option maxHeartbeats 20000 in
theorem x170_1164 : AW sv 170 1164 [.float 2, v1, v2, v3] (.int y :: .int x :: r) h 90 1596 Q = AW sv 170 1165 [.float 2, v1, v2, v3] (.int (x + y) :: r) h 90 1596 Q := e_iadd am_h170 dL_law_1164
set_option maxHeartbeats 20000 in
theorem x170_1165 (hi : am_in x (sv 2).1 = true) : AW sv 170 1165 [.float 2, v1, v2, v3] (.int x :: .float 2 :: r) h 90 1596 Q = AW sv 170 1166 [.float 2, v1, v2, v3] (.int ((sv 2).2 x.toNatClampNeg) :: r) h 90 1596 Q := e_ialx am_h170 dL_law_1165 hi
set_option maxHeartbeats 20000 in
theorem x170_1166 : AW sv 170 1166 [.float 2, v1, v2, v3] r h 90 1596 Q = AW sv 170 1167 [.float 2, v1, v2, v3] (.float 2 :: r) h 90 1596 Q := e_pv am_h170 dL_law_1166 rfl rfl rfl rfl
set_option maxHeartbeats 20000 in
theorem x170_1167 : AW sv 170 1167 [.float 2, v1, v2, .int x] r h 90 1596 Q = AW sv 170 1168 [.float 2, v1, v2, .int x] (.int x :: r) h 90 1596 Q := e_pv am_h170 dL_law_1167 rfl rfl rfl rfl
set_option maxHeartbeats 20000 in
theorem x170_1168 : AW sv 170 1168 [.float 2, v1, v2, v3] r h 90 1596 Q = AW sv 170 1169 [.float 2, v1, v2, v3] (.int (3) :: r) h 90 1596 Q := e_iconstv am_h170 dL_law_1168 c_iconst_3
set_option maxHeartbeats 20000 in
theorem x170_1169 : AW sv 170 1169 [.float 2, v1, v2, v3] (.int y :: .int x :: r) h 90 1596 Q = AW sv 170 1170 [.float 2, v1, v2, v3] (.int (x + y) :: r) h 90 1596 Q := e_iadd am_h170 dL_law_1169
set_option maxHeartbeats 20000 in
theorem x170_1170 (hi : am_in x (sv 2).1 = true) : AW sv 170 1170 [.float 2, v1, v2, v3] (.int x :: .float 2 :: r) h 90 1596 Q = AW sv 170 1171 [.float 2, v1, v2, v3] (.int ((sv 2).2 x.toNatClampNeg) :: r) h 90 1596 Q := e_ialx am_h170 dL_law_1170 hi
set_option maxHeartbeats 20000 in
theorem x170_1171 : AW sv 170 1171 [.float 2, v1, v2, v3] r h 90 1596 Q = AW sv 170 1172 [.float 2, v1, v2, v3] (.float 2 :: r) h 90 1596 Q := e_pv am_h170 dL_law_1171 rfl rfl rfl rfl
set_option maxHeartbeats 20000 in
theorem x170_1172 : AW sv 170 1172 [.float 2, v1, v2, .int x] r h 90 1596 Q = AW sv 170 1173 [.float 2, v1, v2, .int x] (.int x :: r) h 90 1596 Q := e_pv am_h170 dL_law_1172 rfl rfl rfl rfl
set_option maxHeartbeats 20000 in
theorem x170_1173 : AW sv 170 1173 [.float 2, v1, v2, v3] r h 90 1596 Q = AW sv 170 1174 [.float 2, v1, v2, v3] (.int (4) :: r) h 90 1596 Q := e_iconstv am_h170 dL_law_1173 c_iconst_4
set_option maxHeartbeats 20000 in
theorem x170_1174 : AW sv 170 1174 [.float 2, v1, v2, v3] (.int y :: .int x :: r) h 90 1596 Q = AW sv 170 1175 [.float 2, v1, v2, v3] (.int (x + y) :: r) h 90 1596 Q := e_iadd am_h170 dL_law_1174
set_option maxHeartbeats 20000 in
theorem x170_1175 (hi : am_in x (sv 2).1 = true) : AW sv 170 1175 [.float 2, v1, v2, v3] (.int x :: .float 2 :: r) h 90 1596 Q = AW sv 170 1176 [.float 2, v1, v2, v3] (.int ((sv 2).2 x.toNatClampNeg) :: r) h 90 1596 Q := e_ialx am_h170 dL_law_1175 hi
set_option maxHeartbeats 20000 in
theorem x170_1176 : AW sv 170 1176 [.float 2, v1, v2, v3] r h 90 1596 Q = AW sv 170 1177 [.float 2, v1, v2, v3] (.float 2 :: r) h 90 1596 Q := e_pv am_h170 dL_law_1176 rfl rfl rfl rfl
set_option maxHeartbeats 20000 in
theorem x170_1177 : AW sv 170 1177 [.float 2, v1, v2, .int x] r h 90 1596 Q = AW sv 170 1178 [.float 2, v1, v2, .int x] (.int x :: r) h 90 1596 Q := e_pv am_h170 dL_law_1177 rfl rfl rfl rfl
set_option maxHeartbeats 20000 in
theorem x170_1178 : AW sv 170 1178 [.float 2, v1, v2, v3] r h 90 1596 Q = AW sv 170 1179 [.float 2, v1, v2, v3] (.int (5) :: r) h 90 1596 Q := e_iconstv am_h170 dL_law_1178 c_iconst_5
set_option maxHeartbeats 20000 in
theorem x170_1179 : AW sv 170 1179 [.float 2, v1, v2, v3] (.int y :: .int x :: r) h 90 1596 Q = AW sv 170 1180 [.float 2, v1, v2, v3] (.int (x + y) :: r) h 90 1596 Q := e_iadd am_h170 dL_law_1179
set_option maxHeartbeats 20000 in
theorem x170_1180 (hi : am_in x (sv 2).1 = true) : AW sv 170 1180 [.float 2, v1, v2, v3] (.int x :: .float 2 :: r) h 90 1596 Q = AW sv 170 1181 [.float 2, v1, v2, v3] (.int ((sv 2).2 x.toNatClampNeg) :: r) h 90 1596 Q := e_ialx am_h170 dL_law_1180 hi
set_option maxHeartbeats 20000 in
theorem x170_1181 (h8 : am_cs r ≤ 8) : AW sv 170 1181 [.float 2, v1, v2, v3] (.int x4 :: .int x3 :: .int x2 :: .int x1 :: .int x0 :: .ref 0 :: r) (am_toH σ) 90 1596 Q = AM sv 92 [.ref 0, .int x0, .int x1, .int x2, .int x3, .int x4] (am_toH σ) (fun v h1 => AW sv 170 1184 [.float 2, v1, v2, v3] (v.toList ++ r) h1 90 1596 Q) := e_cV (as := [.int x0, .int x1, .int x2, .int x3, .int x4]) am_h170 dL_law_1181 ml_10_145 (by decide) am_h92 rfl is8 rfl rfl ⟨by decide, Nat.le_of_ble_eq_true rfl, am_rcL (by decide) h8⟩
set_option maxHeartbeats 20000 in
theorem x170_1184 : AW sv 170 1184 [.float 2, v1, .ref a, v3] r h 90 1596 Q = AW sv 170 1185 [.float 2, v1, .ref a, v3] (.ref a :: r) h 90 1596 Q := e_pv am_h170 dL_law_1184 rfl rfl rfl rfl
set_option maxHeartbeats 20000 in
theorem x170_1185 : AW sv 170 1185 [.float 2, v1, v2, v3] r h 90 1596 Q = AW sv 170 1186 [.float 2, v1, v2, v3] (.float 2 :: r) h 90 1596 Q := e_pv am_h170 dL_law_1185 rfl rfl rfl rfl
set_option maxHeartbeats 20000 in
theorem x170_1186 : AW sv 170 1186 [.float 2, v1, v2, .int x] r h 90 1596 Q = AW sv 170 1187 [.float 2, v1, v2, .int x] (.int x :: r) h 90 1596 Q := e_pv am_h170 dL_law_1186 rfl rfl rfl rfl
set_option maxHeartbeats 20000 in
theorem x170_1187 : AW sv 170 1187 [.float 2, v1, v2, v3] r h 90 1596 Q = AW sv 170 1188 [.float 2, v1, v2, v3] (.int (1) :: r) h 90 1596 Q := e_iconstv am_h170 dL_law_1187 c_iconst_1
set_option maxHeartbeats 20000 in
theorem x170_1188 : AW sv 170 1188 [.float 2, v1, v2, v3] (.int y :: .int x :: r) h 90 1596 Q = AW sv 170 1189 [.float 2, v1, v2, v3] (.int (x + y) :: r) h 90 1596 Q := e_iadd am_h170 dL_law_1188
set_option maxHeartbeats 20000 in
theorem x170_1189 (hi : am_in x (sv 2).1 = true) : AW sv 170 1189 [.float 2, v1, v2, v3] (.int x :: .float 2 :: r) h 90 1596 Q = AW sv 170 1190 [.float 2, v1, v2, v3] (.int ((sv 2).2 x.toNatClampNeg) :: r) h 90 1596 Q := e_ialx am_h170 dL_law_1189 hi
set_option maxHeartbeats 20000 in
theorem x170_1190 : AW sv 170 1190 [.float 2, v1, v2, v3] r h 90 1596 Q = AW sv 170 1191 [.float 2, v1, v2, v3] (.float 2 :: r) h 90 1596 Q := e_pv am_h170 dL_law_1190 rfl rfl rfl rfl
set_option maxHeartbeats 20000 in
theorem x170_1191 : AW sv 170 1191 [.float 2, v1, v2, .int x] r h 90 1596 Q = AW sv 170 1192 [.float 2, v1, v2, .int x] (.int x :: r) h 90 1596 Q := e_pv am_h170 dL_law_1191 rfl rfl rfl rfl
set_option maxHeartbeats 20000 in
theorem x170_1192 : AW sv 170 1192 [.float 2, v1, v2, v3] r h 90 1596 Q = AW sv 170 1193 [.float 2, v1, v2, v3] (.int (2) :: r) h 90 1596 Q := e_iconstv am_h170 dL_law_1192 c_iconst_2
set_option maxHeartbeats 20000 in
theorem x170_1193 : AW sv 170 1193 [.float 2, v1, v2, v3] (.int y :: .int x :: r) h 90 1596 Q = AW sv 170 1194 [.float 2, v1, v2, v3] (.int (x + y) :: r) h 90 1596 Q := e_iadd am_h170 dL_law_1193
set_option maxHeartbeats 20000 in
theorem x170_1194 (hi : am_in x (sv 2).1 = true) : AW sv 170 1194 [.float 2, v1, v2, v3] (.int x :: .float 2 :: r) h 90 1596 Q = AW sv 170 1195 [.float 2, v1, v2, v3] (.int ((sv 2).2 x.toNatClampNeg) :: r) h 90 1596 Q := e_ialx am_h170 dL_law_1194 hi
set_option maxHeartbeats 20000 in
theorem x170_1195 : AW sv 170 1195 [.float 2, v1, v2, v3] r h 90 1596 Q = AW sv 170 1196 [.float 2, v1, v2, v3] (.float 2 :: r) h 90 1596 Q := e_pv am_h170 dL_law_1195 rfl rfl rfl rfl
set_option maxHeartbeats 20000 in
theorem x170_1196 : AW sv 170 1196 [.float 2, v1, v2, .int x] r h 90 1596 Q = AW sv 170 1197 [.float 2, v1, v2, .int x] (.int x :: r) h 90 1596 Q := e_pv am_h170 dL_law_1196 rfl rfl rfl rfl
set_option maxHeartbeats 20000 in
theorem x170_1197 : AW sv 170 1197 [.float 2, v1, v2, v3] r h 90 1596 Q = AW sv 170 1198 [.float 2, v1, v2, v3] (.int (3) :: r) h 90 1596 Q := e_iconstv am_h170 dL_law_1197 c_iconst_3
set_option maxHeartbeats 20000 in
theorem x170_1198 : AW sv 170 1198 [.float 2, v1, v2, v3] (.int y :: .int x :: r) h 90 1596 Q = AW sv 170 1199 [.float 2, v1, v2, v3] (.int (x + y) :: r) h 90 1596 Q := e_iadd am_h170 dL_law_1198
set_option maxHeartbeats 20000 in
theorem x170_1199 (hi : am_in x (sv 2).1 = true) : AW sv 170 1199 [.float 2, v1, v2, v3] (.int x :: .float 2 :: r) h 90 1596 Q = AW sv 170 1200 [.float 2, v1, v2, v3] (.int ((sv 2).2 x.toNatClampNeg) :: r) h 90 1596 Q := e_ialx am_h170 dL_law_1199 hi
set_option maxHeartbeats 20000 in
theorem x170_1200 : AW sv 170 1200 [.float 2, v1, v2, v3] r h 90 1596 Q = AW sv 170 1201 [.float 2, v1, v2, v3] (.float 2 :: r) h 90 1596 Q := e_pv am_h170 dL_law_1200 rfl rfl rfl rfl
set_option maxHeartbeats 20000 in
theorem x170_1201 : AW sv 170 1201 [.float 2, v1, v2, .int x] r h 90 1596 Q = AW sv 170 1202 [.float 2, v1, v2, .int x] (.int x :: r) h 90 1596 Q := e_pv am_h170 dL_law_1201 rfl rfl rfl rfl
set_option maxHeartbeats 20000 in
theorem x170_1202 : AW sv 170 1202 [.float 2, v1, v2, v3] r h 90 1596 Q = AW sv 170 1203 [.float 2, v1, v2, v3] (.int (4) :: r) h 90 1596 Q := e_iconstv am_h170 dL_law_1202 c_iconst_4
set_option maxHeartbeats 20000 in
theorem x170_1203 : AW sv 170 1203 [.float 2, v1, v2, v3] (.int y :: .int x :: r) h 90 1596 Q = AW sv 170 1204 [.float 2, v1, v2, v3] (.int (x + y) :: r) h 90 1596 Q := e_iadd am_h170 dL_law_1203
set_option maxHeartbeats 20000 in
theorem x170_1204 (hi : am_in x (sv 2).1 = true) : AW sv 170 1204 [.float 2, v1, v2, v3] (.int x :: .float 2 :: r) h 90 1596 Q = AW sv 170 1205 [.float 2, v1, v2, v3] (.int ((sv 2).2 x.toNatClampNeg) :: r) h 90 1596 Q := e_ialx am_h170 dL_law_1204 hi
set_option maxHeartbeats 20000 in
theorem x170_1205 : AW sv 170 1205 [.float 2, v1, v2, v3] r h 90 1596 Q = AW sv 170 1206 [.float 2, v1, v2, v3] (.float 2 :: r) h 90 1596 Q := e_pv am_h170 dL_law_1205 rfl rfl rfl rfl
set_option maxHeartbeats 20000 in
theorem x170_1206 : AW sv 170 1206 [.float 2, v1, v2, .int x] r h 90 1596 Q = AW sv 170 1207 [.float 2, v1, v2, .int x] (.int x :: r) h 90 1596 Q := e_pv am_h170 dL_law_1206 rfl rfl rfl rfl
set_option maxHeartbeats 20000 in
theorem x170_1207 : AW sv 170 1207 [.float 2, v1, v2, v3] r h 90 1596 Q = AW sv 170 1208 [.float 2, v1, v2, v3] (.int (5) :: r) h 90 1596 Q := e_iconstv am_h170 dL_law_1207 c_iconst_5
set_option maxHeartbeats 20000 in
theorem x170_1208 : AW sv 170 1208 [.float 2, v1, v2, v3] (.int y :: .int x :: r) h 90 1596 Q = AW sv 170 1209 [.float 2, v1, v2, v3] (.int (x + y) :: r) h 90 1596 Q := e_iadd am_h170 dL_law_1208
set_option maxHeartbeats 20000 in
theorem x170_1209 (hi : am_in x (sv 2).1 = true) : AW sv 170 1209 [.float 2, v1, v2, v3] (.int x :: .float 2 :: r) h 90 1596 Q = AW sv 170 1210 [.float 2, v1, v2, v3] (.int ((sv 2).2 x.toNatClampNeg) :: r) h 90 1596 Q := e_ialx am_h170 dL_law_1209 hi
set_option maxHeartbeats 20000 in
theorem x170_1210 (h8 : am_cs r ≤ 8) : AW sv 170 1210 [.float 2, v1, v2, v3] (.int x4 :: .int x3 :: .int x2 :: .int x1 :: .int x0 :: .ref 71 :: r) (am_toH σ) 90 1596 Q = AM sv 165 [.ref 71, .int x0, .int x1, .int x2, .int x3, .int x4] (am_toH σ) (fun v h1 => AW sv 170 1213 [.float 2, v1, v2, v3] (v.toList ++ r) h1 90 1596 Q) := e_cV (as := [.int x0, .int x1, .int x2, .int x3, .int x4]) am_h170 dL_law_1210 ml_10_149 (by decide) am_h165 rfl is9 rfl rfl ⟨by decide, Nat.le_of_ble_eq_true rfl, am_rcL (by decide) h8⟩
set_option maxHeartbeats 20000 in
theorem x170_1213 : AW sv 170 1213 [.float 2, v1, v2, v3] (.int y :: .int x :: r) h 90 1596 Q = if x = y then AW sv 170 1400 [.float 2, v1, v2, v3] r h 90 1596 Q else AW sv 170 1216 [.float 2, v1, v2, v3] r h 90 1596 Q := e_c_eq am_h170 dL_law_1213 rfl
set_option maxHeartbeats 20000 in
theorem x170_1216 : AW sv 170 1216 [.float 2, v1, v2, v3] r h 90 1596 Q = AW sv 170 1217 [.float 2, v1, v2, v3] (.int (0) :: r) h 90 1596 Q := e_iconstv am_h170 dL_law_1216 c_iconst_0
set_option maxHeartbeats 20000 in
theorem x170_1217 (hz : x = 0 ∨ x = 1) : AW sv 170 1217 [.float 2, v1, v2, v3] [.int x] h 90 1596 Q = Q (some (.int x)) h := e_zret am_h170 dL_law_1217 rfl ⟨rfl, rfl⟩ hz
set_option maxHeartbeats 20000 in
theorem x170_1218 : AW sv 170 1218 [.float 2, .ref a, v2, v3] r h 90 1596 Q = AW sv 170 1219 [.float 2, .ref a, v2, v3] (.ref a :: r) h 90 1596 Q := e_pv am_h170 dL_law_1218 rfl rfl rfl rfl
set_option maxHeartbeats 20000 in
theorem x170_1219 : AW sv 170 1219 [.float 2, v1, v2, v3] r h 90 1596 Q = AW sv 170 1220 [.float 2, v1, v2, v3] (.float 2 :: r) h 90 1596 Q := e_pv am_h170 dL_law_1219 rfl rfl rfl rfl
set_option maxHeartbeats 20000 in
theorem x170_1220 : AW sv 170 1220 [.float 2, v1, v2, .int x] r h 90 1596 Q = AW sv 170 1221 [.float 2, v1, v2, .int x] (.int x :: r) h 90 1596 Q := e_pv am_h170 dL_law_1220 rfl rfl rfl rfl
set_option maxHeartbeats 20000 in
theorem x170_1221 : AW sv 170 1221 [.float 2, v1, v2, v3] r h 90 1596 Q = AW sv 170 1222 [.float 2, v1, v2, v3] (.int (1) :: r) h 90 1596 Q := e_iconstv am_h170 dL_law_1221 c_iconst_1
set_option maxHeartbeats 20000 in
theorem x170_1222 : AW sv 170 1222 [.float 2, v1, v2, v3] (.int y :: .int x :: r) h 90 1596 Q = AW sv 170 1223 [.float 2, v1, v2, v3] (.int (x + y) :: r) h 90 1596 Q := e_iadd am_h170 dL_law_1222
set_option maxHeartbeats 20000 in
theorem x170_1223 (hi : am_in x (sv 2).1 = true) : AW sv 170 1223 [.float 2, v1, v2, v3] (.int x :: .float 2 :: r) h 90 1596 Q = AW sv 170 1224 [.float 2, v1, v2, v3] (.int ((sv 2).2 x.toNatClampNeg) :: r) h 90 1596 Q := e_ialx am_h170 dL_law_1223 hi
set_option maxHeartbeats 20000 in
theorem x170_1224 : AW sv 170 1224 [.float 2, v1, v2, v3] r h 90 1596 Q = AW sv 170 1225 [.float 2, v1, v2, v3] (.float 2 :: r) h 90 1596 Q := e_pv am_h170 dL_law_1224 rfl rfl rfl rfl
set_option maxHeartbeats 20000 in
theorem x170_1225 : AW sv 170 1225 [.float 2, v1, v2, .int x] r h 90 1596 Q = AW sv 170 1226 [.float 2, v1, v2, .int x] (.int x :: r) h 90 1596 Q := e_pv am_h170 dL_law_1225 rfl rfl rfl rfl
set_option maxHeartbeats 20000 in
theorem x170_1226 : AW sv 170 1226 [.float 2, v1, v2, v3] r h 90 1596 Q = AW sv 170 1227 [.float 2, v1, v2, v3] (.int (2) :: r) h 90 1596 Q := e_iconstv am_h170 dL_law_1226 c_iconst_2
set_option maxHeartbeats 20000 in
theorem x170_1227 : AW sv 170 1227 [.float 2, v1, v2, v3] (.int y :: .int x :: r) h 90 1596 Q = AW sv 170 1228 [.float 2, v1, v2, v3] (.int (x + y) :: r) h 90 1596 Q := e_iadd am_h170 dL_law_1227
set_option maxHeartbeats 20000 in
theorem x170_1228 (hi : am_in x (sv 2).1 = true) : AW sv 170 1228 [.float 2, v1, v2, v3] (.int x :: .float 2 :: r) h 90 1596 Q = AW sv 170 1229 [.float 2, v1, v2, v3] (.int ((sv 2).2 x.toNatClampNeg) :: r) h 90 1596 Q := e_ialx am_h170 dL_law_1228 hi
set_option maxHeartbeats 20000 in
theorem x170_1229 : AW sv 170 1229 [.float 2, v1, v2, v3] r h 90 1596 Q = AW sv 170 1230 [.float 2, v1, v2, v3] (.float 2 :: r) h 90 1596 Q := e_pv am_h170 dL_law_1229 rfl rfl rfl rfl
set_option maxHeartbeats 20000 in
theorem x170_1230 : AW sv 170 1230 [.float 2, v1, v2, .int x] r h 90 1596 Q = AW sv 170 1231 [.float 2, v1, v2, .int x] (.int x :: r) h 90 1596 Q := e_pv am_h170 dL_law_1230 rfl rfl rfl rfl
set_option maxHeartbeats 20000 in
theorem x170_1231 : AW sv 170 1231 [.float 2, v1, v2, v3] r h 90 1596 Q = AW sv 170 1232 [.float 2, v1, v2, v3] (.int (3) :: r) h 90 1596 Q := e_iconstv am_h170 dL_law_1231 c_iconst_3
set_option maxHeartbeats 20000 in
theorem x170_1232 : AW sv 170 1232 [.float 2, v1, v2, v3] (.int y :: .int x :: r) h 90 1596 Q = AW sv 170 1233 [.float 2, v1, v2, v3] (.int (x + y) :: r) h 90 1596 Q := e_iadd am_h170 dL_law_1232
set_option maxHeartbeats 20000 in
theorem x170_1233 (hi : am_in x (sv 2).1 = true) : AW sv 170 1233 [.float 2, v1, v2, v3] (.int x :: .float 2 :: r) h 90 1596 Q = AW sv 170 1234 [.float 2, v1, v2, v3] (.int ((sv 2).2 x.toNatClampNeg) :: r) h 90 1596 Q := e_ialx am_h170 dL_law_1233 hi
set_option maxHeartbeats 20000 in
theorem x170_1234 (h8 : am_cs r ≤ 8) : AW sv 170 1234 [.float 2, v1, v2, v3] (.int x2 :: .int x1 :: .int x0 :: .ref 0 :: r) (am_toH σ) 90 1596 Q = AM sv 93 [.ref 0, .int x0, .int x1, .int x2] (am_toH σ) (fun v h1 => AW sv 170 1237 [.float 2, v1, v2, v3] (v.toList ++ r) h1 90 1596 Q) := e_cV (as := [.int x0, .int x1, .int x2]) am_h170 dL_law_1234 ml_10_150 (by decide) am_h93 rfl is8 rfl rfl ⟨by decide, Nat.le_of_ble_eq_true rfl, am_rcL (by decide) h8⟩
set_option maxHeartbeats 20000 in
theorem x170_1237 : AW sv 170 1237 [.float 2, v1, .ref a, v3] r h 90 1596 Q = AW sv 170 1238 [.float 2, v1, .ref a, v3] (.ref a :: r) h 90 1596 Q := e_pv am_h170 dL_law_1237 rfl rfl rfl rfl
set_option maxHeartbeats 20000 in
theorem x170_1238 : AW sv 170 1238 [.float 2, v1, v2, v3] r h 90 1596 Q = AW sv 170 1239 [.float 2, v1, v2, v3] (.float 2 :: r) h 90 1596 Q := e_pv am_h170 dL_law_1238 rfl rfl rfl rfl
set_option maxHeartbeats 20000 in
theorem x170_1239 : AW sv 170 1239 [.float 2, v1, v2, .int x] r h 90 1596 Q = AW sv 170 1240 [.float 2, v1, v2, .int x] (.int x :: r) h 90 1596 Q := e_pv am_h170 dL_law_1239 rfl rfl rfl rfl
set_option maxHeartbeats 20000 in
theorem x170_1240 : AW sv 170 1240 [.float 2, v1, v2, v3] r h 90 1596 Q = AW sv 170 1241 [.float 2, v1, v2, v3] (.int (1) :: r) h 90 1596 Q := e_iconstv am_h170 dL_law_1240 c_iconst_1
set_option maxHeartbeats 20000 in
theorem x170_1241 : AW sv 170 1241 [.float 2, v1, v2, v3] (.int y :: .int x :: r) h 90 1596 Q = AW sv 170 1242 [.float 2, v1, v2, v3] (.int (x + y) :: r) h 90 1596 Q := e_iadd am_h170 dL_law_1241
set_option maxHeartbeats 20000 in
theorem x170_1242 (hi : am_in x (sv 2).1 = true) : AW sv 170 1242 [.float 2, v1, v2, v3] (.int x :: .float 2 :: r) h 90 1596 Q = AW sv 170 1243 [.float 2, v1, v2, v3] (.int ((sv 2).2 x.toNatClampNeg) :: r) h 90 1596 Q := e_ialx am_h170 dL_law_1242 hi
set_option maxHeartbeats 20000 in
theorem x170_1243 : AW sv 170 1243 [.float 2, v1, v2, v3] r h 90 1596 Q = AW sv 170 1244 [.float 2, v1, v2, v3] (.float 2 :: r) h 90 1596 Q := e_pv am_h170 dL_law_1243 rfl rfl rfl rfl
set_option maxHeartbeats 20000 in
theorem x170_1244 : AW sv 170 1244 [.float 2, v1, v2, .int x] r h 90 1596 Q = AW sv 170 1245 [.float 2, v1, v2, .int x] (.int x :: r) h 90 1596 Q := e_pv am_h170 dL_law_1244 rfl rfl rfl rfl
set_option maxHeartbeats 20000 in
theorem x170_1245 : AW sv 170 1245 [.float 2, v1, v2, v3] r h 90 1596 Q = AW sv 170 1246 [.float 2, v1, v2, v3] (.int (2) :: r) h 90 1596 Q := e_iconstv am_h170 dL_law_1245 c_iconst_2
set_option maxHeartbeats 20000 in
theorem x170_1246 : AW sv 170 1246 [.float 2, v1, v2, v3] (.int y :: .int x :: r) h 90 1596 Q = AW sv 170 1247 [.float 2, v1, v2, v3] (.int (x + y) :: r) h 90 1596 Q := e_iadd am_h170 dL_law_1246
set_option maxHeartbeats 20000 in
theorem x170_1247 (hi : am_in x (sv 2).1 = true) : AW sv 170 1247 [.float 2, v1, v2, v3] (.int x :: .float 2 :: r) h 90 1596 Q = AW sv 170 1248 [.float 2, v1, v2, v3] (.int ((sv 2).2 x.toNatClampNeg) :: r) h 90 1596 Q := e_ialx am_h170 dL_law_1247 hi
set_option maxHeartbeats 20000 in
theorem x170_1248 : AW sv 170 1248 [.float 2, v1, v2, v3] r h 90 1596 Q = AW sv 170 1249 [.float 2, v1, v2, v3] (.float 2 :: r) h 90 1596 Q := e_pv am_h170 dL_law_1248 rfl rfl rfl rfl
set_option maxHeartbeats 20000 in
theorem x170_1249 : AW sv 170 1249 [.float 2, v1, v2, .int x] r h 90 1596 Q = AW sv 170 1250 [.float 2, v1, v2, .int x] (.int x :: r) h 90 1596 Q := e_pv am_h170 dL_law_1249 rfl rfl rfl rfl
set_option maxHeartbeats 20000 in
theorem x170_1250 : AW sv 170 1250 [.float 2, v1, v2, v3] r h 90 1596 Q = AW sv 170 1251 [.float 2, v1, v2, v3] (.int (3) :: r) h 90 1596 Q := e_iconstv am_h170 dL_law_1250 c_iconst_3
set_option maxHeartbeats 20000 in
theorem x170_1251 : AW sv 170 1251 [.float 2, v1, v2, v3] (.int y :: .int x :: r) h 90 1596 Q = AW sv 170 1252 [.float 2, v1, v2, v3] (.int (x + y) :: r) h 90 1596 Q := e_iadd am_h170 dL_law_1251
set_option maxHeartbeats 20000 in
theorem x170_1252 (hi : am_in x (sv 2).1 = true) : AW sv 170 1252 [.float 2, v1, v2, v3] (.int x :: .float 2 :: r) h 90 1596 Q = AW sv 170 1253 [.float 2, v1, v2, v3] (.int ((sv 2).2 x.toNatClampNeg) :: r) h 90 1596 Q := e_ialx am_h170 dL_law_1252 hi
set_option maxHeartbeats 20000 in
theorem x170_1253 (h8 : am_cs r ≤ 8) : AW sv 170 1253 [.float 2, v1, v2, v3] (.int x2 :: .int x1 :: .int x0 :: .ref 71 :: r) (am_toH σ) 90 1596 Q = AM sv 166 [.ref 71, .int x0, .int x1, .int x2] (am_toH σ) (fun v h1 => AW sv 170 1256 [.float 2, v1, v2, v3] (v.toList ++ r) h1 90 1596 Q) := e_cV (as := [.int x0, .int x1, .int x2]) am_h170 dL_law_1253 ml_10_153 (by decide) am_h166 rfl is9 rfl rfl ⟨by decide, Nat.le_of_ble_eq_true rfl, am_rcL (by decide) h8⟩
set_option maxHeartbeats 20000 in
theorem x170_1256 : AW sv 170 1256 [.float 2, v1, v2, v3] (.int y :: .int x :: r) h 90 1596 Q = if x = y then AW sv 170 1400 [.float 2, v1, v2, v3] r h 90 1596 Q else AW sv 170 1259 [.float 2, v1, v2, v3] r h 90 1596 Q := e_c_eq am_h170 dL_law_1256 rfl
set_option maxHeartbeats 20000 in
theorem x170_1259 : AW sv 170 1259 [.float 2, v1, v2, v3] r h 90 1596 Q = AW sv 170 1260 [.float 2, v1, v2, v3] (.int (0) :: r) h 90 1596 Q := e_iconstv am_h170 dL_law_1259 c_iconst_0
set_option maxHeartbeats 20000 in
theorem x170_1260 (hz : x = 0 ∨ x = 1) : AW sv 170 1260 [.float 2, v1, v2, v3] [.int x] h 90 1596 Q = Q (some (.int x)) h := e_zret am_h170 dL_law_1260 rfl ⟨rfl, rfl⟩ hz
set_option maxHeartbeats 20000 in
theorem x170_1261 : AW sv 170 1261 [.float 2, .ref a, v2, v3] r h 90 1596 Q = AW sv 170 1262 [.float 2, .ref a, v2, v3] (.ref a :: r) h 90 1596 Q := e_pv am_h170 dL_law_1261 rfl rfl rfl rfl
set_option maxHeartbeats 20000 in
theorem x170_1262 : AW sv 170 1262 [.float 2, v1, v2, v3] r h 90 1596 Q = AW sv 170 1263 [.float 2, v1, v2, v3] (.float 2 :: r) h 90 1596 Q := e_pv am_h170 dL_law_1262 rfl rfl rfl rfl
set_option maxHeartbeats 20000 in
theorem x170_1263 : AW sv 170 1263 [.float 2, v1, v2, .int x] r h 90 1596 Q = AW sv 170 1264 [.float 2, v1, v2, .int x] (.int x :: r) h 90 1596 Q := e_pv am_h170 dL_law_1263 rfl rfl rfl rfl
set_option maxHeartbeats 20000 in
theorem x170_1264 : AW sv 170 1264 [.float 2, v1, v2, v3] r h 90 1596 Q = AW sv 170 1265 [.float 2, v1, v2, v3] (.int (1) :: r) h 90 1596 Q := e_iconstv am_h170 dL_law_1264 c_iconst_1
set_option maxHeartbeats 20000 in
theorem x170_1265 : AW sv 170 1265 [.float 2, v1, v2, v3] (.int y :: .int x :: r) h 90 1596 Q = AW sv 170 1266 [.float 2, v1, v2, v3] (.int (x + y) :: r) h 90 1596 Q := e_iadd am_h170 dL_law_1265
set_option maxHeartbeats 20000 in
theorem x170_1266 (hi : am_in x (sv 2).1 = true) : AW sv 170 1266 [.float 2, v1, v2, v3] (.int x :: .float 2 :: r) h 90 1596 Q = AW sv 170 1267 [.float 2, v1, v2, v3] (.int ((sv 2).2 x.toNatClampNeg) :: r) h 90 1596 Q := e_ialx am_h170 dL_law_1266 hi
set_option maxHeartbeats 20000 in
theorem x170_1267 (h8 : am_cs r ≤ 8) : AW sv 170 1267 [.float 2, v1, v2, v3] (.int x0 :: .ref 0 :: r) (am_toH σ) 90 1596 Q = AM sv 94 [.ref 0, .int x0] (am_toH σ) (fun v h1 => AW sv 170 1270 [.float 2, v1, v2, v3] (v.toList ++ r) h1 90 1596 Q) := e_cV (as := [.int x0]) am_h170 dL_law_1267 ml_10_154 (by decide) am_h94 rfl is8 rfl rfl ⟨by decide, Nat.le_of_ble_eq_true rfl, am_rcL (by decide) h8⟩
set_option maxHeartbeats 20000 in
theorem x170_1270 : AW sv 170 1270 [.float 2, v1, .ref a, v3] r h 90 1596 Q = AW sv 170 1271 [.float 2, v1, .ref a, v3] (.ref a :: r) h 90 1596 Q := e_pv am_h170 dL_law_1270 rfl rfl rfl rfl
set_option maxHeartbeats 20000 in
theorem x170_1271 : AW sv 170 1271 [.float 2, v1, v2, v3] r h 90 1596 Q = AW sv 170 1272 [.float 2, v1, v2, v3] (.float 2 :: r) h 90 1596 Q := e_pv am_h170 dL_law_1271 rfl rfl rfl rfl
set_option maxHeartbeats 20000 in
theorem x170_1272 : AW sv 170 1272 [.float 2, v1, v2, .int x] r h 90 1596 Q = AW sv 170 1273 [.float 2, v1, v2, .int x] (.int x :: r) h 90 1596 Q := e_pv am_h170 dL_law_1272 rfl rfl rfl rfl
set_option maxHeartbeats 20000 in
theorem x170_1273 : AW sv 170 1273 [.float 2, v1, v2, v3] r h 90 1596 Q = AW sv 170 1274 [.float 2, v1, v2, v3] (.int (1) :: r) h 90 1596 Q := e_iconstv am_h170 dL_law_1273 c_iconst_1
set_option maxHeartbeats 20000 in
theorem x170_1274 : AW sv 170 1274 [.float 2, v1, v2, v3] (.int y :: .int x :: r) h 90 1596 Q = AW sv 170 1275 [.float 2, v1, v2, v3] (.int (x + y) :: r) h 90 1596 Q := e_iadd am_h170 dL_law_1274
set_option maxHeartbeats 20000 in
theorem x170_1275 (hi : am_in x (sv 2).1 = true) : AW sv 170 1275 [.float 2, v1, v2, v3] (.int x :: .float 2 :: r) h 90 1596 Q = AW sv 170 1276 [.float 2, v1, v2, v3] (.int ((sv 2).2 x.toNatClampNeg) :: r) h 90 1596 Q := e_ialx am_h170 dL_law_1275 hi
set_option maxHeartbeats 20000 in
theorem x170_1276 (h8 : am_cs r ≤ 8) : AW sv 170 1276 [.float 2, v1, v2, v3] (.int x0 :: .ref 71 :: r) (am_toH σ) 90 1596 Q = AM sv 167 [.ref 71, .int x0] (am_toH σ) (fun v h1 => AW sv 170 1279 [.float 2, v1, v2, v3] (v.toList ++ r) h1 90 1596 Q) := e_cV (as := [.int x0]) am_h170 dL_law_1276 ml_10_157 (by decide) am_h167 rfl is9 rfl rfl ⟨by decide, Nat.le_of_ble_eq_true rfl, am_rcL (by decide) h8⟩
set_option maxHeartbeats 20000 in
theorem x170_1279 : AW sv 170 1279 [.float 2, v1, v2, v3] (.int y :: .int x :: r) h 90 1596 Q = if x = y then AW sv 170 1400 [.float 2, v1, v2, v3] r h 90 1596 Q else AW sv 170 1282 [.float 2, v1, v2, v3] r h 90 1596 Q := e_c_eq am_h170 dL_law_1279 rfl
set_option maxHeartbeats 20000 in
theorem x170_1282 : AW sv 170 1282 [.float 2, v1, v2, v3] r h 90 1596 Q = AW sv 170 1283 [.float 2, v1, v2, v3] (.int (0) :: r) h 90 1596 Q := e_iconstv am_h170 dL_law_1282 c_iconst_0
set_option maxHeartbeats 20000 in
theorem x170_1283 (hz : x = 0 ∨ x = 1) : AW sv 170 1283 [.float 2, v1, v2, v3] [.int x] h 90 1596 Q = Q (some (.int x)) h := e_zret am_h170 dL_law_1283 rfl ⟨rfl, rfl⟩ hz
set_option maxHeartbeats 20000 in
theorem x170_1284 : AW sv 170 1284 [.float 2, .ref a, v2, v3] r h 90 1596 Q = AW sv 170 1285 [.float 2, .ref a, v2, v3] (.ref a :: r) h 90 1596 Q := e_pv am_h170 dL_law_1284 rfl rfl rfl rfl
set_option maxHeartbeats 20000 in
theorem x170_1285 : AW sv 170 1285 [.float 2, v1, v2, v3] r h 90 1596 Q = AW sv 170 1286 [.float 2, v1, v2, v3] (.float 2 :: r) h 90 1596 Q := e_pv am_h170 dL_law_1285 rfl rfl rfl rfl
set_option maxHeartbeats 20000 in
theorem x170_1286 : AW sv 170 1286 [.float 2, v1, v2, .int x] r h 90 1596 Q = AW sv 170 1287 [.float 2, v1, v2, .int x] (.int x :: r) h 90 1596 Q := e_pv am_h170 dL_law_1286 rfl rfl rfl rfl
set_option maxHeartbeats 20000 in
theorem x170_1287 : AW sv 170 1287 [.float 2, v1, v2, v3] r h 90 1596 Q = AW sv 170 1288 [.float 2, v1, v2, v3] (.int (1) :: r) h 90 1596 Q := e_iconstv am_h170 dL_law_1287 c_iconst_1
set_option maxHeartbeats 20000 in
theorem x170_1288 : AW sv 170 1288 [.float 2, v1, v2, v3] (.int y :: .int x :: r) h 90 1596 Q = AW sv 170 1289 [.float 2, v1, v2, v3] (.int (x + y) :: r) h 90 1596 Q := e_iadd am_h170 dL_law_1288
set_option maxHeartbeats 20000 in
theorem x170_1289 (hi : am_in x (sv 2).1 = true) : AW sv 170 1289 [.float 2, v1, v2, v3] (.int x :: .float 2 :: r) h 90 1596 Q = AW sv 170 1290 [.float 2, v1, v2, v3] (.int ((sv 2).2 x.toNatClampNeg) :: r) h 90 1596 Q := e_ialx am_h170 dL_law_1289 hi
set_option maxHeartbeats 20000 in
theorem x170_1290 : AW sv 170 1290 [.float 2, v1, v2, v3] r h 90 1596 Q = AW sv 170 1291 [.float 2, v1, v2, v3] (.float 2 :: r) h 90 1596 Q := e_pv am_h170 dL_law_1290 rfl rfl rfl rfl
set_option maxHeartbeats 20000 in
theorem x170_1291 : AW sv 170 1291 [.float 2, v1, v2, .int x] r h 90 1596 Q = AW sv 170 1292 [.float 2, v1, v2, .int x] (.int x :: r) h 90 1596 Q := e_pv am_h170 dL_law_1291 rfl rfl rfl rfl
set_option maxHeartbeats 20000 in
theorem x170_1292 : AW sv 170 1292 [.float 2, v1, v2, v3] r h 90 1596 Q = AW sv 170 1293 [.float 2, v1, v2, v3] (.int (2) :: r) h 90 1596 Q := e_iconstv am_h170 dL_law_1292 c_iconst_2
set_option maxHeartbeats 20000 in
theorem x170_1293 : AW sv 170 1293 [.float 2, v1, v2, v3] (.int y :: .int x :: r) h 90 1596 Q = AW sv 170 1294 [.float 2, v1, v2, v3] (.int (x + y) :: r) h 90 1596 Q := e_iadd am_h170 dL_law_1293
set_option maxHeartbeats 20000 in
theorem x170_1294 (hi : am_in x (sv 2).1 = true) : AW sv 170 1294 [.float 2, v1, v2, v3] (.int x :: .float 2 :: r) h 90 1596 Q = AW sv 170 1295 [.float 2, v1, v2, v3] (.int ((sv 2).2 x.toNatClampNeg) :: r) h 90 1596 Q := e_ialx am_h170 dL_law_1294 hi
set_option maxHeartbeats 20000 in
theorem x170_1295 : AW sv 170 1295 [.float 2, v1, v2, v3] r h 90 1596 Q = AW sv 170 1296 [.float 2, v1, v2, v3] (.float 2 :: r) h 90 1596 Q := e_pv am_h170 dL_law_1295 rfl rfl rfl rfl
set_option maxHeartbeats 20000 in
theorem x170_1296 : AW sv 170 1296 [.float 2, v1, v2, .int x] r h 90 1596 Q = AW sv 170 1297 [.float 2, v1, v2, .int x] (.int x :: r) h 90 1596 Q := e_pv am_h170 dL_law_1296 rfl rfl rfl rfl
set_option maxHeartbeats 20000 in
theorem x170_1297 : AW sv 170 1297 [.float 2, v1, v2, v3] r h 90 1596 Q = AW sv 170 1298 [.float 2, v1, v2, v3] (.int (3) :: r) h 90 1596 Q := e_iconstv am_h170 dL_law_1297 c_iconst_3
set_option maxHeartbeats 20000 in
theorem x170_1298 : AW sv 170 1298 [.float 2, v1, v2, v3] (.int y :: .int x :: r) h 90 1596 Q = AW sv 170 1299 [.float 2, v1, v2, v3] (.int (x + y) :: r) h 90 1596 Q := e_iadd am_h170 dL_law_1298
set_option maxHeartbeats 20000 in
theorem x170_1299 (hi : am_in x (sv 2).1 = true) : AW sv 170 1299 [.float 2, v1, v2, v3] (.int x :: .float 2 :: r) h 90 1596 Q = AW sv 170 1300 [.float 2, v1, v2, v3] (.int ((sv 2).2 x.toNatClampNeg) :: r) h 90 1596 Q := e_ialx am_h170 dL_law_1299 hi
set_option maxHeartbeats 20000 in
theorem x170_1300 : AW sv 170 1300 [.float 2, v1, v2, v3] r h 90 1596 Q = AW sv 170 1301 [.float 2, v1, v2, v3] (.float 2 :: r) h 90 1596 Q := e_pv am_h170 dL_law_1300 rfl rfl rfl rfl
set_option maxHeartbeats 20000 in
theorem x170_1301 : AW sv 170 1301 [.float 2, v1, v2, .int x] r h 90 1596 Q = AW sv 170 1302 [.float 2, v1, v2, .int x] (.int x :: r) h 90 1596 Q := e_pv am_h170 dL_law_1301 rfl rfl rfl rfl
set_option maxHeartbeats 20000 in
theorem x170_1302 : AW sv 170 1302 [.float 2, v1, v2, v3] r h 90 1596 Q = AW sv 170 1303 [.float 2, v1, v2, v3] (.int (4) :: r) h 90 1596 Q := e_iconstv am_h170 dL_law_1302 c_iconst_4
set_option maxHeartbeats 20000 in
theorem x170_1303 : AW sv 170 1303 [.float 2, v1, v2, v3] (.int y :: .int x :: r) h 90 1596 Q = AW sv 170 1304 [.float 2, v1, v2, v3] (.int (x + y) :: r) h 90 1596 Q := e_iadd am_h170 dL_law_1303
set_option maxHeartbeats 20000 in
theorem x170_1304 (hi : am_in x (sv 2).1 = true) : AW sv 170 1304 [.float 2, v1, v2, v3] (.int x :: .float 2 :: r) h 90 1596 Q = AW sv 170 1305 [.float 2, v1, v2, v3] (.int ((sv 2).2 x.toNatClampNeg) :: r) h 90 1596 Q := e_ialx am_h170 dL_law_1304 hi
set_option maxHeartbeats 20000 in
theorem x170_1305 (h8 : am_cs r ≤ 8) : AW sv 170 1305 [.float 2, v1, v2, v3] (.int x3 :: .int x2 :: .int x1 :: .int x0 :: .ref 0 :: r) (am_toH σ) 90 1596 Q = AM sv 95 [.ref 0, .int x0, .int x1, .int x2, .int x3] (am_toH σ) (fun v h1 => AW sv 170 1308 [.float 2, v1, v2, v3] (v.toList ++ r) h1 90 1596 Q) := e_cV (as := [.int x0, .int x1, .int x2, .int x3]) am_h170 dL_law_1305 ml_10_158 (by decide) am_h95 rfl is8 rfl rfl ⟨by decide, Nat.le_of_ble_eq_true rfl, am_rcL (by decide) h8⟩
set_option maxHeartbeats 20000 in
theorem x170_1308 : AW sv 170 1308 [.float 2, v1, .ref a, v3] r h 90 1596 Q = AW sv 170 1309 [.float 2, v1, .ref a, v3] (.ref a :: r) h 90 1596 Q := e_pv am_h170 dL_law_1308 rfl rfl rfl rfl
set_option maxHeartbeats 20000 in
theorem x170_1309 : AW sv 170 1309 [.float 2, v1, v2, v3] r h 90 1596 Q = AW sv 170 1310 [.float 2, v1, v2, v3] (.float 2 :: r) h 90 1596 Q := e_pv am_h170 dL_law_1309 rfl rfl rfl rfl
set_option maxHeartbeats 20000 in
theorem x170_1310 : AW sv 170 1310 [.float 2, v1, v2, .int x] r h 90 1596 Q = AW sv 170 1311 [.float 2, v1, v2, .int x] (.int x :: r) h 90 1596 Q := e_pv am_h170 dL_law_1310 rfl rfl rfl rfl
set_option maxHeartbeats 20000 in
theorem x170_1311 : AW sv 170 1311 [.float 2, v1, v2, v3] r h 90 1596 Q = AW sv 170 1312 [.float 2, v1, v2, v3] (.int (1) :: r) h 90 1596 Q := e_iconstv am_h170 dL_law_1311 c_iconst_1
set_option maxHeartbeats 20000 in
theorem x170_1312 : AW sv 170 1312 [.float 2, v1, v2, v3] (.int y :: .int x :: r) h 90 1596 Q = AW sv 170 1313 [.float 2, v1, v2, v3] (.int (x + y) :: r) h 90 1596 Q := e_iadd am_h170 dL_law_1312
set_option maxHeartbeats 20000 in
theorem x170_1313 (hi : am_in x (sv 2).1 = true) : AW sv 170 1313 [.float 2, v1, v2, v3] (.int x :: .float 2 :: r) h 90 1596 Q = AW sv 170 1314 [.float 2, v1, v2, v3] (.int ((sv 2).2 x.toNatClampNeg) :: r) h 90 1596 Q := e_ialx am_h170 dL_law_1313 hi
set_option maxHeartbeats 20000 in
theorem x170_1314 : AW sv 170 1314 [.float 2, v1, v2, v3] r h 90 1596 Q = AW sv 170 1315 [.float 2, v1, v2, v3] (.float 2 :: r) h 90 1596 Q := e_pv am_h170 dL_law_1314 rfl rfl rfl rfl
set_option maxHeartbeats 20000 in
theorem x170_1315 : AW sv 170 1315 [.float 2, v1, v2, .int x] r h 90 1596 Q = AW sv 170 1316 [.float 2, v1, v2, .int x] (.int x :: r) h 90 1596 Q := e_pv am_h170 dL_law_1315 rfl rfl rfl rfl
set_option maxHeartbeats 20000 in
theorem x170_1316 : AW sv 170 1316 [.float 2, v1, v2, v3] r h 90 1596 Q = AW sv 170 1317 [.float 2, v1, v2, v3] (.int (2) :: r) h 90 1596 Q := e_iconstv am_h170 dL_law_1316 c_iconst_2
set_option maxHeartbeats 20000 in
theorem x170_1317 : AW sv 170 1317 [.float 2, v1, v2, v3] (.int y :: .int x :: r) h 90 1596 Q = AW sv 170 1318 [.float 2, v1, v2, v3] (.int (x + y) :: r) h 90 1596 Q := e_iadd am_h170 dL_law_1317
set_option maxHeartbeats 20000 in
theorem x170_1318 (hi : am_in x (sv 2).1 = true) : AW sv 170 1318 [.float 2, v1, v2, v3] (.int x :: .float 2 :: r) h 90 1596 Q = AW sv 170 1319 [.float 2, v1, v2, v3] (.int ((sv 2).2 x.toNatClampNeg) :: r) h 90 1596 Q := e_ialx am_h170 dL_law_1318 hi
set_option maxHeartbeats 20000 in
theorem x170_1319 : AW sv 170 1319 [.float 2, v1, v2, v3] r h 90 1596 Q = AW sv 170 1320 [.float 2, v1, v2, v3] (.float 2 :: r) h 90 1596 Q := e_pv am_h170 dL_law_1319 rfl rfl rfl rfl
set_option maxHeartbeats 20000 in
theorem x170_1320 : AW sv 170 1320 [.float 2, v1, v2, .int x] r h 90 1596 Q = AW sv 170 1321 [.float 2, v1, v2, .int x] (.int x :: r) h 90 1596 Q := e_pv am_h170 dL_law_1320 rfl rfl rfl rfl
set_option maxHeartbeats 20000 in
theorem x170_1321 : AW sv 170 1321 [.float 2, v1, v2, v3] r h 90 1596 Q = AW sv 170 1322 [.float 2, v1, v2, v3] (.int (3) :: r) h 90 1596 Q := e_iconstv am_h170 dL_law_1321 c_iconst_3
set_option maxHeartbeats 20000 in
theorem x170_1322 : AW sv 170 1322 [.float 2, v1, v2, v3] (.int y :: .int x :: r) h 90 1596 Q = AW sv 170 1323 [.float 2, v1, v2, v3] (.int (x + y) :: r) h 90 1596 Q := e_iadd am_h170 dL_law_1322
set_option maxHeartbeats 20000 in
theorem x170_1323 (hi : am_in x (sv 2).1 = true) : AW sv 170 1323 [.float 2, v1, v2, v3] (.int x :: .float 2 :: r) h 90 1596 Q = AW sv 170 1324 [.float 2, v1, v2, v3] (.int ((sv 2).2 x.toNatClampNeg) :: r) h 90 1596 Q := e_ialx am_h170 dL_law_1323 hi
set_option maxHeartbeats 20000 in
theorem x170_1324 : AW sv 170 1324 [.float 2, v1, v2, v3] r h 90 1596 Q = AW sv 170 1325 [.float 2, v1, v2, v3] (.float 2 :: r) h 90 1596 Q := e_pv am_h170 dL_law_1324 rfl rfl rfl rfl
set_option maxHeartbeats 20000 in
theorem x170_1325 : AW sv 170 1325 [.float 2, v1, v2, .int x] r h 90 1596 Q = AW sv 170 1326 [.float 2, v1, v2, .int x] (.int x :: r) h 90 1596 Q := e_pv am_h170 dL_law_1325 rfl rfl rfl rfl
set_option maxHeartbeats 20000 in
theorem x170_1326 : AW sv 170 1326 [.float 2, v1, v2, v3] r h 90 1596 Q = AW sv 170 1327 [.float 2, v1, v2, v3] (.int (4) :: r) h 90 1596 Q := e_iconstv am_h170 dL_law_1326 c_iconst_4
set_option maxHeartbeats 20000 in
theorem x170_1327 : AW sv 170 1327 [.float 2, v1, v2, v3] (.int y :: .int x :: r) h 90 1596 Q = AW sv 170 1328 [.float 2, v1, v2, v3] (.int (x + y) :: r) h 90 1596 Q := e_iadd am_h170 dL_law_1327
set_option maxHeartbeats 20000 in
theorem x170_1328 (hi : am_in x (sv 2).1 = true) : AW sv 170 1328 [.float 2, v1, v2, v3] (.int x :: .float 2 :: r) h 90 1596 Q = AW sv 170 1329 [.float 2, v1, v2, v3] (.int ((sv 2).2 x.toNatClampNeg) :: r) h 90 1596 Q := e_ialx am_h170 dL_law_1328 hi
set_option maxHeartbeats 20000 in
theorem x170_1329 (h8 : am_cs r ≤ 8) : AW sv 170 1329 [.float 2, v1, v2, v3] (.int x3 :: .int x2 :: .int x1 :: .int x0 :: .ref 71 :: r) (am_toH σ) 90 1596 Q = AM sv 168 [.ref 71, .int x0, .int x1, .int x2, .int x3] (am_toH σ) (fun v h1 => AW sv 170 1332 [.float 2, v1, v2, v3] (v.toList ++ r) h1 90 1596 Q) := e_cV (as := [.int x0, .int x1, .int x2, .int x3]) am_h170 dL_law_1329 ml_10_161 (by decide) am_h168 rfl is9 rfl rfl ⟨by decide, Nat.le_of_ble_eq_true rfl, am_rcL (by decide) h8⟩
set_option maxHeartbeats 20000 in
theorem x170_1332 : AW sv 170 1332 [.float 2, v1, v2, v3] (.int y :: .int x :: r) h 90 1596 Q = if x = y then AW sv 170 1400 [.float 2, v1, v2, v3] r h 90 1596 Q else AW sv 170 1335 [.float 2, v1, v2, v3] r h 90 1596 Q := e_c_eq am_h170 dL_law_1332 rfl
set_option maxHeartbeats 20000 in
theorem x170_1335 : AW sv 170 1335 [.float 2, v1, v2, v3] r h 90 1596 Q = AW sv 170 1336 [.float 2, v1, v2, v3] (.int (0) :: r) h 90 1596 Q := e_iconstv am_h170 dL_law_1335 c_iconst_0
set_option maxHeartbeats 20000 in
theorem x170_1336 (hz : x = 0 ∨ x = 1) : AW sv 170 1336 [.float 2, v1, v2, v3] [.int x] h 90 1596 Q = Q (some (.int x)) h := e_zret am_h170 dL_law_1336 rfl ⟨rfl, rfl⟩ hz
set_option maxHeartbeats 20000 in
theorem x170_1337 : AW sv 170 1337 [.float 2, .ref a, v2, v3] r h 90 1596 Q = AW sv 170 1338 [.float 2, .ref a, v2, v3] (.ref a :: r) h 90 1596 Q := e_pv am_h170 dL_law_1337 rfl rfl rfl rfl
set_option maxHeartbeats 20000 in
theorem x170_1338 : AW sv 170 1338 [.float 2, v1, v2, v3] r h 90 1596 Q = AW sv 170 1339 [.float 2, v1, v2, v3] (.float 2 :: r) h 90 1596 Q := e_pv am_h170 dL_law_1338 rfl rfl rfl rfl
set_option maxHeartbeats 20000 in
theorem x170_1339 : AW sv 170 1339 [.float 2, v1, v2, .int x] r h 90 1596 Q = AW sv 170 1340 [.float 2, v1, v2, .int x] (.int x :: r) h 90 1596 Q := e_pv am_h170 dL_law_1339 rfl rfl rfl rfl
set_option maxHeartbeats 20000 in
theorem x170_1340 : AW sv 170 1340 [.float 2, v1, v2, v3] r h 90 1596 Q = AW sv 170 1341 [.float 2, v1, v2, v3] (.int (1) :: r) h 90 1596 Q := e_iconstv am_h170 dL_law_1340 c_iconst_1
set_option maxHeartbeats 20000 in
theorem x170_1341 : AW sv 170 1341 [.float 2, v1, v2, v3] (.int y :: .int x :: r) h 90 1596 Q = AW sv 170 1342 [.float 2, v1, v2, v3] (.int (x + y) :: r) h 90 1596 Q := e_iadd am_h170 dL_law_1341
set_option maxHeartbeats 20000 in
theorem x170_1342 (hi : am_in x (sv 2).1 = true) : AW sv 170 1342 [.float 2, v1, v2, v3] (.int x :: .float 2 :: r) h 90 1596 Q = AW sv 170 1343 [.float 2, v1, v2, v3] (.int ((sv 2).2 x.toNatClampNeg) :: r) h 90 1596 Q := e_ialx am_h170 dL_law_1342 hi
set_option maxHeartbeats 20000 in
theorem x170_1343 : AW sv 170 1343 [.float 2, v1, v2, v3] r h 90 1596 Q = AW sv 170 1344 [.float 2, v1, v2, v3] (.float 2 :: r) h 90 1596 Q := e_pv am_h170 dL_law_1343 rfl rfl rfl rfl
set_option maxHeartbeats 20000 in
theorem x170_1344 : AW sv 170 1344 [.float 2, v1, v2, .int x] r h 90 1596 Q = AW sv 170 1345 [.float 2, v1, v2, .int x] (.int x :: r) h 90 1596 Q := e_pv am_h170 dL_law_1344 rfl rfl rfl rfl
set_option maxHeartbeats 20000 in
theorem x170_1345 : AW sv 170 1345 [.float 2, v1, v2, v3] r h 90 1596 Q = AW sv 170 1346 [.float 2, v1, v2, v3] (.int (2) :: r) h 90 1596 Q := e_iconstv am_h170 dL_law_1345 c_iconst_2
set_option maxHeartbeats 20000 in
theorem x170_1346 : AW sv 170 1346 [.float 2, v1, v2, v3] (.int y :: .int x :: r) h 90 1596 Q = AW sv 170 1347 [.float 2, v1, v2, v3] (.int (x + y) :: r) h 90 1596 Q := e_iadd am_h170 dL_law_1346
set_option maxHeartbeats 20000 in
theorem x170_1347 (hi : am_in x (sv 2).1 = true) : AW sv 170 1347 [.float 2, v1, v2, v3] (.int x :: .float 2 :: r) h 90 1596 Q = AW sv 170 1348 [.float 2, v1, v2, v3] (.int ((sv 2).2 x.toNatClampNeg) :: r) h 90 1596 Q := e_ialx am_h170 dL_law_1347 hi
set_option maxHeartbeats 20000 in
theorem x170_1348 : AW sv 170 1348 [.float 2, v1, v2, v3] r h 90 1596 Q = AW sv 170 1349 [.float 2, v1, v2, v3] (.float 2 :: r) h 90 1596 Q := e_pv am_h170 dL_law_1348 rfl rfl rfl rfl
set_option maxHeartbeats 20000 in
theorem x170_1349 : AW sv 170 1349 [.float 2, v1, v2, .int x] r h 90 1596 Q = AW sv 170 1350 [.float 2, v1, v2, .int x] (.int x :: r) h 90 1596 Q := e_pv am_h170 dL_law_1349 rfl rfl rfl rfl
set_option maxHeartbeats 20000 in
theorem x170_1350 : AW sv 170 1350 [.float 2, v1, v2, v3] r h 90 1596 Q = AW sv 170 1351 [.float 2, v1, v2, v3] (.int (3) :: r) h 90 1596 Q := e_iconstv am_h170 dL_law_1350 c_iconst_3
set_option maxHeartbeats 20000 in
theorem x170_1351 : AW sv 170 1351 [.float 2, v1, v2, v3] (.int y :: .int x :: r) h 90 1596 Q = AW sv 170 1352 [.float 2, v1, v2, v3] (.int (x + y) :: r) h 90 1596 Q := e_iadd am_h170 dL_law_1351
set_option maxHeartbeats 20000 in
theorem x170_1352 (hi : am_in x (sv 2).1 = true) : AW sv 170 1352 [.float 2, v1, v2, v3] (.int x :: .float 2 :: r) h 90 1596 Q = AW sv 170 1353 [.float 2, v1, v2, v3] (.int ((sv 2).2 x.toNatClampNeg) :: r) h 90 1596 Q := e_ialx am_h170 dL_law_1352 hi
set_option maxHeartbeats 20000 in
theorem x170_1353 : AW sv 170 1353 [.float 2, v1, v2, v3] r h 90 1596 Q = AW sv 170 1354 [.float 2, v1, v2, v3] (.float 2 :: r) h 90 1596 Q := e_pv am_h170 dL_law_1353 rfl rfl rfl rfl
set_option maxHeartbeats 20000 in
theorem x170_1354 : AW sv 170 1354 [.float 2, v1, v2, .int x] r h 90 1596 Q = AW sv 170 1355 [.float 2, v1, v2, .int x] (.int x :: r) h 90 1596 Q := e_pv am_h170 dL_law_1354 rfl rfl rfl rfl
set_option maxHeartbeats 20000 in
theorem x170_1355 : AW sv 170 1355 [.float 2, v1, v2, v3] r h 90 1596 Q = AW sv 170 1356 [.float 2, v1, v2, v3] (.int (4) :: r) h 90 1596 Q := e_iconstv am_h170 dL_law_1355 c_iconst_4
set_option maxHeartbeats 20000 in
theorem x170_1356 : AW sv 170 1356 [.float 2, v1, v2, v3] (.int y :: .int x :: r) h 90 1596 Q = AW sv 170 1357 [.float 2, v1, v2, v3] (.int (x + y) :: r) h 90 1596 Q := e_iadd am_h170 dL_law_1356
set_option maxHeartbeats 20000 in
theorem x170_1357 (hi : am_in x (sv 2).1 = true) : AW sv 170 1357 [.float 2, v1, v2, v3] (.int x :: .float 2 :: r) h 90 1596 Q = AW sv 170 1358 [.float 2, v1, v2, v3] (.int ((sv 2).2 x.toNatClampNeg) :: r) h 90 1596 Q := e_ialx am_h170 dL_law_1357 hi
set_option maxHeartbeats 20000 in
theorem x170_1358 : AW sv 170 1358 [.float 2, v1, v2, v3] r h 90 1596 Q = AW sv 170 1359 [.float 2, v1, v2, v3] (.float 2 :: r) h 90 1596 Q := e_pv am_h170 dL_law_1358 rfl rfl rfl rfl
set_option maxHeartbeats 20000 in
theorem x170_1359 : AW sv 170 1359 [.float 2, v1, v2, .int x] r h 90 1596 Q = AW sv 170 1360 [.float 2, v1, v2, .int x] (.int x :: r) h 90 1596 Q := e_pv am_h170 dL_law_1359 rfl rfl rfl rfl
set_option maxHeartbeats 20000 in
theorem x170_1360 : AW sv 170 1360 [.float 2, v1, v2, v3] r h 90 1596 Q = AW sv 170 1361 [.float 2, v1, v2, v3] (.int (5) :: r) h 90 1596 Q := e_iconstv am_h170 dL_law_1360 c_iconst_5
set_option maxHeartbeats 20000 in
theorem x170_1361 : AW sv 170 1361 [.float 2, v1, v2, v3] (.int y :: .int x :: r) h 90 1596 Q = AW sv 170 1362 [.float 2, v1, v2, v3] (.int (x + y) :: r) h 90 1596 Q := e_iadd am_h170 dL_law_1361
set_option maxHeartbeats 20000 in
theorem x170_1362 (hi : am_in x (sv 2).1 = true) : AW sv 170 1362 [.float 2, v1, v2, v3] (.int x :: .float 2 :: r) h 90 1596 Q = AW sv 170 1363 [.float 2, v1, v2, v3] (.int ((sv 2).2 x.toNatClampNeg) :: r) h 90 1596 Q := e_ialx am_h170 dL_law_1362 hi
set_option maxHeartbeats 20000 in
theorem x170_1363 (h8 : am_cs r ≤ 8) : AW sv 170 1363 [.float 2, v1, v2, v3] (.int x4 :: .int x3 :: .int x2 :: .int x1 :: .int x0 :: .ref 0 :: r) (am_toH σ) 90 1596 Q = AM sv 96 [.ref 0, .int x0, .int x1, .int x2, .int x3, .int x4] (am_toH σ) (fun v h1 => AW sv 170 1366 [.float 2, v1, v2, v3] (v.toList ++ r) h1 90 1596 Q) := e_cV (as := [.int x0, .int x1, .int x2, .int x3, .int x4]) am_h170 dL_law_1363 ml_10_162 (by decide) am_h96 rfl is8 rfl rfl ⟨by decide, Nat.le_of_ble_eq_true rfl, am_rcL (by decide) h8⟩
set_option maxHeartbeats 20000 in
theorem x170_1366 : AW sv 170 1366 [.float 2, v1, .ref a, v3] r h 90 1596 Q = AW sv 170 1367 [.float 2, v1, .ref a, v3] (.ref a :: r) h 90 1596 Q := e_pv am_h170 dL_law_1366 rfl rfl rfl rfl
set_option maxHeartbeats 20000 in
theorem x170_1367 : AW sv 170 1367 [.float 2, v1, v2, v3] r h 90 1596 Q = AW sv 170 1368 [.float 2, v1, v2, v3] (.float 2 :: r) h 90 1596 Q := e_pv am_h170 dL_law_1367 rfl rfl rfl rfl
set_option maxHeartbeats 20000 in
theorem x170_1368 : AW sv 170 1368 [.float 2, v1, v2, .int x] r h 90 1596 Q = AW sv 170 1369 [.float 2, v1, v2, .int x] (.int x :: r) h 90 1596 Q := e_pv am_h170 dL_law_1368 rfl rfl rfl rfl
set_option maxHeartbeats 20000 in
theorem x170_1369 : AW sv 170 1369 [.float 2, v1, v2, v3] r h 90 1596 Q = AW sv 170 1370 [.float 2, v1, v2, v3] (.int (1) :: r) h 90 1596 Q := e_iconstv am_h170 dL_law_1369 c_iconst_1
set_option maxHeartbeats 20000 in
theorem x170_1370 : AW sv 170 1370 [.float 2, v1, v2, v3] (.int y :: .int x :: r) h 90 1596 Q = AW sv 170 1371 [.float 2, v1, v2, v3] (.int (x + y) :: r) h 90 1596 Q := e_iadd am_h170 dL_law_1370
set_option maxHeartbeats 20000 in
theorem x170_1371 (hi : am_in x (sv 2).1 = true) : AW sv 170 1371 [.float 2, v1, v2, v3] (.int x :: .float 2 :: r) h 90 1596 Q = AW sv 170 1372 [.float 2, v1, v2, v3] (.int ((sv 2).2 x.toNatClampNeg) :: r) h 90 1596 Q := e_ialx am_h170 dL_law_1371 hi
set_option maxHeartbeats 20000 in
theorem x170_1372 : AW sv 170 1372 [.float 2, v1, v2, v3] r h 90 1596 Q = AW sv 170 1373 [.float 2, v1, v2, v3] (.float 2 :: r) h 90 1596 Q := e_pv am_h170 dL_law_1372 rfl rfl rfl rfl
set_option maxHeartbeats 20000 in
theorem x170_1373 : AW sv 170 1373 [.float 2, v1, v2, .int x] r h 90 1596 Q = AW sv 170 1374 [.float 2, v1, v2, .int x] (.int x :: r) h 90 1596 Q := e_pv am_h170 dL_law_1373 rfl rfl rfl rfl
set_option maxHeartbeats 20000 in
theorem x170_1374 : AW sv 170 1374 [.float 2, v1, v2, v3] r h 90 1596 Q = AW sv 170 1375 [.float 2, v1, v2, v3] (.int (2) :: r) h 90 1596 Q := e_iconstv am_h170 dL_law_1374 c_iconst_2
set_option maxHeartbeats 20000 in
theorem x170_1375 : AW sv 170 1375 [.float 2, v1, v2, v3] (.int y :: .int x :: r) h 90 1596 Q = AW sv 170 1376 [.float 2, v1, v2, v3] (.int (x + y) :: r) h 90 1596 Q := e_iadd am_h170 dL_law_1375
set_option maxHeartbeats 20000 in
theorem x170_1376 (hi : am_in x (sv 2).1 = true) : AW sv 170 1376 [.float 2, v1, v2, v3] (.int x :: .float 2 :: r) h 90 1596 Q = AW sv 170 1377 [.float 2, v1, v2, v3] (.int ((sv 2).2 x.toNatClampNeg) :: r) h 90 1596 Q := e_ialx am_h170 dL_law_1376 hi
set_option maxHeartbeats 20000 in
theorem x170_1377 : AW sv 170 1377 [.float 2, v1, v2, v3] r h 90 1596 Q = AW sv 170 1378 [.float 2, v1, v2, v3] (.float 2 :: r) h 90 1596 Q := e_pv am_h170 dL_law_1377 rfl rfl rfl rfl
set_option maxHeartbeats 20000 in
theorem x170_1378 : AW sv 170 1378 [.float 2, v1, v2, .int x] r h 90 1596 Q = AW sv 170 1379 [.float 2, v1, v2, .int x] (.int x :: r) h 90 1596 Q := e_pv am_h170 dL_law_1378 rfl rfl rfl rfl
set_option maxHeartbeats 20000 in
theorem x170_1379 : AW sv 170 1379 [.float 2, v1, v2, v3] r h 90 1596 Q = AW sv 170 1380 [.float 2, v1, v2, v3] (.int (3) :: r) h 90 1596 Q := e_iconstv am_h170 dL_law_1379 c_iconst_3
set_option maxHeartbeats 20000 in
theorem x170_1380 : AW sv 170 1380 [.float 2, v1, v2, v3] (.int y :: .int x :: r) h 90 1596 Q = AW sv 170 1381 [.float 2, v1, v2, v3] (.int (x + y) :: r) h 90 1596 Q := e_iadd am_h170 dL_law_1380
set_option maxHeartbeats 20000 in
theorem x170_1381 (hi : am_in x (sv 2).1 = true) : AW sv 170 1381 [.float 2, v1, v2, v3] (.int x :: .float 2 :: r) h 90 1596 Q = AW sv 170 1382 [.float 2, v1, v2, v3] (.int ((sv 2).2 x.toNatClampNeg) :: r) h 90 1596 Q := e_ialx am_h170 dL_law_1381 hi
set_option maxHeartbeats 20000 in
theorem x170_1382 : AW sv 170 1382 [.float 2, v1, v2, v3] r h 90 1596 Q = AW sv 170 1383 [.float 2, v1, v2, v3] (.float 2 :: r) h 90 1596 Q := e_pv am_h170 dL_law_1382 rfl rfl rfl rfl
set_option maxHeartbeats 20000 in
theorem x170_1383 : AW sv 170 1383 [.float 2, v1, v2, .int x] r h 90 1596 Q = AW sv 170 1384 [.float 2, v1, v2, .int x] (.int x :: r) h 90 1596 Q := e_pv am_h170 dL_law_1383 rfl rfl rfl rfl
set_option maxHeartbeats 20000 in
theorem x170_1384 : AW sv 170 1384 [.float 2, v1, v2, v3] r h 90 1596 Q = AW sv 170 1385 [.float 2, v1, v2, v3] (.int (4) :: r) h 90 1596 Q := e_iconstv am_h170 dL_law_1384 c_iconst_4
set_option maxHeartbeats 20000 in
theorem x170_1385 : AW sv 170 1385 [.float 2, v1, v2, v3] (.int y :: .int x :: r) h 90 1596 Q = AW sv 170 1386 [.float 2, v1, v2, v3] (.int (x + y) :: r) h 90 1596 Q := e_iadd am_h170 dL_law_1385
set_option maxHeartbeats 20000 in
theorem x170_1386 (hi : am_in x (sv 2).1 = true) : AW sv 170 1386 [.float 2, v1, v2, v3] (.int x :: .float 2 :: r) h 90 1596 Q = AW sv 170 1387 [.float 2, v1, v2, v3] (.int ((sv 2).2 x.toNatClampNeg) :: r) h 90 1596 Q := e_ialx am_h170 dL_law_1386 hi
set_option maxHeartbeats 20000 in
theorem x170_1387 : AW sv 170 1387 [.float 2, v1, v2, v3] r h 90 1596 Q = AW sv 170 1388 [.float 2, v1, v2, v3] (.float 2 :: r) h 90 1596 Q := e_pv am_h170 dL_law_1387 rfl rfl rfl rfl
set_option maxHeartbeats 20000 in
theorem x170_1388 : AW sv 170 1388 [.float 2, v1, v2, .int x] r h 90 1596 Q = AW sv 170 1389 [.float 2, v1, v2, .int x] (.int x :: r) h 90 1596 Q := e_pv am_h170 dL_law_1388 rfl rfl rfl rfl
set_option maxHeartbeats 20000 in
theorem x170_1389 : AW sv 170 1389 [.float 2, v1, v2, v3] r h 90 1596 Q = AW sv 170 1390 [.float 2, v1, v2, v3] (.int (5) :: r) h 90 1596 Q := e_iconstv am_h170 dL_law_1389 c_iconst_5
set_option maxHeartbeats 20000 in
theorem x170_1390 : AW sv 170 1390 [.float 2, v1, v2, v3] (.int y :: .int x :: r) h 90 1596 Q = AW sv 170 1391 [.float 2, v1, v2, v3] (.int (x + y) :: r) h 90 1596 Q := e_iadd am_h170 dL_law_1390
set_option maxHeartbeats 20000 in
theorem x170_1391 (hi : am_in x (sv 2).1 = true) : AW sv 170 1391 [.float 2, v1, v2, v3] (.int x :: .float 2 :: r) h 90 1596 Q = AW sv 170 1392 [.float 2, v1, v2, v3] (.int ((sv 2).2 x.toNatClampNeg) :: r) h 90 1596 Q := e_ialx am_h170 dL_law_1391 hi
set_option maxHeartbeats 20000 in
theorem x170_1392 (h8 : am_cs r ≤ 8) : AW sv 170 1392 [.float 2, v1, v2, v3] (.int x4 :: .int x3 :: .int x2 :: .int x1 :: .int x0 :: .ref 71 :: r) (am_toH σ) 90 1596 Q = AM sv 169 [.ref 71, .int x0, .int x1, .int x2, .int x3, .int x4] (am_toH σ) (fun v h1 => AW sv 170 1395 [.float 2, v1, v2, v3] (v.toList ++ r) h1 90 1596 Q) := e_cV (as := [.int x0, .int x1, .int x2, .int x3, .int x4]) am_h170 dL_law_1392 ml_10_165 (by decide) am_h169 rfl is9 rfl rfl ⟨by decide, Nat.le_of_ble_eq_true rfl, am_rcL (by decide) h8⟩
set_option maxHeartbeats 20000 in
theorem x170_1395 : AW sv 170 1395 [.float 2, v1, v2, v3] (.int y :: .int x :: r) h 90 1596 Q = if x = y then AW sv 170 1400 [.float 2, v1, v2, v3] r h 90 1596 Q else AW sv 170 1398 [.float 2, v1, v2, v3] r h 90 1596 Q := e_c_eq am_h170 dL_law_1395 rfl
set_option maxHeartbeats 20000 in
theorem x170_1398 : AW sv 170 1398 [.float 2, v1, v2, v3] r h 90 1596 Q = AW sv 170 1399 [.float 2, v1, v2, v3] (.int (0) :: r) h 90 1596 Q := e_iconstv am_h170 dL_law_1398 c_iconst_0
set_option maxHeartbeats 20000 in
theorem x170_1399 (hz : x = 0 ∨ x = 1) : AW sv 170 1399 [.float 2, v1, v2, v3] [.int x] h 90 1596 Q = Q (some (.int x)) h := e_zret am_h170 dL_law_1399 rfl ⟨rfl, rfl⟩ hz
set_option maxHeartbeats 20000 in
theorem x170_1400 (hc : v2.category = 1) : AW sv 170 1400 [.float 2, v1, v2, .int x] r h 90 1596 Q = AW sv 170 1403 [.float 2, v1, v2, .int (x + (6))] r h 90 1596 Q := e_pv am_h170 dL_law_1400 rfl rfl rfl (am_inc_of (ls := [.float 2, v1, v2, .int x]) (k := 3) rfl c_iconst_6 (am_c1_of (ls := [.float 2, v1, v2, .int x]) (k := 2) (v := v2) rfl hc))
set_option maxHeartbeats 20000 in
theorem x170_1403 : AW sv 170 1403 [.float 2, v1, v2, v3] r h 90 1596 Q = AW sv 170 18 [.float 2, v1, v2, v3] r h 90 1596 Q := e_goto am_h170 dL_law_1403 rfl
set_option maxHeartbeats 20000 in
theorem x170_1406 : AW sv 170 1406 [.float 2, v1, v2, v3] r h 90 1596 Q = AW sv 170 1407 [.float 2, v1, v2, v3] (.int (1) :: r) h 90 1596 Q := e_iconstv am_h170 dL_law_1406 c_iconst_1
set_option maxHeartbeats 20000 in
theorem x170_1407 (hz : x = 0 ∨ x = 1) : AW sv 170 1407 [.float 2, v1, v2, v3] [.int x] h 90 1596 Q = Q (some (.int x)) h := e_zret am_h170 dL_law_1407 rfl ⟨rfl, rfl⟩ hz
set_option maxHeartbeats 20000 in
theorem x170_33_0 (hx : x.toInt = 0) : AW sv 170 33 [.float 2, v1, v2, v3] (.int x :: r) h 90 1596 Q = AW sv 170 192 [.float 2, v1, v2, v3] r h 90 1596 Q := e_tin (j := 0) am_h170 dL_law_33 (by rw [hx]; rfl) (by decide) rfl rfl
set_option maxHeartbeats 20000 in
theorem x170_33_1 (hx : x.toInt = 1) : AW sv 170 33 [.float 2, v1, v2, v3] (.int x :: r) h 90 1596 Q = AW sv 170 245 [.float 2, v1, v2, v3] r h 90 1596 Q := e_tin (j := 1) am_h170 dL_law_33 (by rw [hx]; rfl) (by decide) rfl rfl
set_option maxHeartbeats 20000 in
theorem x170_33_2 (hx : x.toInt = 2) : AW sv 170 33 [.float 2, v1, v2, v3] (.int x :: r) h 90 1596 Q = AW sv 170 288 [.float 2, v1, v2, v3] r h 90 1596 Q := e_tin (j := 2) am_h170 dL_law_33 (by rw [hx]; rfl) (by decide) rfl rfl
set_option maxHeartbeats 20000 in
theorem x170_33_3 (hx : x.toInt = 3) : AW sv 170 33 [.float 2, v1, v2, v3] (.int x :: r) h 90 1596 Q = AW sv 170 311 [.float 2, v1, v2, v3] r h 90 1596 Q := e_tin (j := 3) am_h170 dL_law_33 (by rw [hx]; rfl) (by decide) rfl rfl
set_option maxHeartbeats 20000 in
theorem x170_33_4 (hx : x.toInt = 4) : AW sv 170 33 [.float 2, v1, v2, v3] (.int x :: r) h 90 1596 Q = AW sv 170 344 [.float 2, v1, v2, v3] r h 90 1596 Q := e_tin (j := 4) am_h170 dL_law_33 (by rw [hx]; rfl) (by decide) rfl rfl
set_option maxHeartbeats 20000 in
theorem x170_33_5 (hx : x.toInt = 5) : AW sv 170 33 [.float 2, v1, v2, v3] (.int x :: r) h 90 1596 Q = AW sv 170 377 [.float 2, v1, v2, v3] r h 90 1596 Q := e_tin (j := 5) am_h170 dL_law_33 (by rw [hx]; rfl) (by decide) rfl rfl
set_option maxHeartbeats 20000 in
theorem x170_33_6 (hx : x.toInt = 6) : AW sv 170 33 [.float 2, v1, v2, v3] (.int x :: r) h 90 1596 Q = AW sv 170 410 [.float 2, v1, v2, v3] r h 90 1596 Q := e_tin (j := 6) am_h170 dL_law_33 (by rw [hx]; rfl) (by decide) rfl rfl
set_option maxHeartbeats 20000 in
theorem x170_33_7 (hx : x.toInt = 7) : AW sv 170 33 [.float 2, v1, v2, v3] (.int x :: r) h 90 1596 Q = AW sv 170 443 [.float 2, v1, v2, v3] r h 90 1596 Q := e_tin (j := 7) am_h170 dL_law_33 (by rw [hx]; rfl) (by decide) rfl rfl
set_option maxHeartbeats 20000 in
theorem x170_33_8 (hx : x.toInt = 8) : AW sv 170 33 [.float 2, v1, v2, v3] (.int x :: r) h 90 1596 Q = AW sv 170 466 [.float 2, v1, v2, v3] r h 90 1596 Q := e_tin (j := 8) am_h170 dL_law_33 (by rw [hx]; rfl) (by decide) rfl rfl
set_option maxHeartbeats 20000 in
theorem x170_33_9 (hx : x.toInt = 9) : AW sv 170 33 [.float 2, v1, v2, v3] (.int x :: r) h 90 1596 Q = AW sv 170 529 [.float 2, v1, v2, v3] r h 90 1596 Q := e_tin (j := 9) am_h170 dL_law_33 (by rw [hx]; rfl) (by decide) rfl rfl
set_option maxHeartbeats 20000 in
theorem x170_33_10 (hx : x.toInt = 10) : AW sv 170 33 [.float 2, v1, v2, v3] (.int x :: r) h 90 1596 Q = AW sv 170 542 [.float 2, v1, v2, v3] r h 90 1596 Q := e_tin (j := 10) am_h170 dL_law_33 (by rw [hx]; rfl) (by decide) rfl rfl
set_option maxHeartbeats 20000 in
theorem x170_33_11 (hx : x.toInt = 11) : AW sv 170 33 [.float 2, v1, v2, v3] (.int x :: r) h 90 1596 Q = AW sv 170 555 [.float 2, v1, v2, v3] r h 90 1596 Q := e_tin (j := 11) am_h170 dL_law_33 (by rw [hx]; rfl) (by decide) rfl rfl
set_option maxHeartbeats 20000 in
theorem x170_33_12 (hx : x.toInt = 12) : AW sv 170 33 [.float 2, v1, v2, v3] (.int x :: r) h 90 1596 Q = AW sv 170 578 [.float 2, v1, v2, v3] r h 90 1596 Q := e_tin (j := 12) am_h170 dL_law_33 (by rw [hx]; rfl) (by decide) rfl rfl
set_option maxHeartbeats 20000 in
theorem x170_33_13 (hx : x.toInt = 13) : AW sv 170 33 [.float 2, v1, v2, v3] (.int x :: r) h 90 1596 Q = AW sv 170 631 [.float 2, v1, v2, v3] r h 90 1596 Q := e_tin (j := 13) am_h170 dL_law_33 (by rw [hx]; rfl) (by decide) rfl rfl
set_option maxHeartbeats 20000 in
theorem x170_33_14 (hx : x.toInt = 14) : AW sv 170 33 [.float 2, v1, v2, v3] (.int x :: r) h 90 1596 Q = AW sv 170 664 [.float 2, v1, v2, v3] r h 90 1596 Q := e_tin (j := 14) am_h170 dL_law_33 (by rw [hx]; rfl) (by decide) rfl rfl
set_option maxHeartbeats 20000 in
theorem x170_33_15 (hx : x.toInt = 15) : AW sv 170 33 [.float 2, v1, v2, v3] (.int x :: r) h 90 1596 Q = AW sv 170 697 [.float 2, v1, v2, v3] r h 90 1596 Q := e_tin (j := 15) am_h170 dL_law_33 (by rw [hx]; rfl) (by decide) rfl rfl
set_option maxHeartbeats 20000 in
theorem x170_33_16 (hx : x.toInt = 16) : AW sv 170 33 [.float 2, v1, v2, v3] (.int x :: r) h 90 1596 Q = AW sv 170 750 [.float 2, v1, v2, v3] r h 90 1596 Q := e_tin (j := 16) am_h170 dL_law_33 (by rw [hx]; rfl) (by decide) rfl rfl
set_option maxHeartbeats 20000 in
theorem x170_33_17 (hx : x.toInt = 17) : AW sv 170 33 [.float 2, v1, v2, v3] (.int x :: r) h 90 1596 Q = AW sv 170 783 [.float 2, v1, v2, v3] r h 90 1596 Q := e_tin (j := 17) am_h170 dL_law_33 (by rw [hx]; rfl) (by decide) rfl rfl
set_option maxHeartbeats 20000 in
theorem x170_33_18 (hx : x.toInt = 18) : AW sv 170 33 [.float 2, v1, v2, v3] (.int x :: r) h 90 1596 Q = AW sv 170 816 [.float 2, v1, v2, v3] r h 90 1596 Q := e_tin (j := 18) am_h170 dL_law_33 (by rw [hx]; rfl) (by decide) rfl rfl
set_option maxHeartbeats 20000 in
theorem x170_33_19 (hx : x.toInt = 19) : AW sv 170 33 [.float 2, v1, v2, v3] (.int x :: r) h 90 1596 Q = AW sv 170 869 [.float 2, v1, v2, v3] r h 90 1596 Q := e_tin (j := 19) am_h170 dL_law_33 (by rw [hx]; rfl) (by decide) rfl rfl
set_option maxHeartbeats 20000 in
theorem x170_33_20 (hx : x.toInt = 20) : AW sv 170 33 [.float 2, v1, v2, v3] (.int x :: r) h 90 1596 Q = AW sv 170 902 [.float 2, v1, v2, v3] r h 90 1596 Q := e_tin (j := 20) am_h170 dL_law_33 (by rw [hx]; rfl) (by decide) rfl rfl
set_option maxHeartbeats 20000 in
theorem x170_33_21 (hx : x.toInt = 21) : AW sv 170 33 [.float 2, v1, v2, v3] (.int x :: r) h 90 1596 Q = AW sv 170 935 [.float 2, v1, v2, v3] r h 90 1596 Q := e_tin (j := 21) am_h170 dL_law_33 (by rw [hx]; rfl) (by decide) rfl rfl
set_option maxHeartbeats 20000 in
theorem x170_33_22 (hx : x.toInt = 22) : AW sv 170 33 [.float 2, v1, v2, v3] (.int x :: r) h 90 1596 Q = AW sv 170 948 [.float 2, v1, v2, v3] r h 90 1596 Q := e_tin (j := 22) am_h170 dL_law_33 (by rw [hx]; rfl) (by decide) rfl rfl
set_option maxHeartbeats 20000 in
theorem x170_33_23 (hx : x.toInt = 23) : AW sv 170 33 [.float 2, v1, v2, v3] (.int x :: r) h 90 1596 Q = AW sv 170 971 [.float 2, v1, v2, v3] r h 90 1596 Q := e_tin (j := 23) am_h170 dL_law_33 (by rw [hx]; rfl) (by decide) rfl rfl
set_option maxHeartbeats 20000 in
theorem x170_33_24 (hx : x.toInt = 24) : AW sv 170 33 [.float 2, v1, v2, v3] (.int x :: r) h 90 1596 Q = AW sv 170 984 [.float 2, v1, v2, v3] r h 90 1596 Q := e_tin (j := 24) am_h170 dL_law_33 (by rw [hx]; rfl) (by decide) rfl rfl
set_option maxHeartbeats 20000 in
theorem x170_33_25 (hx : x.toInt = 25) : AW sv 170 33 [.float 2, v1, v2, v3] (.int x :: r) h 90 1596 Q = AW sv 170 1007 [.float 2, v1, v2, v3] r h 90 1596 Q := e_tin (j := 25) am_h170 dL_law_33 (by rw [hx]; rfl) (by decide) rfl rfl
set_option maxHeartbeats 20000 in
theorem x170_33_26 (hx : x.toInt = 26) : AW sv 170 33 [.float 2, v1, v2, v3] (.int x :: r) h 90 1596 Q = AW sv 170 1040 [.float 2, v1, v2, v3] r h 90 1596 Q := e_tin (j := 26) am_h170 dL_law_33 (by rw [hx]; rfl) (by decide) rfl rfl
set_option maxHeartbeats 20000 in
theorem x170_33_27 (hx : x.toInt = 27) : AW sv 170 33 [.float 2, v1, v2, v3] (.int x :: r) h 90 1596 Q = AW sv 170 1063 [.float 2, v1, v2, v3] r h 90 1596 Q := e_tin (j := 27) am_h170 dL_law_33 (by rw [hx]; rfl) (by decide) rfl rfl
set_option maxHeartbeats 20000 in
theorem x170_33_28 (hx : x.toInt = 28) : AW sv 170 33 [.float 2, v1, v2, v3] (.int x :: r) h 90 1596 Q = AW sv 170 1116 [.float 2, v1, v2, v3] r h 90 1596 Q := e_tin (j := 28) am_h170 dL_law_33 (by rw [hx]; rfl) (by decide) rfl rfl
set_option maxHeartbeats 20000 in
theorem x170_33_29 (hx : x.toInt = 29) : AW sv 170 33 [.float 2, v1, v2, v3] (.int x :: r) h 90 1596 Q = AW sv 170 1129 [.float 2, v1, v2, v3] r h 90 1596 Q := e_tin (j := 29) am_h170 dL_law_33 (by rw [hx]; rfl) (by decide) rfl rfl
set_option maxHeartbeats 20000 in
theorem x170_33_30 (hx : x.toInt = 30) : AW sv 170 33 [.float 2, v1, v2, v3] (.int x :: r) h 90 1596 Q = AW sv 170 1142 [.float 2, v1, v2, v3] r h 90 1596 Q := e_tin (j := 30) am_h170 dL_law_33 (by rw [hx]; rfl) (by decide) rfl rfl
set_option maxHeartbeats 20000 in
theorem x170_33_31 (hx : x.toInt = 31) : AW sv 170 33 [.float 2, v1, v2, v3] (.int x :: r) h 90 1596 Q = AW sv 170 1155 [.float 2, v1, v2, v3] r h 90 1596 Q := e_tin (j := 31) am_h170 dL_law_33 (by rw [hx]; rfl) (by decide) rfl rfl
set_option maxHeartbeats 20000 in
theorem x170_33_32 (hx : x.toInt = 32) : AW sv 170 33 [.float 2, v1, v2, v3] (.int x :: r) h 90 1596 Q = AW sv 170 1218 [.float 2, v1, v2, v3] r h 90 1596 Q := e_tin (j := 32) am_h170 dL_law_33 (by rw [hx]; rfl) (by decide) rfl rfl
set_option maxHeartbeats 20000 in
theorem x170_33_33 (hx : x.toInt = 33) : AW sv 170 33 [.float 2, v1, v2, v3] (.int x :: r) h 90 1596 Q = AW sv 170 1261 [.float 2, v1, v2, v3] r h 90 1596 Q := e_tin (j := 33) am_h170 dL_law_33 (by rw [hx]; rfl) (by decide) rfl rfl
set_option maxHeartbeats 20000 in
theorem x170_33_34 (hx : x.toInt = 34) : AW sv 170 33 [.float 2, v1, v2, v3] (.int x :: r) h 90 1596 Q = AW sv 170 1284 [.float 2, v1, v2, v3] r h 90 1596 Q := e_tin (j := 34) am_h170 dL_law_33 (by rw [hx]; rfl) (by decide) rfl rfl
set_option maxHeartbeats 20000 in
theorem x170_33_35 (hx : x.toInt = 35) : AW sv 170 33 [.float 2, v1, v2, v3] (.int x :: r) h 90 1596 Q = AW sv 170 1337 [.float 2, v1, v2, v3] r h 90 1596 Q := e_tin (j := 35) am_h170 dL_law_33 (by rw [hx]; rfl) (by decide) rfl rfl
set_option maxHeartbeats 20000 in
theorem x170_33_d (hx : x.toInt < 0 ∨ 35 < x.toInt) : AW sv 170 33 [.float 2, v1, v2, v3] (.int x :: r) h 90 1596 Q = AW sv 170 1400 [.float 2, v1, v2, v3] r h 90 1596 Q := e_tout am_h170 dL_law_33 hx rfl
end XR
