/-! THE LAW's LOOP, over a simulation of each call -/
/-- the class's call and the reference's, in this order, answer alike and keep Inv -/
def SimOK (sv : am_V) (Inv : am_S → Prop) (cm mm : Nat) (args : List Value) : Prop := ∀ σ, Inv σ → ∃ v σ1 σ2, (∀ Q, AM sv cm (.ref 0 :: args) (am_toH σ) Q = Q (some (.int v)) (am_toH σ1)) ∧ (∀ Q, AM sv mm (.ref 71 :: args) (am_toH σ1) Q = Q (some (.int v)) (am_toH σ2)) ∧ Inv σ2
def AllSim (sv : am_V) (Inv : am_S → Prop) : Prop :=
  (∀ x0 x1 x2 x3 : Int32, SimOK sv Inv 61 109 [.int x0, .int x1, .int x2, .int x3]) ∧
  (∀ x0 x1 x2 : Int32, SimOK sv Inv 62 110 [.int x0, .int x1, .int x2]) ∧
  (∀ x0 : Int32, SimOK sv Inv 63 111 [.int x0]) ∧
  (∀ x0 x1 : Int32, SimOK sv Inv 64 112 [.int x0, .int x1]) ∧
  (∀ x0 x1 : Int32, SimOK sv Inv 65 115 [.int x0, .int x1]) ∧
  (∀ x0 x1 : Int32, SimOK sv Inv 66 116 [.int x0, .int x1]) ∧
  (∀ x0 x1 : Int32, SimOK sv Inv 67 117 [.int x0, .int x1]) ∧
  (∀ x0 : Int32, SimOK sv Inv 68 118 [.int x0]) ∧
  (∀ (u : Int64) (x : Int32), SimOK sv Inv 69 119 [.long u, .int x]) ∧
  SimOK sv Inv 70 128 [] ∧
  SimOK sv Inv 71 129 [] ∧
  (∀ x0 : Int32, SimOK sv Inv 72 130 [.int x0]) ∧
  (∀ x0 x1 x2 x3 : Int32, SimOK sv Inv 73 132 [.int x0, .int x1, .int x2, .int x3]) ∧
  (∀ x0 x1 : Int32, SimOK sv Inv 74 134 [.int x0, .int x1]) ∧
  (∀ x0 x1 : Int32, SimOK sv Inv 75 136 [.int x0, .int x1]) ∧
  (∀ x0 x1 x2 x3 : Int32, SimOK sv Inv 76 138 [.int x0, .int x1, .int x2, .int x3]) ∧
  (∀ x0 x1 : Int32, SimOK sv Inv 77 141 [.int x0, .int x1]) ∧
  (∀ x0 x1 : Int32, SimOK sv Inv 78 142 [.int x0, .int x1]) ∧
  (∀ x0 x1 x2 x3 : Int32, SimOK sv Inv 79 143 [.int x0, .int x1, .int x2, .int x3]) ∧
  (∀ x0 x1 : Int32, SimOK sv Inv 80 145 [.int x0, .int x1]) ∧
  (∀ x0 x1 : Int32, SimOK sv Inv 81 146 [.int x0, .int x1]) ∧
  SimOK sv Inv 82 147 [] ∧
  (∀ x0 : Int32, SimOK sv Inv 83 148 [.int x0]) ∧
  SimOK sv Inv 84 149 [] ∧
  (∀ x0 : Int32, SimOK sv Inv 85 151 [.int x0]) ∧
  (∀ x0 x1 : Int32, SimOK sv Inv 86 153 [.int x0, .int x1]) ∧
  (∀ x0 : Int32, SimOK sv Inv 87 154 [.int x0]) ∧
  (∀ x0 x1 x2 x3 : Int32, SimOK sv Inv 88 156 [.int x0, .int x1, .int x2, .int x3]) ∧
  SimOK sv Inv 89 157 [] ∧
  SimOK sv Inv 90 160 [] ∧
  SimOK sv Inv 91 161 [] ∧
  (∀ x0 x1 x2 x3 x4 : Int32, SimOK sv Inv 92 165 [.int x0, .int x1, .int x2, .int x3, .int x4]) ∧
  (∀ x0 x1 x2 : Int32, SimOK sv Inv 93 166 [.int x0, .int x1, .int x2]) ∧
  (∀ x0 : Int32, SimOK sv Inv 94 167 [.int x0]) ∧
  (∀ x0 x1 x2 x3 : Int32, SimOK sv Inv 95 168 [.int x0, .int x1, .int x2, .int x3]) ∧
  (∀ x0 x1 x2 x3 x4 : Int32, SimOK sv Inv 96 169 [.int x0, .int x1, .int x2, .int x3, .int x4])
theorem nI_p2 {i : Nat} : nI i + 2 = nI (i + 2) := nI_add i 2
theorem nI_p3 {i : Nat} : nI i + 3 = nI (i + 3) := nI_add i 3
theorem nI_p4 {i : Nat} : nI i + 4 = nI (i + 4) := nI_add i 4
theorem nI_p5 {i : Nat} : nI i + 5 = nI (i + 5) := nI_add i 5
theorem nI_p6 {i : Nat} : nI i + 6 = nI (i + 6) := nI_add i 6
theorem law_len {L : Nat} (hL : L ≤ 3072) : (Int32.ofNat L - 6).toInt = (L : Int) - 6 := by
  rw [Int32.toInt_sub, show (Int32.ofNat L).toInt = (L : Int) from nI_toInt (by omega), show (6 : Int32).toInt = 6 by decide]
  exact Int.bmod_eq_of_le (by omega) (by omega)
section LW
variable {sv : am_V} {σ : am_S} {Q : Option Value → am_H → Prop} {Inv : am_S → Prop} {L i : Nat}
theorem law_in (hsv : (sv 2).1 = L) (hL : L ≤ 3072) {k : Nat} (hk : k < L) : am_in (nI k) (sv 2).1 = true := by
  rw [hsv]
  apply decide_eq_true
  rw [nI_toInt (by omega)]
  omega
theorem law_go (hsv : (sv 2).1 = L) (hL : L ≤ 3072) (hi : i + 6 ≤ L) : ¬ (Int32.ofNat (sv 2).1 - 6 < nI i) := by
  rw [hsv]
  intro h
  have := Int32.lt_iff_toInt_lt.mp h
  rw [law_len hL, nI_toInt (by omega)] at this
  omega
theorem law_end (hsv : (sv 2).1 = L) (hL : L ≤ 3072) (hi : L < i + 6) (hi2 : i ≤ 3072) : Int32.ofNat (sv 2).1 - 6 < nI i := by
  rw [hsv]
  apply Int32.lt_iff_toInt_lt.mpr
  rw [law_len hL, nI_toInt (by omega)]
  omega
theorem law_0 (hS : (∀ x0 x1 x2 x3 : Int32, SimOK sv Inv 61 109 [.int x0, .int x1, .int x2, .int x3])) (hsv : (sv 2).1 = L) (hL : L ≤ 3072) (hi : i + 6 ≤ L) (hσ : Inv σ) (hop : ((sv 2).2 i &&& 63).toInt = 0) : ∃ σ2, Inv σ2 ∧ AW sv 170 18 [.float 2, .ref 0, .ref 71, .int (nI i)] [] (am_toH σ) 90 1596 Q = AW sv 170 18 [.float 2, .ref 0, .ref 71, .int (nI (i + 6))] [] (am_toH σ2) 90 1596 Q := by
  obtain ⟨v, σ1, σ2, h1, h2, h3⟩ := hS ((sv 2).2 (i + 1)) ((sv 2).2 (i + 2)) ((sv 2).2 (i + 3)) ((sv 2).2 (i + 4)) σ hσ
  refine ⟨σ2, h3, ?_⟩
  have g0 := law_go hsv hL hi
  have b0 := law_in hsv hL (k := i) (by omega)
  have b1 := law_in hsv hL (k := i + 1) (by omega)
  have b2 := law_in hsv hL (k := i + 2) (by omega)
  have b3 := law_in hsv hL (k := i + 3) (by omega)
  have b4 := law_in hsv hL (k := i + 4) (by omega)
  have b5 := law_in hsv hL (k := i + 5) (by omega)
  have d0 : (nI i).toNatClampNeg = i := nI_clamp (by omega)
  have d1 : (nI (i + 1)).toNatClampNeg = i + 1 := nI_clamp (by omega)
  have d2 : (nI (i + 2)).toNatClampNeg = i + 2 := nI_clamp (by omega)
  have d3 : (nI (i + 3)).toNatClampNeg = i + 3 := nI_clamp (by omega)
  have d4 : (nI (i + 4)).toNatClampNeg = i + 4 := nI_clamp (by omega)
  have d5 : (nI (i + 5)).toNatClampNeg = i + 5 := nI_clamp (by omega)
  rw [x170_18]
  simp only [x170_19, x170_20, x170_21, x170_23, x170_24, x170_27, x170_28, x170_29, x170_30, x170_32, Option.toList_some, Option.toList_none, List.cons_append, List.nil_append, cat_i, cat_r, cat_n, cat_f, cs_n, cs_i, cs_r, cs_l, cs_f, Nat.reduceAdd, Nat.reduceLeDiff, Nat.zero_le, if_true, if_false, true_or, or_true, g0, b0, d0]
  rw [x170_33_0 hop]
  simp only [x170_192, x170_193, x170_194, x170_195, x170_196, x170_197, x170_198, x170_199, x170_200, x170_201, x170_202, x170_203, x170_204, x170_205, x170_206, x170_207, x170_208, x170_209, x170_210, x170_211, x170_212, x170_213, x170_216, x170_217, x170_218, x170_219, x170_220, x170_221, x170_222, x170_223, x170_224, x170_225, x170_226, x170_227, x170_228, x170_229, x170_230, x170_231, x170_232, x170_233, x170_234, x170_235, x170_236, x170_237, x170_240, x170_243, x170_244, x170_1400, x170_1403, Option.toList_some, Option.toList_none, List.cons_append, List.nil_append, cat_i, cat_r, cat_n, cat_f, cs_n, cs_i, cs_r, cs_l, cs_f, Nat.reduceAdd, Nat.reduceLeDiff, Nat.zero_le, if_true, if_false, true_or, or_true, nI_1, nI_p2, nI_p3, nI_p4, nI_p5, nI_p6, b1, b2, b3, b4, b5, d1, d2, d3, d4, d5, h1, h2]
theorem law_1 (hS : (∀ x0 x1 x2 : Int32, SimOK sv Inv 62 110 [.int x0, .int x1, .int x2])) (hsv : (sv 2).1 = L) (hL : L ≤ 3072) (hi : i + 6 ≤ L) (hσ : Inv σ) (hop : ((sv 2).2 i &&& 63).toInt = 1) : ∃ σ2, Inv σ2 ∧ AW sv 170 18 [.float 2, .ref 0, .ref 71, .int (nI i)] [] (am_toH σ) 90 1596 Q = AW sv 170 18 [.float 2, .ref 0, .ref 71, .int (nI (i + 6))] [] (am_toH σ2) 90 1596 Q := by
  obtain ⟨v, σ1, σ2, h1, h2, h3⟩ := hS ((sv 2).2 (i + 1)) ((sv 2).2 (i + 2)) ((sv 2).2 (i + 3)) σ hσ
  refine ⟨σ2, h3, ?_⟩
  have g0 := law_go hsv hL hi
  have b0 := law_in hsv hL (k := i) (by omega)
  have b1 := law_in hsv hL (k := i + 1) (by omega)
  have b2 := law_in hsv hL (k := i + 2) (by omega)
  have b3 := law_in hsv hL (k := i + 3) (by omega)
  have b4 := law_in hsv hL (k := i + 4) (by omega)
  have b5 := law_in hsv hL (k := i + 5) (by omega)
  have d0 : (nI i).toNatClampNeg = i := nI_clamp (by omega)
  have d1 : (nI (i + 1)).toNatClampNeg = i + 1 := nI_clamp (by omega)
  have d2 : (nI (i + 2)).toNatClampNeg = i + 2 := nI_clamp (by omega)
  have d3 : (nI (i + 3)).toNatClampNeg = i + 3 := nI_clamp (by omega)
  have d4 : (nI (i + 4)).toNatClampNeg = i + 4 := nI_clamp (by omega)
  have d5 : (nI (i + 5)).toNatClampNeg = i + 5 := nI_clamp (by omega)
  rw [x170_18]
  simp only [x170_19, x170_20, x170_21, x170_23, x170_24, x170_27, x170_28, x170_29, x170_30, x170_32, Option.toList_some, Option.toList_none, List.cons_append, List.nil_append, cat_i, cat_r, cat_n, cat_f, cs_n, cs_i, cs_r, cs_l, cs_f, Nat.reduceAdd, Nat.reduceLeDiff, Nat.zero_le, if_true, if_false, true_or, or_true, g0, b0, d0]
  rw [x170_33_1 hop]
  simp only [x170_245, x170_246, x170_247, x170_248, x170_249, x170_250, x170_251, x170_252, x170_253, x170_254, x170_255, x170_256, x170_257, x170_258, x170_259, x170_260, x170_261, x170_264, x170_265, x170_266, x170_267, x170_268, x170_269, x170_270, x170_271, x170_272, x170_273, x170_274, x170_275, x170_276, x170_277, x170_278, x170_279, x170_280, x170_283, x170_286, x170_287, x170_1400, x170_1403, Option.toList_some, Option.toList_none, List.cons_append, List.nil_append, cat_i, cat_r, cat_n, cat_f, cs_n, cs_i, cs_r, cs_l, cs_f, Nat.reduceAdd, Nat.reduceLeDiff, Nat.zero_le, if_true, if_false, true_or, or_true, nI_1, nI_p2, nI_p3, nI_p4, nI_p5, nI_p6, b1, b2, b3, b4, b5, d1, d2, d3, d4, d5, h1, h2]
theorem law_2 (hS : (∀ x0 : Int32, SimOK sv Inv 63 111 [.int x0])) (hsv : (sv 2).1 = L) (hL : L ≤ 3072) (hi : i + 6 ≤ L) (hσ : Inv σ) (hop : ((sv 2).2 i &&& 63).toInt = 2) : ∃ σ2, Inv σ2 ∧ AW sv 170 18 [.float 2, .ref 0, .ref 71, .int (nI i)] [] (am_toH σ) 90 1596 Q = AW sv 170 18 [.float 2, .ref 0, .ref 71, .int (nI (i + 6))] [] (am_toH σ2) 90 1596 Q := by
  obtain ⟨v, σ1, σ2, h1, h2, h3⟩ := hS ((sv 2).2 (i + 1)) σ hσ
  refine ⟨σ2, h3, ?_⟩
  have g0 := law_go hsv hL hi
  have b0 := law_in hsv hL (k := i) (by omega)
  have b1 := law_in hsv hL (k := i + 1) (by omega)
  have b2 := law_in hsv hL (k := i + 2) (by omega)
  have b3 := law_in hsv hL (k := i + 3) (by omega)
  have b4 := law_in hsv hL (k := i + 4) (by omega)
  have b5 := law_in hsv hL (k := i + 5) (by omega)
  have d0 : (nI i).toNatClampNeg = i := nI_clamp (by omega)
  have d1 : (nI (i + 1)).toNatClampNeg = i + 1 := nI_clamp (by omega)
  have d2 : (nI (i + 2)).toNatClampNeg = i + 2 := nI_clamp (by omega)
  have d3 : (nI (i + 3)).toNatClampNeg = i + 3 := nI_clamp (by omega)
  have d4 : (nI (i + 4)).toNatClampNeg = i + 4 := nI_clamp (by omega)
  have d5 : (nI (i + 5)).toNatClampNeg = i + 5 := nI_clamp (by omega)
  rw [x170_18]
  simp only [x170_19, x170_20, x170_21, x170_23, x170_24, x170_27, x170_28, x170_29, x170_30, x170_32, Option.toList_some, Option.toList_none, List.cons_append, List.nil_append, cat_i, cat_r, cat_n, cat_f, cs_n, cs_i, cs_r, cs_l, cs_f, Nat.reduceAdd, Nat.reduceLeDiff, Nat.zero_le, if_true, if_false, true_or, or_true, g0, b0, d0]
  rw [x170_33_2 hop]
  simp only [x170_288, x170_289, x170_290, x170_291, x170_292, x170_293, x170_294, x170_297, x170_298, x170_299, x170_300, x170_301, x170_302, x170_303, x170_306, x170_309, x170_310, x170_1400, x170_1403, Option.toList_some, Option.toList_none, List.cons_append, List.nil_append, cat_i, cat_r, cat_n, cat_f, cs_n, cs_i, cs_r, cs_l, cs_f, Nat.reduceAdd, Nat.reduceLeDiff, Nat.zero_le, if_true, if_false, true_or, or_true, nI_1, nI_p2, nI_p3, nI_p4, nI_p5, nI_p6, b1, b2, b3, b4, b5, d1, d2, d3, d4, d5, h1, h2]
theorem law_3 (hS : (∀ x0 x1 : Int32, SimOK sv Inv 64 112 [.int x0, .int x1])) (hsv : (sv 2).1 = L) (hL : L ≤ 3072) (hi : i + 6 ≤ L) (hσ : Inv σ) (hop : ((sv 2).2 i &&& 63).toInt = 3) : ∃ σ2, Inv σ2 ∧ AW sv 170 18 [.float 2, .ref 0, .ref 71, .int (nI i)] [] (am_toH σ) 90 1596 Q = AW sv 170 18 [.float 2, .ref 0, .ref 71, .int (nI (i + 6))] [] (am_toH σ2) 90 1596 Q := by
  obtain ⟨v, σ1, σ2, h1, h2, h3⟩ := hS ((sv 2).2 (i + 1)) ((sv 2).2 (i + 2)) σ hσ
  refine ⟨σ2, h3, ?_⟩
  have g0 := law_go hsv hL hi
  have b0 := law_in hsv hL (k := i) (by omega)
  have b1 := law_in hsv hL (k := i + 1) (by omega)
  have b2 := law_in hsv hL (k := i + 2) (by omega)
  have b3 := law_in hsv hL (k := i + 3) (by omega)
  have b4 := law_in hsv hL (k := i + 4) (by omega)
  have b5 := law_in hsv hL (k := i + 5) (by omega)
  have d0 : (nI i).toNatClampNeg = i := nI_clamp (by omega)
  have d1 : (nI (i + 1)).toNatClampNeg = i + 1 := nI_clamp (by omega)
  have d2 : (nI (i + 2)).toNatClampNeg = i + 2 := nI_clamp (by omega)
  have d3 : (nI (i + 3)).toNatClampNeg = i + 3 := nI_clamp (by omega)
  have d4 : (nI (i + 4)).toNatClampNeg = i + 4 := nI_clamp (by omega)
  have d5 : (nI (i + 5)).toNatClampNeg = i + 5 := nI_clamp (by omega)
  rw [x170_18]
  simp only [x170_19, x170_20, x170_21, x170_23, x170_24, x170_27, x170_28, x170_29, x170_30, x170_32, Option.toList_some, Option.toList_none, List.cons_append, List.nil_append, cat_i, cat_r, cat_n, cat_f, cs_n, cs_i, cs_r, cs_l, cs_f, Nat.reduceAdd, Nat.reduceLeDiff, Nat.zero_le, if_true, if_false, true_or, or_true, g0, b0, d0]
  rw [x170_33_3 hop]
  simp only [x170_311, x170_312, x170_313, x170_314, x170_315, x170_316, x170_317, x170_318, x170_319, x170_320, x170_321, x170_322, x170_325, x170_326, x170_327, x170_328, x170_329, x170_330, x170_331, x170_332, x170_333, x170_334, x170_335, x170_336, x170_339, x170_342, x170_343, x170_1400, x170_1403, Option.toList_some, Option.toList_none, List.cons_append, List.nil_append, cat_i, cat_r, cat_n, cat_f, cs_n, cs_i, cs_r, cs_l, cs_f, Nat.reduceAdd, Nat.reduceLeDiff, Nat.zero_le, if_true, if_false, true_or, or_true, nI_1, nI_p2, nI_p3, nI_p4, nI_p5, nI_p6, b1, b2, b3, b4, b5, d1, d2, d3, d4, d5, h1, h2]
theorem law_4 (hS : (∀ x0 x1 : Int32, SimOK sv Inv 65 115 [.int x0, .int x1])) (hsv : (sv 2).1 = L) (hL : L ≤ 3072) (hi : i + 6 ≤ L) (hσ : Inv σ) (hop : ((sv 2).2 i &&& 63).toInt = 4) : ∃ σ2, Inv σ2 ∧ AW sv 170 18 [.float 2, .ref 0, .ref 71, .int (nI i)] [] (am_toH σ) 90 1596 Q = AW sv 170 18 [.float 2, .ref 0, .ref 71, .int (nI (i + 6))] [] (am_toH σ2) 90 1596 Q := by
  obtain ⟨v, σ1, σ2, h1, h2, h3⟩ := hS ((sv 2).2 (i + 1)) ((sv 2).2 (i + 2)) σ hσ
  refine ⟨σ2, h3, ?_⟩
  have g0 := law_go hsv hL hi
  have b0 := law_in hsv hL (k := i) (by omega)
  have b1 := law_in hsv hL (k := i + 1) (by omega)
  have b2 := law_in hsv hL (k := i + 2) (by omega)
  have b3 := law_in hsv hL (k := i + 3) (by omega)
  have b4 := law_in hsv hL (k := i + 4) (by omega)
  have b5 := law_in hsv hL (k := i + 5) (by omega)
  have d0 : (nI i).toNatClampNeg = i := nI_clamp (by omega)
  have d1 : (nI (i + 1)).toNatClampNeg = i + 1 := nI_clamp (by omega)
  have d2 : (nI (i + 2)).toNatClampNeg = i + 2 := nI_clamp (by omega)
  have d3 : (nI (i + 3)).toNatClampNeg = i + 3 := nI_clamp (by omega)
  have d4 : (nI (i + 4)).toNatClampNeg = i + 4 := nI_clamp (by omega)
  have d5 : (nI (i + 5)).toNatClampNeg = i + 5 := nI_clamp (by omega)
  rw [x170_18]
  simp only [x170_19, x170_20, x170_21, x170_23, x170_24, x170_27, x170_28, x170_29, x170_30, x170_32, Option.toList_some, Option.toList_none, List.cons_append, List.nil_append, cat_i, cat_r, cat_n, cat_f, cs_n, cs_i, cs_r, cs_l, cs_f, Nat.reduceAdd, Nat.reduceLeDiff, Nat.zero_le, if_true, if_false, true_or, or_true, g0, b0, d0]
  rw [x170_33_4 hop]
  simp only [x170_344, x170_345, x170_346, x170_347, x170_348, x170_349, x170_350, x170_351, x170_352, x170_353, x170_354, x170_355, x170_358, x170_359, x170_360, x170_361, x170_362, x170_363, x170_364, x170_365, x170_366, x170_367, x170_368, x170_369, x170_372, x170_375, x170_376, x170_1400, x170_1403, Option.toList_some, Option.toList_none, List.cons_append, List.nil_append, cat_i, cat_r, cat_n, cat_f, cs_n, cs_i, cs_r, cs_l, cs_f, Nat.reduceAdd, Nat.reduceLeDiff, Nat.zero_le, if_true, if_false, true_or, or_true, nI_1, nI_p2, nI_p3, nI_p4, nI_p5, nI_p6, b1, b2, b3, b4, b5, d1, d2, d3, d4, d5, h1, h2]
theorem law_5 (hS : (∀ x0 x1 : Int32, SimOK sv Inv 66 116 [.int x0, .int x1])) (hsv : (sv 2).1 = L) (hL : L ≤ 3072) (hi : i + 6 ≤ L) (hσ : Inv σ) (hop : ((sv 2).2 i &&& 63).toInt = 5) : ∃ σ2, Inv σ2 ∧ AW sv 170 18 [.float 2, .ref 0, .ref 71, .int (nI i)] [] (am_toH σ) 90 1596 Q = AW sv 170 18 [.float 2, .ref 0, .ref 71, .int (nI (i + 6))] [] (am_toH σ2) 90 1596 Q := by
  obtain ⟨v, σ1, σ2, h1, h2, h3⟩ := hS ((sv 2).2 (i + 1)) ((sv 2).2 (i + 2)) σ hσ
  refine ⟨σ2, h3, ?_⟩
  have g0 := law_go hsv hL hi
  have b0 := law_in hsv hL (k := i) (by omega)
  have b1 := law_in hsv hL (k := i + 1) (by omega)
  have b2 := law_in hsv hL (k := i + 2) (by omega)
  have b3 := law_in hsv hL (k := i + 3) (by omega)
  have b4 := law_in hsv hL (k := i + 4) (by omega)
  have b5 := law_in hsv hL (k := i + 5) (by omega)
  have d0 : (nI i).toNatClampNeg = i := nI_clamp (by omega)
  have d1 : (nI (i + 1)).toNatClampNeg = i + 1 := nI_clamp (by omega)
  have d2 : (nI (i + 2)).toNatClampNeg = i + 2 := nI_clamp (by omega)
  have d3 : (nI (i + 3)).toNatClampNeg = i + 3 := nI_clamp (by omega)
  have d4 : (nI (i + 4)).toNatClampNeg = i + 4 := nI_clamp (by omega)
  have d5 : (nI (i + 5)).toNatClampNeg = i + 5 := nI_clamp (by omega)
  rw [x170_18]
  simp only [x170_19, x170_20, x170_21, x170_23, x170_24, x170_27, x170_28, x170_29, x170_30, x170_32, Option.toList_some, Option.toList_none, List.cons_append, List.nil_append, cat_i, cat_r, cat_n, cat_f, cs_n, cs_i, cs_r, cs_l, cs_f, Nat.reduceAdd, Nat.reduceLeDiff, Nat.zero_le, if_true, if_false, true_or, or_true, g0, b0, d0]
  rw [x170_33_5 hop]
  simp only [x170_377, x170_378, x170_379, x170_380, x170_381, x170_382, x170_383, x170_384, x170_385, x170_386, x170_387, x170_388, x170_391, x170_392, x170_393, x170_394, x170_395, x170_396, x170_397, x170_398, x170_399, x170_400, x170_401, x170_402, x170_405, x170_408, x170_409, x170_1400, x170_1403, Option.toList_some, Option.toList_none, List.cons_append, List.nil_append, cat_i, cat_r, cat_n, cat_f, cs_n, cs_i, cs_r, cs_l, cs_f, Nat.reduceAdd, Nat.reduceLeDiff, Nat.zero_le, if_true, if_false, true_or, or_true, nI_1, nI_p2, nI_p3, nI_p4, nI_p5, nI_p6, b1, b2, b3, b4, b5, d1, d2, d3, d4, d5, h1, h2]
theorem law_6 (hS : (∀ x0 x1 : Int32, SimOK sv Inv 67 117 [.int x0, .int x1])) (hsv : (sv 2).1 = L) (hL : L ≤ 3072) (hi : i + 6 ≤ L) (hσ : Inv σ) (hop : ((sv 2).2 i &&& 63).toInt = 6) : ∃ σ2, Inv σ2 ∧ AW sv 170 18 [.float 2, .ref 0, .ref 71, .int (nI i)] [] (am_toH σ) 90 1596 Q = AW sv 170 18 [.float 2, .ref 0, .ref 71, .int (nI (i + 6))] [] (am_toH σ2) 90 1596 Q := by
  obtain ⟨v, σ1, σ2, h1, h2, h3⟩ := hS ((sv 2).2 (i + 1)) ((sv 2).2 (i + 2)) σ hσ
  refine ⟨σ2, h3, ?_⟩
  have g0 := law_go hsv hL hi
  have b0 := law_in hsv hL (k := i) (by omega)
  have b1 := law_in hsv hL (k := i + 1) (by omega)
  have b2 := law_in hsv hL (k := i + 2) (by omega)
  have b3 := law_in hsv hL (k := i + 3) (by omega)
  have b4 := law_in hsv hL (k := i + 4) (by omega)
  have b5 := law_in hsv hL (k := i + 5) (by omega)
  have d0 : (nI i).toNatClampNeg = i := nI_clamp (by omega)
  have d1 : (nI (i + 1)).toNatClampNeg = i + 1 := nI_clamp (by omega)
  have d2 : (nI (i + 2)).toNatClampNeg = i + 2 := nI_clamp (by omega)
  have d3 : (nI (i + 3)).toNatClampNeg = i + 3 := nI_clamp (by omega)
  have d4 : (nI (i + 4)).toNatClampNeg = i + 4 := nI_clamp (by omega)
  have d5 : (nI (i + 5)).toNatClampNeg = i + 5 := nI_clamp (by omega)
  rw [x170_18]
  simp only [x170_19, x170_20, x170_21, x170_23, x170_24, x170_27, x170_28, x170_29, x170_30, x170_32, Option.toList_some, Option.toList_none, List.cons_append, List.nil_append, cat_i, cat_r, cat_n, cat_f, cs_n, cs_i, cs_r, cs_l, cs_f, Nat.reduceAdd, Nat.reduceLeDiff, Nat.zero_le, if_true, if_false, true_or, or_true, g0, b0, d0]
  rw [x170_33_6 hop]
  simp only [x170_410, x170_411, x170_412, x170_413, x170_414, x170_415, x170_416, x170_417, x170_418, x170_419, x170_420, x170_421, x170_424, x170_425, x170_426, x170_427, x170_428, x170_429, x170_430, x170_431, x170_432, x170_433, x170_434, x170_435, x170_438, x170_441, x170_442, x170_1400, x170_1403, Option.toList_some, Option.toList_none, List.cons_append, List.nil_append, cat_i, cat_r, cat_n, cat_f, cs_n, cs_i, cs_r, cs_l, cs_f, Nat.reduceAdd, Nat.reduceLeDiff, Nat.zero_le, if_true, if_false, true_or, or_true, nI_1, nI_p2, nI_p3, nI_p4, nI_p5, nI_p6, b1, b2, b3, b4, b5, d1, d2, d3, d4, d5, h1, h2]
theorem law_7 (hS : (∀ x0 : Int32, SimOK sv Inv 68 118 [.int x0])) (hsv : (sv 2).1 = L) (hL : L ≤ 3072) (hi : i + 6 ≤ L) (hσ : Inv σ) (hop : ((sv 2).2 i &&& 63).toInt = 7) : ∃ σ2, Inv σ2 ∧ AW sv 170 18 [.float 2, .ref 0, .ref 71, .int (nI i)] [] (am_toH σ) 90 1596 Q = AW sv 170 18 [.float 2, .ref 0, .ref 71, .int (nI (i + 6))] [] (am_toH σ2) 90 1596 Q := by
  obtain ⟨v, σ1, σ2, h1, h2, h3⟩ := hS ((sv 2).2 (i + 1)) σ hσ
  refine ⟨σ2, h3, ?_⟩
  have g0 := law_go hsv hL hi
  have b0 := law_in hsv hL (k := i) (by omega)
  have b1 := law_in hsv hL (k := i + 1) (by omega)
  have b2 := law_in hsv hL (k := i + 2) (by omega)
  have b3 := law_in hsv hL (k := i + 3) (by omega)
  have b4 := law_in hsv hL (k := i + 4) (by omega)
  have b5 := law_in hsv hL (k := i + 5) (by omega)
  have d0 : (nI i).toNatClampNeg = i := nI_clamp (by omega)
  have d1 : (nI (i + 1)).toNatClampNeg = i + 1 := nI_clamp (by omega)
  have d2 : (nI (i + 2)).toNatClampNeg = i + 2 := nI_clamp (by omega)
  have d3 : (nI (i + 3)).toNatClampNeg = i + 3 := nI_clamp (by omega)
  have d4 : (nI (i + 4)).toNatClampNeg = i + 4 := nI_clamp (by omega)
  have d5 : (nI (i + 5)).toNatClampNeg = i + 5 := nI_clamp (by omega)
  rw [x170_18]
  simp only [x170_19, x170_20, x170_21, x170_23, x170_24, x170_27, x170_28, x170_29, x170_30, x170_32, Option.toList_some, Option.toList_none, List.cons_append, List.nil_append, cat_i, cat_r, cat_n, cat_f, cs_n, cs_i, cs_r, cs_l, cs_f, Nat.reduceAdd, Nat.reduceLeDiff, Nat.zero_le, if_true, if_false, true_or, or_true, g0, b0, d0]
  rw [x170_33_7 hop]
  simp only [x170_443, x170_444, x170_445, x170_446, x170_447, x170_448, x170_449, x170_452, x170_453, x170_454, x170_455, x170_456, x170_457, x170_458, x170_461, x170_464, x170_465, x170_1400, x170_1403, Option.toList_some, Option.toList_none, List.cons_append, List.nil_append, cat_i, cat_r, cat_n, cat_f, cs_n, cs_i, cs_r, cs_l, cs_f, Nat.reduceAdd, Nat.reduceLeDiff, Nat.zero_le, if_true, if_false, true_or, or_true, nI_1, nI_p2, nI_p3, nI_p4, nI_p5, nI_p6, b1, b2, b3, b4, b5, d1, d2, d3, d4, d5, h1, h2]
theorem law_8 (hS : (∀ (u : Int64) (x : Int32), SimOK sv Inv 69 119 [.long u, .int x])) (hsv : (sv 2).1 = L) (hL : L ≤ 3072) (hi : i + 6 ≤ L) (hσ : Inv σ) (hop : ((sv 2).2 i &&& 63).toInt = 8) : ∃ σ2, Inv σ2 ∧ AW sv 170 18 [.float 2, .ref 0, .ref 71, .int (nI i)] [] (am_toH σ) 90 1596 Q = AW sv 170 18 [.float 2, .ref 0, .ref 71, .int (nI (i + 6))] [] (am_toH σ2) 90 1596 Q := by
  obtain ⟨v, σ1, σ2, h1, h2, h3⟩ := hS (((sv 2).2 (i + 1)).toInt64 <<< ((32 : Int32).toInt64 &&& 63) ||| ((sv 2).2 (i + 2)).toInt64 &&& 4294967295) ((sv 2).2 (i + 3)) σ hσ
  refine ⟨σ2, h3, ?_⟩
  have g0 := law_go hsv hL hi
  have b0 := law_in hsv hL (k := i) (by omega)
  have b1 := law_in hsv hL (k := i + 1) (by omega)
  have b2 := law_in hsv hL (k := i + 2) (by omega)
  have b3 := law_in hsv hL (k := i + 3) (by omega)
  have b4 := law_in hsv hL (k := i + 4) (by omega)
  have b5 := law_in hsv hL (k := i + 5) (by omega)
  have d0 : (nI i).toNatClampNeg = i := nI_clamp (by omega)
  have d1 : (nI (i + 1)).toNatClampNeg = i + 1 := nI_clamp (by omega)
  have d2 : (nI (i + 2)).toNatClampNeg = i + 2 := nI_clamp (by omega)
  have d3 : (nI (i + 3)).toNatClampNeg = i + 3 := nI_clamp (by omega)
  have d4 : (nI (i + 4)).toNatClampNeg = i + 4 := nI_clamp (by omega)
  have d5 : (nI (i + 5)).toNatClampNeg = i + 5 := nI_clamp (by omega)
  rw [x170_18]
  simp only [x170_19, x170_20, x170_21, x170_23, x170_24, x170_27, x170_28, x170_29, x170_30, x170_32, Option.toList_some, Option.toList_none, List.cons_append, List.nil_append, cat_i, cat_r, cat_n, cat_f, cs_n, cs_i, cs_r, cs_l, cs_f, Nat.reduceAdd, Nat.reduceLeDiff, Nat.zero_le, if_true, if_false, true_or, or_true, g0, b0, d0]
  rw [x170_33_8 hop]
  simp only [x170_466, x170_467, x170_468, x170_469, x170_470, x170_471, x170_472, x170_473, x170_475, x170_476, x170_477, x170_478, x170_479, x170_480, x170_481, x170_482, x170_485, x170_486, x170_487, x170_488, x170_489, x170_490, x170_491, x170_492, x170_495, x170_496, x170_497, x170_498, x170_499, x170_500, x170_501, x170_502, x170_504, x170_505, x170_506, x170_507, x170_508, x170_509, x170_510, x170_511, x170_514, x170_515, x170_516, x170_517, x170_518, x170_519, x170_520, x170_521, x170_524, x170_527, x170_528, x170_1400, x170_1403, Option.toList_some, Option.toList_none, List.cons_append, List.nil_append, cat_i, cat_r, cat_n, cat_f, cs_n, cs_i, cs_r, cs_l, cs_f, Nat.reduceAdd, Nat.reduceLeDiff, Nat.zero_le, if_true, if_false, true_or, or_true, nI_1, nI_p2, nI_p3, nI_p4, nI_p5, nI_p6, b1, b2, b3, b4, b5, d1, d2, d3, d4, d5, h1, h2]
theorem law_9 (hS : SimOK sv Inv 70 128 []) (hsv : (sv 2).1 = L) (hL : L ≤ 3072) (hi : i + 6 ≤ L) (hσ : Inv σ) (hop : ((sv 2).2 i &&& 63).toInt = 9) : ∃ σ2, Inv σ2 ∧ AW sv 170 18 [.float 2, .ref 0, .ref 71, .int (nI i)] [] (am_toH σ) 90 1596 Q = AW sv 170 18 [.float 2, .ref 0, .ref 71, .int (nI (i + 6))] [] (am_toH σ2) 90 1596 Q := by
  obtain ⟨v, σ1, σ2, h1, h2, h3⟩ := hS  σ hσ
  refine ⟨σ2, h3, ?_⟩
  have g0 := law_go hsv hL hi
  have b0 := law_in hsv hL (k := i) (by omega)
  have b1 := law_in hsv hL (k := i + 1) (by omega)
  have b2 := law_in hsv hL (k := i + 2) (by omega)
  have b3 := law_in hsv hL (k := i + 3) (by omega)
  have b4 := law_in hsv hL (k := i + 4) (by omega)
  have b5 := law_in hsv hL (k := i + 5) (by omega)
  have d0 : (nI i).toNatClampNeg = i := nI_clamp (by omega)
  have d1 : (nI (i + 1)).toNatClampNeg = i + 1 := nI_clamp (by omega)
  have d2 : (nI (i + 2)).toNatClampNeg = i + 2 := nI_clamp (by omega)
  have d3 : (nI (i + 3)).toNatClampNeg = i + 3 := nI_clamp (by omega)
  have d4 : (nI (i + 4)).toNatClampNeg = i + 4 := nI_clamp (by omega)
  have d5 : (nI (i + 5)).toNatClampNeg = i + 5 := nI_clamp (by omega)
  rw [x170_18]
  simp only [x170_19, x170_20, x170_21, x170_23, x170_24, x170_27, x170_28, x170_29, x170_30, x170_32, Option.toList_some, Option.toList_none, List.cons_append, List.nil_append, cat_i, cat_r, cat_n, cat_f, cs_n, cs_i, cs_r, cs_l, cs_f, Nat.reduceAdd, Nat.reduceLeDiff, Nat.zero_le, if_true, if_false, true_or, or_true, g0, b0, d0]
  rw [x170_33_9 hop]
  simp only [x170_529, x170_530, x170_533, x170_534, x170_537, x170_540, x170_541, x170_1400, x170_1403, Option.toList_some, Option.toList_none, List.cons_append, List.nil_append, cat_i, cat_r, cat_n, cat_f, cs_n, cs_i, cs_r, cs_l, cs_f, Nat.reduceAdd, Nat.reduceLeDiff, Nat.zero_le, if_true, if_false, true_or, or_true, nI_1, nI_p2, nI_p3, nI_p4, nI_p5, nI_p6, b1, b2, b3, b4, b5, d1, d2, d3, d4, d5, h1, h2]
theorem law_10 (hS : SimOK sv Inv 71 129 []) (hsv : (sv 2).1 = L) (hL : L ≤ 3072) (hi : i + 6 ≤ L) (hσ : Inv σ) (hop : ((sv 2).2 i &&& 63).toInt = 10) : ∃ σ2, Inv σ2 ∧ AW sv 170 18 [.float 2, .ref 0, .ref 71, .int (nI i)] [] (am_toH σ) 90 1596 Q = AW sv 170 18 [.float 2, .ref 0, .ref 71, .int (nI (i + 6))] [] (am_toH σ2) 90 1596 Q := by
  obtain ⟨v, σ1, σ2, h1, h2, h3⟩ := hS  σ hσ
  refine ⟨σ2, h3, ?_⟩
  have g0 := law_go hsv hL hi
  have b0 := law_in hsv hL (k := i) (by omega)
  have b1 := law_in hsv hL (k := i + 1) (by omega)
  have b2 := law_in hsv hL (k := i + 2) (by omega)
  have b3 := law_in hsv hL (k := i + 3) (by omega)
  have b4 := law_in hsv hL (k := i + 4) (by omega)
  have b5 := law_in hsv hL (k := i + 5) (by omega)
  have d0 : (nI i).toNatClampNeg = i := nI_clamp (by omega)
  have d1 : (nI (i + 1)).toNatClampNeg = i + 1 := nI_clamp (by omega)
  have d2 : (nI (i + 2)).toNatClampNeg = i + 2 := nI_clamp (by omega)
  have d3 : (nI (i + 3)).toNatClampNeg = i + 3 := nI_clamp (by omega)
  have d4 : (nI (i + 4)).toNatClampNeg = i + 4 := nI_clamp (by omega)
  have d5 : (nI (i + 5)).toNatClampNeg = i + 5 := nI_clamp (by omega)
  rw [x170_18]
  simp only [x170_19, x170_20, x170_21, x170_23, x170_24, x170_27, x170_28, x170_29, x170_30, x170_32, Option.toList_some, Option.toList_none, List.cons_append, List.nil_append, cat_i, cat_r, cat_n, cat_f, cs_n, cs_i, cs_r, cs_l, cs_f, Nat.reduceAdd, Nat.reduceLeDiff, Nat.zero_le, if_true, if_false, true_or, or_true, g0, b0, d0]
  rw [x170_33_10 hop]
  simp only [x170_542, x170_543, x170_546, x170_547, x170_550, x170_553, x170_554, x170_1400, x170_1403, Option.toList_some, Option.toList_none, List.cons_append, List.nil_append, cat_i, cat_r, cat_n, cat_f, cs_n, cs_i, cs_r, cs_l, cs_f, Nat.reduceAdd, Nat.reduceLeDiff, Nat.zero_le, if_true, if_false, true_or, or_true, nI_1, nI_p2, nI_p3, nI_p4, nI_p5, nI_p6, b1, b2, b3, b4, b5, d1, d2, d3, d4, d5, h1, h2]
theorem law_11 (hS : (∀ x0 : Int32, SimOK sv Inv 72 130 [.int x0])) (hsv : (sv 2).1 = L) (hL : L ≤ 3072) (hi : i + 6 ≤ L) (hσ : Inv σ) (hop : ((sv 2).2 i &&& 63).toInt = 11) : ∃ σ2, Inv σ2 ∧ AW sv 170 18 [.float 2, .ref 0, .ref 71, .int (nI i)] [] (am_toH σ) 90 1596 Q = AW sv 170 18 [.float 2, .ref 0, .ref 71, .int (nI (i + 6))] [] (am_toH σ2) 90 1596 Q := by
  obtain ⟨v, σ1, σ2, h1, h2, h3⟩ := hS ((sv 2).2 (i + 1)) σ hσ
  refine ⟨σ2, h3, ?_⟩
  have g0 := law_go hsv hL hi
  have b0 := law_in hsv hL (k := i) (by omega)
  have b1 := law_in hsv hL (k := i + 1) (by omega)
  have b2 := law_in hsv hL (k := i + 2) (by omega)
  have b3 := law_in hsv hL (k := i + 3) (by omega)
  have b4 := law_in hsv hL (k := i + 4) (by omega)
  have b5 := law_in hsv hL (k := i + 5) (by omega)
  have d0 : (nI i).toNatClampNeg = i := nI_clamp (by omega)
  have d1 : (nI (i + 1)).toNatClampNeg = i + 1 := nI_clamp (by omega)
  have d2 : (nI (i + 2)).toNatClampNeg = i + 2 := nI_clamp (by omega)
  have d3 : (nI (i + 3)).toNatClampNeg = i + 3 := nI_clamp (by omega)
  have d4 : (nI (i + 4)).toNatClampNeg = i + 4 := nI_clamp (by omega)
  have d5 : (nI (i + 5)).toNatClampNeg = i + 5 := nI_clamp (by omega)
  rw [x170_18]
  simp only [x170_19, x170_20, x170_21, x170_23, x170_24, x170_27, x170_28, x170_29, x170_30, x170_32, Option.toList_some, Option.toList_none, List.cons_append, List.nil_append, cat_i, cat_r, cat_n, cat_f, cs_n, cs_i, cs_r, cs_l, cs_f, Nat.reduceAdd, Nat.reduceLeDiff, Nat.zero_le, if_true, if_false, true_or, or_true, g0, b0, d0]
  rw [x170_33_11 hop]
  simp only [x170_555, x170_556, x170_557, x170_558, x170_559, x170_560, x170_561, x170_564, x170_565, x170_566, x170_567, x170_568, x170_569, x170_570, x170_573, x170_576, x170_577, x170_1400, x170_1403, Option.toList_some, Option.toList_none, List.cons_append, List.nil_append, cat_i, cat_r, cat_n, cat_f, cs_n, cs_i, cs_r, cs_l, cs_f, Nat.reduceAdd, Nat.reduceLeDiff, Nat.zero_le, if_true, if_false, true_or, or_true, nI_1, nI_p2, nI_p3, nI_p4, nI_p5, nI_p6, b1, b2, b3, b4, b5, d1, d2, d3, d4, d5, h1, h2]
theorem law_12 (hS : (∀ x0 x1 x2 x3 : Int32, SimOK sv Inv 73 132 [.int x0, .int x1, .int x2, .int x3])) (hsv : (sv 2).1 = L) (hL : L ≤ 3072) (hi : i + 6 ≤ L) (hσ : Inv σ) (hop : ((sv 2).2 i &&& 63).toInt = 12) : ∃ σ2, Inv σ2 ∧ AW sv 170 18 [.float 2, .ref 0, .ref 71, .int (nI i)] [] (am_toH σ) 90 1596 Q = AW sv 170 18 [.float 2, .ref 0, .ref 71, .int (nI (i + 6))] [] (am_toH σ2) 90 1596 Q := by
  obtain ⟨v, σ1, σ2, h1, h2, h3⟩ := hS ((sv 2).2 (i + 1)) ((sv 2).2 (i + 2)) ((sv 2).2 (i + 3)) ((sv 2).2 (i + 4)) σ hσ
  refine ⟨σ2, h3, ?_⟩
  have g0 := law_go hsv hL hi
  have b0 := law_in hsv hL (k := i) (by omega)
  have b1 := law_in hsv hL (k := i + 1) (by omega)
  have b2 := law_in hsv hL (k := i + 2) (by omega)
  have b3 := law_in hsv hL (k := i + 3) (by omega)
  have b4 := law_in hsv hL (k := i + 4) (by omega)
  have b5 := law_in hsv hL (k := i + 5) (by omega)
  have d0 : (nI i).toNatClampNeg = i := nI_clamp (by omega)
  have d1 : (nI (i + 1)).toNatClampNeg = i + 1 := nI_clamp (by omega)
  have d2 : (nI (i + 2)).toNatClampNeg = i + 2 := nI_clamp (by omega)
  have d3 : (nI (i + 3)).toNatClampNeg = i + 3 := nI_clamp (by omega)
  have d4 : (nI (i + 4)).toNatClampNeg = i + 4 := nI_clamp (by omega)
  have d5 : (nI (i + 5)).toNatClampNeg = i + 5 := nI_clamp (by omega)
  rw [x170_18]
  simp only [x170_19, x170_20, x170_21, x170_23, x170_24, x170_27, x170_28, x170_29, x170_30, x170_32, Option.toList_some, Option.toList_none, List.cons_append, List.nil_append, cat_i, cat_r, cat_n, cat_f, cs_n, cs_i, cs_r, cs_l, cs_f, Nat.reduceAdd, Nat.reduceLeDiff, Nat.zero_le, if_true, if_false, true_or, or_true, g0, b0, d0]
  rw [x170_33_12 hop]
  simp only [x170_578, x170_579, x170_580, x170_581, x170_582, x170_583, x170_584, x170_585, x170_586, x170_587, x170_588, x170_589, x170_590, x170_591, x170_592, x170_593, x170_594, x170_595, x170_596, x170_597, x170_598, x170_599, x170_602, x170_603, x170_604, x170_605, x170_606, x170_607, x170_608, x170_609, x170_610, x170_611, x170_612, x170_613, x170_614, x170_615, x170_616, x170_617, x170_618, x170_619, x170_620, x170_621, x170_622, x170_623, x170_626, x170_629, x170_630, x170_1400, x170_1403, Option.toList_some, Option.toList_none, List.cons_append, List.nil_append, cat_i, cat_r, cat_n, cat_f, cs_n, cs_i, cs_r, cs_l, cs_f, Nat.reduceAdd, Nat.reduceLeDiff, Nat.zero_le, if_true, if_false, true_or, or_true, nI_1, nI_p2, nI_p3, nI_p4, nI_p5, nI_p6, b1, b2, b3, b4, b5, d1, d2, d3, d4, d5, h1, h2]
theorem law_13 (hS : (∀ x0 x1 : Int32, SimOK sv Inv 74 134 [.int x0, .int x1])) (hsv : (sv 2).1 = L) (hL : L ≤ 3072) (hi : i + 6 ≤ L) (hσ : Inv σ) (hop : ((sv 2).2 i &&& 63).toInt = 13) : ∃ σ2, Inv σ2 ∧ AW sv 170 18 [.float 2, .ref 0, .ref 71, .int (nI i)] [] (am_toH σ) 90 1596 Q = AW sv 170 18 [.float 2, .ref 0, .ref 71, .int (nI (i + 6))] [] (am_toH σ2) 90 1596 Q := by
  obtain ⟨v, σ1, σ2, h1, h2, h3⟩ := hS ((sv 2).2 (i + 1)) ((sv 2).2 (i + 2)) σ hσ
  refine ⟨σ2, h3, ?_⟩
  have g0 := law_go hsv hL hi
  have b0 := law_in hsv hL (k := i) (by omega)
  have b1 := law_in hsv hL (k := i + 1) (by omega)
  have b2 := law_in hsv hL (k := i + 2) (by omega)
  have b3 := law_in hsv hL (k := i + 3) (by omega)
  have b4 := law_in hsv hL (k := i + 4) (by omega)
  have b5 := law_in hsv hL (k := i + 5) (by omega)
  have d0 : (nI i).toNatClampNeg = i := nI_clamp (by omega)
  have d1 : (nI (i + 1)).toNatClampNeg = i + 1 := nI_clamp (by omega)
  have d2 : (nI (i + 2)).toNatClampNeg = i + 2 := nI_clamp (by omega)
  have d3 : (nI (i + 3)).toNatClampNeg = i + 3 := nI_clamp (by omega)
  have d4 : (nI (i + 4)).toNatClampNeg = i + 4 := nI_clamp (by omega)
  have d5 : (nI (i + 5)).toNatClampNeg = i + 5 := nI_clamp (by omega)
  rw [x170_18]
  simp only [x170_19, x170_20, x170_21, x170_23, x170_24, x170_27, x170_28, x170_29, x170_30, x170_32, Option.toList_some, Option.toList_none, List.cons_append, List.nil_append, cat_i, cat_r, cat_n, cat_f, cs_n, cs_i, cs_r, cs_l, cs_f, Nat.reduceAdd, Nat.reduceLeDiff, Nat.zero_le, if_true, if_false, true_or, or_true, g0, b0, d0]
  rw [x170_33_13 hop]
  simp only [x170_631, x170_632, x170_633, x170_634, x170_635, x170_636, x170_637, x170_638, x170_639, x170_640, x170_641, x170_642, x170_645, x170_646, x170_647, x170_648, x170_649, x170_650, x170_651, x170_652, x170_653, x170_654, x170_655, x170_656, x170_659, x170_662, x170_663, x170_1400, x170_1403, Option.toList_some, Option.toList_none, List.cons_append, List.nil_append, cat_i, cat_r, cat_n, cat_f, cs_n, cs_i, cs_r, cs_l, cs_f, Nat.reduceAdd, Nat.reduceLeDiff, Nat.zero_le, if_true, if_false, true_or, or_true, nI_1, nI_p2, nI_p3, nI_p4, nI_p5, nI_p6, b1, b2, b3, b4, b5, d1, d2, d3, d4, d5, h1, h2]
theorem law_14 (hS : (∀ x0 x1 : Int32, SimOK sv Inv 75 136 [.int x0, .int x1])) (hsv : (sv 2).1 = L) (hL : L ≤ 3072) (hi : i + 6 ≤ L) (hσ : Inv σ) (hop : ((sv 2).2 i &&& 63).toInt = 14) : ∃ σ2, Inv σ2 ∧ AW sv 170 18 [.float 2, .ref 0, .ref 71, .int (nI i)] [] (am_toH σ) 90 1596 Q = AW sv 170 18 [.float 2, .ref 0, .ref 71, .int (nI (i + 6))] [] (am_toH σ2) 90 1596 Q := by
  obtain ⟨v, σ1, σ2, h1, h2, h3⟩ := hS ((sv 2).2 (i + 1)) ((sv 2).2 (i + 2)) σ hσ
  refine ⟨σ2, h3, ?_⟩
  have g0 := law_go hsv hL hi
  have b0 := law_in hsv hL (k := i) (by omega)
  have b1 := law_in hsv hL (k := i + 1) (by omega)
  have b2 := law_in hsv hL (k := i + 2) (by omega)
  have b3 := law_in hsv hL (k := i + 3) (by omega)
  have b4 := law_in hsv hL (k := i + 4) (by omega)
  have b5 := law_in hsv hL (k := i + 5) (by omega)
  have d0 : (nI i).toNatClampNeg = i := nI_clamp (by omega)
  have d1 : (nI (i + 1)).toNatClampNeg = i + 1 := nI_clamp (by omega)
  have d2 : (nI (i + 2)).toNatClampNeg = i + 2 := nI_clamp (by omega)
  have d3 : (nI (i + 3)).toNatClampNeg = i + 3 := nI_clamp (by omega)
  have d4 : (nI (i + 4)).toNatClampNeg = i + 4 := nI_clamp (by omega)
  have d5 : (nI (i + 5)).toNatClampNeg = i + 5 := nI_clamp (by omega)
  rw [x170_18]
  simp only [x170_19, x170_20, x170_21, x170_23, x170_24, x170_27, x170_28, x170_29, x170_30, x170_32, Option.toList_some, Option.toList_none, List.cons_append, List.nil_append, cat_i, cat_r, cat_n, cat_f, cs_n, cs_i, cs_r, cs_l, cs_f, Nat.reduceAdd, Nat.reduceLeDiff, Nat.zero_le, if_true, if_false, true_or, or_true, g0, b0, d0]
  rw [x170_33_14 hop]
  simp only [x170_664, x170_665, x170_666, x170_667, x170_668, x170_669, x170_670, x170_671, x170_672, x170_673, x170_674, x170_675, x170_678, x170_679, x170_680, x170_681, x170_682, x170_683, x170_684, x170_685, x170_686, x170_687, x170_688, x170_689, x170_692, x170_695, x170_696, x170_1400, x170_1403, Option.toList_some, Option.toList_none, List.cons_append, List.nil_append, cat_i, cat_r, cat_n, cat_f, cs_n, cs_i, cs_r, cs_l, cs_f, Nat.reduceAdd, Nat.reduceLeDiff, Nat.zero_le, if_true, if_false, true_or, or_true, nI_1, nI_p2, nI_p3, nI_p4, nI_p5, nI_p6, b1, b2, b3, b4, b5, d1, d2, d3, d4, d5, h1, h2]
theorem law_15 (hS : (∀ x0 x1 x2 x3 : Int32, SimOK sv Inv 76 138 [.int x0, .int x1, .int x2, .int x3])) (hsv : (sv 2).1 = L) (hL : L ≤ 3072) (hi : i + 6 ≤ L) (hσ : Inv σ) (hop : ((sv 2).2 i &&& 63).toInt = 15) : ∃ σ2, Inv σ2 ∧ AW sv 170 18 [.float 2, .ref 0, .ref 71, .int (nI i)] [] (am_toH σ) 90 1596 Q = AW sv 170 18 [.float 2, .ref 0, .ref 71, .int (nI (i + 6))] [] (am_toH σ2) 90 1596 Q := by
  obtain ⟨v, σ1, σ2, h1, h2, h3⟩ := hS ((sv 2).2 (i + 1)) ((sv 2).2 (i + 2)) ((sv 2).2 (i + 3)) ((sv 2).2 (i + 4)) σ hσ
  refine ⟨σ2, h3, ?_⟩
  have g0 := law_go hsv hL hi
  have b0 := law_in hsv hL (k := i) (by omega)
  have b1 := law_in hsv hL (k := i + 1) (by omega)
  have b2 := law_in hsv hL (k := i + 2) (by omega)
  have b3 := law_in hsv hL (k := i + 3) (by omega)
  have b4 := law_in hsv hL (k := i + 4) (by omega)
  have b5 := law_in hsv hL (k := i + 5) (by omega)
  have d0 : (nI i).toNatClampNeg = i := nI_clamp (by omega)
  have d1 : (nI (i + 1)).toNatClampNeg = i + 1 := nI_clamp (by omega)
  have d2 : (nI (i + 2)).toNatClampNeg = i + 2 := nI_clamp (by omega)
  have d3 : (nI (i + 3)).toNatClampNeg = i + 3 := nI_clamp (by omega)
  have d4 : (nI (i + 4)).toNatClampNeg = i + 4 := nI_clamp (by omega)
  have d5 : (nI (i + 5)).toNatClampNeg = i + 5 := nI_clamp (by omega)
  rw [x170_18]
  simp only [x170_19, x170_20, x170_21, x170_23, x170_24, x170_27, x170_28, x170_29, x170_30, x170_32, Option.toList_some, Option.toList_none, List.cons_append, List.nil_append, cat_i, cat_r, cat_n, cat_f, cs_n, cs_i, cs_r, cs_l, cs_f, Nat.reduceAdd, Nat.reduceLeDiff, Nat.zero_le, if_true, if_false, true_or, or_true, g0, b0, d0]
  rw [x170_33_15 hop]
  simp only [x170_697, x170_698, x170_699, x170_700, x170_701, x170_702, x170_703, x170_704, x170_705, x170_706, x170_707, x170_708, x170_709, x170_710, x170_711, x170_712, x170_713, x170_714, x170_715, x170_716, x170_717, x170_718, x170_721, x170_722, x170_723, x170_724, x170_725, x170_726, x170_727, x170_728, x170_729, x170_730, x170_731, x170_732, x170_733, x170_734, x170_735, x170_736, x170_737, x170_738, x170_739, x170_740, x170_741, x170_742, x170_745, x170_748, x170_749, x170_1400, x170_1403, Option.toList_some, Option.toList_none, List.cons_append, List.nil_append, cat_i, cat_r, cat_n, cat_f, cs_n, cs_i, cs_r, cs_l, cs_f, Nat.reduceAdd, Nat.reduceLeDiff, Nat.zero_le, if_true, if_false, true_or, or_true, nI_1, nI_p2, nI_p3, nI_p4, nI_p5, nI_p6, b1, b2, b3, b4, b5, d1, d2, d3, d4, d5, h1, h2]
theorem law_16 (hS : (∀ x0 x1 : Int32, SimOK sv Inv 77 141 [.int x0, .int x1])) (hsv : (sv 2).1 = L) (hL : L ≤ 3072) (hi : i + 6 ≤ L) (hσ : Inv σ) (hop : ((sv 2).2 i &&& 63).toInt = 16) : ∃ σ2, Inv σ2 ∧ AW sv 170 18 [.float 2, .ref 0, .ref 71, .int (nI i)] [] (am_toH σ) 90 1596 Q = AW sv 170 18 [.float 2, .ref 0, .ref 71, .int (nI (i + 6))] [] (am_toH σ2) 90 1596 Q := by
  obtain ⟨v, σ1, σ2, h1, h2, h3⟩ := hS ((sv 2).2 (i + 1)) ((sv 2).2 (i + 2)) σ hσ
  refine ⟨σ2, h3, ?_⟩
  have g0 := law_go hsv hL hi
  have b0 := law_in hsv hL (k := i) (by omega)
  have b1 := law_in hsv hL (k := i + 1) (by omega)
  have b2 := law_in hsv hL (k := i + 2) (by omega)
  have b3 := law_in hsv hL (k := i + 3) (by omega)
  have b4 := law_in hsv hL (k := i + 4) (by omega)
  have b5 := law_in hsv hL (k := i + 5) (by omega)
  have d0 : (nI i).toNatClampNeg = i := nI_clamp (by omega)
  have d1 : (nI (i + 1)).toNatClampNeg = i + 1 := nI_clamp (by omega)
  have d2 : (nI (i + 2)).toNatClampNeg = i + 2 := nI_clamp (by omega)
  have d3 : (nI (i + 3)).toNatClampNeg = i + 3 := nI_clamp (by omega)
  have d4 : (nI (i + 4)).toNatClampNeg = i + 4 := nI_clamp (by omega)
  have d5 : (nI (i + 5)).toNatClampNeg = i + 5 := nI_clamp (by omega)
  rw [x170_18]
  simp only [x170_19, x170_20, x170_21, x170_23, x170_24, x170_27, x170_28, x170_29, x170_30, x170_32, Option.toList_some, Option.toList_none, List.cons_append, List.nil_append, cat_i, cat_r, cat_n, cat_f, cs_n, cs_i, cs_r, cs_l, cs_f, Nat.reduceAdd, Nat.reduceLeDiff, Nat.zero_le, if_true, if_false, true_or, or_true, g0, b0, d0]
  rw [x170_33_16 hop]
  simp only [x170_750, x170_751, x170_752, x170_753, x170_754, x170_755, x170_756, x170_757, x170_758, x170_759, x170_760, x170_761, x170_764, x170_765, x170_766, x170_767, x170_768, x170_769, x170_770, x170_771, x170_772, x170_773, x170_774, x170_775, x170_778, x170_781, x170_782, x170_1400, x170_1403, Option.toList_some, Option.toList_none, List.cons_append, List.nil_append, cat_i, cat_r, cat_n, cat_f, cs_n, cs_i, cs_r, cs_l, cs_f, Nat.reduceAdd, Nat.reduceLeDiff, Nat.zero_le, if_true, if_false, true_or, or_true, nI_1, nI_p2, nI_p3, nI_p4, nI_p5, nI_p6, b1, b2, b3, b4, b5, d1, d2, d3, d4, d5, h1, h2]
theorem law_17 (hS : (∀ x0 x1 : Int32, SimOK sv Inv 78 142 [.int x0, .int x1])) (hsv : (sv 2).1 = L) (hL : L ≤ 3072) (hi : i + 6 ≤ L) (hσ : Inv σ) (hop : ((sv 2).2 i &&& 63).toInt = 17) : ∃ σ2, Inv σ2 ∧ AW sv 170 18 [.float 2, .ref 0, .ref 71, .int (nI i)] [] (am_toH σ) 90 1596 Q = AW sv 170 18 [.float 2, .ref 0, .ref 71, .int (nI (i + 6))] [] (am_toH σ2) 90 1596 Q := by
  obtain ⟨v, σ1, σ2, h1, h2, h3⟩ := hS ((sv 2).2 (i + 1)) ((sv 2).2 (i + 2)) σ hσ
  refine ⟨σ2, h3, ?_⟩
  have g0 := law_go hsv hL hi
  have b0 := law_in hsv hL (k := i) (by omega)
  have b1 := law_in hsv hL (k := i + 1) (by omega)
  have b2 := law_in hsv hL (k := i + 2) (by omega)
  have b3 := law_in hsv hL (k := i + 3) (by omega)
  have b4 := law_in hsv hL (k := i + 4) (by omega)
  have b5 := law_in hsv hL (k := i + 5) (by omega)
  have d0 : (nI i).toNatClampNeg = i := nI_clamp (by omega)
  have d1 : (nI (i + 1)).toNatClampNeg = i + 1 := nI_clamp (by omega)
  have d2 : (nI (i + 2)).toNatClampNeg = i + 2 := nI_clamp (by omega)
  have d3 : (nI (i + 3)).toNatClampNeg = i + 3 := nI_clamp (by omega)
  have d4 : (nI (i + 4)).toNatClampNeg = i + 4 := nI_clamp (by omega)
  have d5 : (nI (i + 5)).toNatClampNeg = i + 5 := nI_clamp (by omega)
  rw [x170_18]
  simp only [x170_19, x170_20, x170_21, x170_23, x170_24, x170_27, x170_28, x170_29, x170_30, x170_32, Option.toList_some, Option.toList_none, List.cons_append, List.nil_append, cat_i, cat_r, cat_n, cat_f, cs_n, cs_i, cs_r, cs_l, cs_f, Nat.reduceAdd, Nat.reduceLeDiff, Nat.zero_le, if_true, if_false, true_or, or_true, g0, b0, d0]
  rw [x170_33_17 hop]
  simp only [x170_783, x170_784, x170_785, x170_786, x170_787, x170_788, x170_789, x170_790, x170_791, x170_792, x170_793, x170_794, x170_797, x170_798, x170_799, x170_800, x170_801, x170_802, x170_803, x170_804, x170_805, x170_806, x170_807, x170_808, x170_811, x170_814, x170_815, x170_1400, x170_1403, Option.toList_some, Option.toList_none, List.cons_append, List.nil_append, cat_i, cat_r, cat_n, cat_f, cs_n, cs_i, cs_r, cs_l, cs_f, Nat.reduceAdd, Nat.reduceLeDiff, Nat.zero_le, if_true, if_false, true_or, or_true, nI_1, nI_p2, nI_p3, nI_p4, nI_p5, nI_p6, b1, b2, b3, b4, b5, d1, d2, d3, d4, d5, h1, h2]
theorem law_18 (hS : (∀ x0 x1 x2 x3 : Int32, SimOK sv Inv 79 143 [.int x0, .int x1, .int x2, .int x3])) (hsv : (sv 2).1 = L) (hL : L ≤ 3072) (hi : i + 6 ≤ L) (hσ : Inv σ) (hop : ((sv 2).2 i &&& 63).toInt = 18) : ∃ σ2, Inv σ2 ∧ AW sv 170 18 [.float 2, .ref 0, .ref 71, .int (nI i)] [] (am_toH σ) 90 1596 Q = AW sv 170 18 [.float 2, .ref 0, .ref 71, .int (nI (i + 6))] [] (am_toH σ2) 90 1596 Q := by
  obtain ⟨v, σ1, σ2, h1, h2, h3⟩ := hS ((sv 2).2 (i + 1)) ((sv 2).2 (i + 2)) ((sv 2).2 (i + 3)) ((sv 2).2 (i + 4)) σ hσ
  refine ⟨σ2, h3, ?_⟩
  have g0 := law_go hsv hL hi
  have b0 := law_in hsv hL (k := i) (by omega)
  have b1 := law_in hsv hL (k := i + 1) (by omega)
  have b2 := law_in hsv hL (k := i + 2) (by omega)
  have b3 := law_in hsv hL (k := i + 3) (by omega)
  have b4 := law_in hsv hL (k := i + 4) (by omega)
  have b5 := law_in hsv hL (k := i + 5) (by omega)
  have d0 : (nI i).toNatClampNeg = i := nI_clamp (by omega)
  have d1 : (nI (i + 1)).toNatClampNeg = i + 1 := nI_clamp (by omega)
  have d2 : (nI (i + 2)).toNatClampNeg = i + 2 := nI_clamp (by omega)
  have d3 : (nI (i + 3)).toNatClampNeg = i + 3 := nI_clamp (by omega)
  have d4 : (nI (i + 4)).toNatClampNeg = i + 4 := nI_clamp (by omega)
  have d5 : (nI (i + 5)).toNatClampNeg = i + 5 := nI_clamp (by omega)
  rw [x170_18]
  simp only [x170_19, x170_20, x170_21, x170_23, x170_24, x170_27, x170_28, x170_29, x170_30, x170_32, Option.toList_some, Option.toList_none, List.cons_append, List.nil_append, cat_i, cat_r, cat_n, cat_f, cs_n, cs_i, cs_r, cs_l, cs_f, Nat.reduceAdd, Nat.reduceLeDiff, Nat.zero_le, if_true, if_false, true_or, or_true, g0, b0, d0]
  rw [x170_33_18 hop]
  simp only [x170_816, x170_817, x170_818, x170_819, x170_820, x170_821, x170_822, x170_823, x170_824, x170_825, x170_826, x170_827, x170_828, x170_829, x170_830, x170_831, x170_832, x170_833, x170_834, x170_835, x170_836, x170_837, x170_840, x170_841, x170_842, x170_843, x170_844, x170_845, x170_846, x170_847, x170_848, x170_849, x170_850, x170_851, x170_852, x170_853, x170_854, x170_855, x170_856, x170_857, x170_858, x170_859, x170_860, x170_861, x170_864, x170_867, x170_868, x170_1400, x170_1403, Option.toList_some, Option.toList_none, List.cons_append, List.nil_append, cat_i, cat_r, cat_n, cat_f, cs_n, cs_i, cs_r, cs_l, cs_f, Nat.reduceAdd, Nat.reduceLeDiff, Nat.zero_le, if_true, if_false, true_or, or_true, nI_1, nI_p2, nI_p3, nI_p4, nI_p5, nI_p6, b1, b2, b3, b4, b5, d1, d2, d3, d4, d5, h1, h2]
theorem law_19 (hS : (∀ x0 x1 : Int32, SimOK sv Inv 80 145 [.int x0, .int x1])) (hsv : (sv 2).1 = L) (hL : L ≤ 3072) (hi : i + 6 ≤ L) (hσ : Inv σ) (hop : ((sv 2).2 i &&& 63).toInt = 19) : ∃ σ2, Inv σ2 ∧ AW sv 170 18 [.float 2, .ref 0, .ref 71, .int (nI i)] [] (am_toH σ) 90 1596 Q = AW sv 170 18 [.float 2, .ref 0, .ref 71, .int (nI (i + 6))] [] (am_toH σ2) 90 1596 Q := by
  obtain ⟨v, σ1, σ2, h1, h2, h3⟩ := hS ((sv 2).2 (i + 1)) ((sv 2).2 (i + 2)) σ hσ
  refine ⟨σ2, h3, ?_⟩
  have g0 := law_go hsv hL hi
  have b0 := law_in hsv hL (k := i) (by omega)
  have b1 := law_in hsv hL (k := i + 1) (by omega)
  have b2 := law_in hsv hL (k := i + 2) (by omega)
  have b3 := law_in hsv hL (k := i + 3) (by omega)
  have b4 := law_in hsv hL (k := i + 4) (by omega)
  have b5 := law_in hsv hL (k := i + 5) (by omega)
  have d0 : (nI i).toNatClampNeg = i := nI_clamp (by omega)
  have d1 : (nI (i + 1)).toNatClampNeg = i + 1 := nI_clamp (by omega)
  have d2 : (nI (i + 2)).toNatClampNeg = i + 2 := nI_clamp (by omega)
  have d3 : (nI (i + 3)).toNatClampNeg = i + 3 := nI_clamp (by omega)
  have d4 : (nI (i + 4)).toNatClampNeg = i + 4 := nI_clamp (by omega)
  have d5 : (nI (i + 5)).toNatClampNeg = i + 5 := nI_clamp (by omega)
  rw [x170_18]
  simp only [x170_19, x170_20, x170_21, x170_23, x170_24, x170_27, x170_28, x170_29, x170_30, x170_32, Option.toList_some, Option.toList_none, List.cons_append, List.nil_append, cat_i, cat_r, cat_n, cat_f, cs_n, cs_i, cs_r, cs_l, cs_f, Nat.reduceAdd, Nat.reduceLeDiff, Nat.zero_le, if_true, if_false, true_or, or_true, g0, b0, d0]
  rw [x170_33_19 hop]
  simp only [x170_869, x170_870, x170_871, x170_872, x170_873, x170_874, x170_875, x170_876, x170_877, x170_878, x170_879, x170_880, x170_883, x170_884, x170_885, x170_886, x170_887, x170_888, x170_889, x170_890, x170_891, x170_892, x170_893, x170_894, x170_897, x170_900, x170_901, x170_1400, x170_1403, Option.toList_some, Option.toList_none, List.cons_append, List.nil_append, cat_i, cat_r, cat_n, cat_f, cs_n, cs_i, cs_r, cs_l, cs_f, Nat.reduceAdd, Nat.reduceLeDiff, Nat.zero_le, if_true, if_false, true_or, or_true, nI_1, nI_p2, nI_p3, nI_p4, nI_p5, nI_p6, b1, b2, b3, b4, b5, d1, d2, d3, d4, d5, h1, h2]
theorem law_20 (hS : (∀ x0 x1 : Int32, SimOK sv Inv 81 146 [.int x0, .int x1])) (hsv : (sv 2).1 = L) (hL : L ≤ 3072) (hi : i + 6 ≤ L) (hσ : Inv σ) (hop : ((sv 2).2 i &&& 63).toInt = 20) : ∃ σ2, Inv σ2 ∧ AW sv 170 18 [.float 2, .ref 0, .ref 71, .int (nI i)] [] (am_toH σ) 90 1596 Q = AW sv 170 18 [.float 2, .ref 0, .ref 71, .int (nI (i + 6))] [] (am_toH σ2) 90 1596 Q := by
  obtain ⟨v, σ1, σ2, h1, h2, h3⟩ := hS ((sv 2).2 (i + 1)) ((sv 2).2 (i + 2)) σ hσ
  refine ⟨σ2, h3, ?_⟩
  have g0 := law_go hsv hL hi
  have b0 := law_in hsv hL (k := i) (by omega)
  have b1 := law_in hsv hL (k := i + 1) (by omega)
  have b2 := law_in hsv hL (k := i + 2) (by omega)
  have b3 := law_in hsv hL (k := i + 3) (by omega)
  have b4 := law_in hsv hL (k := i + 4) (by omega)
  have b5 := law_in hsv hL (k := i + 5) (by omega)
  have d0 : (nI i).toNatClampNeg = i := nI_clamp (by omega)
  have d1 : (nI (i + 1)).toNatClampNeg = i + 1 := nI_clamp (by omega)
  have d2 : (nI (i + 2)).toNatClampNeg = i + 2 := nI_clamp (by omega)
  have d3 : (nI (i + 3)).toNatClampNeg = i + 3 := nI_clamp (by omega)
  have d4 : (nI (i + 4)).toNatClampNeg = i + 4 := nI_clamp (by omega)
  have d5 : (nI (i + 5)).toNatClampNeg = i + 5 := nI_clamp (by omega)
  rw [x170_18]
  simp only [x170_19, x170_20, x170_21, x170_23, x170_24, x170_27, x170_28, x170_29, x170_30, x170_32, Option.toList_some, Option.toList_none, List.cons_append, List.nil_append, cat_i, cat_r, cat_n, cat_f, cs_n, cs_i, cs_r, cs_l, cs_f, Nat.reduceAdd, Nat.reduceLeDiff, Nat.zero_le, if_true, if_false, true_or, or_true, g0, b0, d0]
  rw [x170_33_20 hop]
  simp only [x170_902, x170_903, x170_904, x170_905, x170_906, x170_907, x170_908, x170_909, x170_910, x170_911, x170_912, x170_913, x170_916, x170_917, x170_918, x170_919, x170_920, x170_921, x170_922, x170_923, x170_924, x170_925, x170_926, x170_927, x170_930, x170_933, x170_934, x170_1400, x170_1403, Option.toList_some, Option.toList_none, List.cons_append, List.nil_append, cat_i, cat_r, cat_n, cat_f, cs_n, cs_i, cs_r, cs_l, cs_f, Nat.reduceAdd, Nat.reduceLeDiff, Nat.zero_le, if_true, if_false, true_or, or_true, nI_1, nI_p2, nI_p3, nI_p4, nI_p5, nI_p6, b1, b2, b3, b4, b5, d1, d2, d3, d4, d5, h1, h2]
theorem law_21 (hS : SimOK sv Inv 82 147 []) (hsv : (sv 2).1 = L) (hL : L ≤ 3072) (hi : i + 6 ≤ L) (hσ : Inv σ) (hop : ((sv 2).2 i &&& 63).toInt = 21) : ∃ σ2, Inv σ2 ∧ AW sv 170 18 [.float 2, .ref 0, .ref 71, .int (nI i)] [] (am_toH σ) 90 1596 Q = AW sv 170 18 [.float 2, .ref 0, .ref 71, .int (nI (i + 6))] [] (am_toH σ2) 90 1596 Q := by
  obtain ⟨v, σ1, σ2, h1, h2, h3⟩ := hS  σ hσ
  refine ⟨σ2, h3, ?_⟩
  have g0 := law_go hsv hL hi
  have b0 := law_in hsv hL (k := i) (by omega)
  have b1 := law_in hsv hL (k := i + 1) (by omega)
  have b2 := law_in hsv hL (k := i + 2) (by omega)
  have b3 := law_in hsv hL (k := i + 3) (by omega)
  have b4 := law_in hsv hL (k := i + 4) (by omega)
  have b5 := law_in hsv hL (k := i + 5) (by omega)
  have d0 : (nI i).toNatClampNeg = i := nI_clamp (by omega)
  have d1 : (nI (i + 1)).toNatClampNeg = i + 1 := nI_clamp (by omega)
  have d2 : (nI (i + 2)).toNatClampNeg = i + 2 := nI_clamp (by omega)
  have d3 : (nI (i + 3)).toNatClampNeg = i + 3 := nI_clamp (by omega)
  have d4 : (nI (i + 4)).toNatClampNeg = i + 4 := nI_clamp (by omega)
  have d5 : (nI (i + 5)).toNatClampNeg = i + 5 := nI_clamp (by omega)
  rw [x170_18]
  simp only [x170_19, x170_20, x170_21, x170_23, x170_24, x170_27, x170_28, x170_29, x170_30, x170_32, Option.toList_some, Option.toList_none, List.cons_append, List.nil_append, cat_i, cat_r, cat_n, cat_f, cs_n, cs_i, cs_r, cs_l, cs_f, Nat.reduceAdd, Nat.reduceLeDiff, Nat.zero_le, if_true, if_false, true_or, or_true, g0, b0, d0]
  rw [x170_33_21 hop]
  simp only [x170_935, x170_936, x170_939, x170_940, x170_943, x170_946, x170_947, x170_1400, x170_1403, Option.toList_some, Option.toList_none, List.cons_append, List.nil_append, cat_i, cat_r, cat_n, cat_f, cs_n, cs_i, cs_r, cs_l, cs_f, Nat.reduceAdd, Nat.reduceLeDiff, Nat.zero_le, if_true, if_false, true_or, or_true, nI_1, nI_p2, nI_p3, nI_p4, nI_p5, nI_p6, b1, b2, b3, b4, b5, d1, d2, d3, d4, d5, h1, h2]
theorem law_22 (hS : (∀ x0 : Int32, SimOK sv Inv 83 148 [.int x0])) (hsv : (sv 2).1 = L) (hL : L ≤ 3072) (hi : i + 6 ≤ L) (hσ : Inv σ) (hop : ((sv 2).2 i &&& 63).toInt = 22) : ∃ σ2, Inv σ2 ∧ AW sv 170 18 [.float 2, .ref 0, .ref 71, .int (nI i)] [] (am_toH σ) 90 1596 Q = AW sv 170 18 [.float 2, .ref 0, .ref 71, .int (nI (i + 6))] [] (am_toH σ2) 90 1596 Q := by
  obtain ⟨v, σ1, σ2, h1, h2, h3⟩ := hS ((sv 2).2 (i + 1)) σ hσ
  refine ⟨σ2, h3, ?_⟩
  have g0 := law_go hsv hL hi
  have b0 := law_in hsv hL (k := i) (by omega)
  have b1 := law_in hsv hL (k := i + 1) (by omega)
  have b2 := law_in hsv hL (k := i + 2) (by omega)
  have b3 := law_in hsv hL (k := i + 3) (by omega)
  have b4 := law_in hsv hL (k := i + 4) (by omega)
  have b5 := law_in hsv hL (k := i + 5) (by omega)
  have d0 : (nI i).toNatClampNeg = i := nI_clamp (by omega)
  have d1 : (nI (i + 1)).toNatClampNeg = i + 1 := nI_clamp (by omega)
  have d2 : (nI (i + 2)).toNatClampNeg = i + 2 := nI_clamp (by omega)
  have d3 : (nI (i + 3)).toNatClampNeg = i + 3 := nI_clamp (by omega)
  have d4 : (nI (i + 4)).toNatClampNeg = i + 4 := nI_clamp (by omega)
  have d5 : (nI (i + 5)).toNatClampNeg = i + 5 := nI_clamp (by omega)
  rw [x170_18]
  simp only [x170_19, x170_20, x170_21, x170_23, x170_24, x170_27, x170_28, x170_29, x170_30, x170_32, Option.toList_some, Option.toList_none, List.cons_append, List.nil_append, cat_i, cat_r, cat_n, cat_f, cs_n, cs_i, cs_r, cs_l, cs_f, Nat.reduceAdd, Nat.reduceLeDiff, Nat.zero_le, if_true, if_false, true_or, or_true, g0, b0, d0]
  rw [x170_33_22 hop]
  simp only [x170_948, x170_949, x170_950, x170_951, x170_952, x170_953, x170_954, x170_957, x170_958, x170_959, x170_960, x170_961, x170_962, x170_963, x170_966, x170_969, x170_970, x170_1400, x170_1403, Option.toList_some, Option.toList_none, List.cons_append, List.nil_append, cat_i, cat_r, cat_n, cat_f, cs_n, cs_i, cs_r, cs_l, cs_f, Nat.reduceAdd, Nat.reduceLeDiff, Nat.zero_le, if_true, if_false, true_or, or_true, nI_1, nI_p2, nI_p3, nI_p4, nI_p5, nI_p6, b1, b2, b3, b4, b5, d1, d2, d3, d4, d5, h1, h2]
theorem law_23 (hS : SimOK sv Inv 84 149 []) (hsv : (sv 2).1 = L) (hL : L ≤ 3072) (hi : i + 6 ≤ L) (hσ : Inv σ) (hop : ((sv 2).2 i &&& 63).toInt = 23) : ∃ σ2, Inv σ2 ∧ AW sv 170 18 [.float 2, .ref 0, .ref 71, .int (nI i)] [] (am_toH σ) 90 1596 Q = AW sv 170 18 [.float 2, .ref 0, .ref 71, .int (nI (i + 6))] [] (am_toH σ2) 90 1596 Q := by
  obtain ⟨v, σ1, σ2, h1, h2, h3⟩ := hS  σ hσ
  refine ⟨σ2, h3, ?_⟩
  have g0 := law_go hsv hL hi
  have b0 := law_in hsv hL (k := i) (by omega)
  have b1 := law_in hsv hL (k := i + 1) (by omega)
  have b2 := law_in hsv hL (k := i + 2) (by omega)
  have b3 := law_in hsv hL (k := i + 3) (by omega)
  have b4 := law_in hsv hL (k := i + 4) (by omega)
  have b5 := law_in hsv hL (k := i + 5) (by omega)
  have d0 : (nI i).toNatClampNeg = i := nI_clamp (by omega)
  have d1 : (nI (i + 1)).toNatClampNeg = i + 1 := nI_clamp (by omega)
  have d2 : (nI (i + 2)).toNatClampNeg = i + 2 := nI_clamp (by omega)
  have d3 : (nI (i + 3)).toNatClampNeg = i + 3 := nI_clamp (by omega)
  have d4 : (nI (i + 4)).toNatClampNeg = i + 4 := nI_clamp (by omega)
  have d5 : (nI (i + 5)).toNatClampNeg = i + 5 := nI_clamp (by omega)
  rw [x170_18]
  simp only [x170_19, x170_20, x170_21, x170_23, x170_24, x170_27, x170_28, x170_29, x170_30, x170_32, Option.toList_some, Option.toList_none, List.cons_append, List.nil_append, cat_i, cat_r, cat_n, cat_f, cs_n, cs_i, cs_r, cs_l, cs_f, Nat.reduceAdd, Nat.reduceLeDiff, Nat.zero_le, if_true, if_false, true_or, or_true, g0, b0, d0]
  rw [x170_33_23 hop]
  simp only [x170_971, x170_972, x170_975, x170_976, x170_979, x170_982, x170_983, x170_1400, x170_1403, Option.toList_some, Option.toList_none, List.cons_append, List.nil_append, cat_i, cat_r, cat_n, cat_f, cs_n, cs_i, cs_r, cs_l, cs_f, Nat.reduceAdd, Nat.reduceLeDiff, Nat.zero_le, if_true, if_false, true_or, or_true, nI_1, nI_p2, nI_p3, nI_p4, nI_p5, nI_p6, b1, b2, b3, b4, b5, d1, d2, d3, d4, d5, h1, h2]
theorem law_24 (hS : (∀ x0 : Int32, SimOK sv Inv 85 151 [.int x0])) (hsv : (sv 2).1 = L) (hL : L ≤ 3072) (hi : i + 6 ≤ L) (hσ : Inv σ) (hop : ((sv 2).2 i &&& 63).toInt = 24) : ∃ σ2, Inv σ2 ∧ AW sv 170 18 [.float 2, .ref 0, .ref 71, .int (nI i)] [] (am_toH σ) 90 1596 Q = AW sv 170 18 [.float 2, .ref 0, .ref 71, .int (nI (i + 6))] [] (am_toH σ2) 90 1596 Q := by
  obtain ⟨v, σ1, σ2, h1, h2, h3⟩ := hS ((sv 2).2 (i + 1)) σ hσ
  refine ⟨σ2, h3, ?_⟩
  have g0 := law_go hsv hL hi
  have b0 := law_in hsv hL (k := i) (by omega)
  have b1 := law_in hsv hL (k := i + 1) (by omega)
  have b2 := law_in hsv hL (k := i + 2) (by omega)
  have b3 := law_in hsv hL (k := i + 3) (by omega)
  have b4 := law_in hsv hL (k := i + 4) (by omega)
  have b5 := law_in hsv hL (k := i + 5) (by omega)
  have d0 : (nI i).toNatClampNeg = i := nI_clamp (by omega)
  have d1 : (nI (i + 1)).toNatClampNeg = i + 1 := nI_clamp (by omega)
  have d2 : (nI (i + 2)).toNatClampNeg = i + 2 := nI_clamp (by omega)
  have d3 : (nI (i + 3)).toNatClampNeg = i + 3 := nI_clamp (by omega)
  have d4 : (nI (i + 4)).toNatClampNeg = i + 4 := nI_clamp (by omega)
  have d5 : (nI (i + 5)).toNatClampNeg = i + 5 := nI_clamp (by omega)
  rw [x170_18]
  simp only [x170_19, x170_20, x170_21, x170_23, x170_24, x170_27, x170_28, x170_29, x170_30, x170_32, Option.toList_some, Option.toList_none, List.cons_append, List.nil_append, cat_i, cat_r, cat_n, cat_f, cs_n, cs_i, cs_r, cs_l, cs_f, Nat.reduceAdd, Nat.reduceLeDiff, Nat.zero_le, if_true, if_false, true_or, or_true, g0, b0, d0]
  rw [x170_33_24 hop]
  simp only [x170_984, x170_985, x170_986, x170_987, x170_988, x170_989, x170_990, x170_993, x170_994, x170_995, x170_996, x170_997, x170_998, x170_999, x170_1002, x170_1005, x170_1006, x170_1400, x170_1403, Option.toList_some, Option.toList_none, List.cons_append, List.nil_append, cat_i, cat_r, cat_n, cat_f, cs_n, cs_i, cs_r, cs_l, cs_f, Nat.reduceAdd, Nat.reduceLeDiff, Nat.zero_le, if_true, if_false, true_or, or_true, nI_1, nI_p2, nI_p3, nI_p4, nI_p5, nI_p6, b1, b2, b3, b4, b5, d1, d2, d3, d4, d5, h1, h2]
theorem law_25 (hS : (∀ x0 x1 : Int32, SimOK sv Inv 86 153 [.int x0, .int x1])) (hsv : (sv 2).1 = L) (hL : L ≤ 3072) (hi : i + 6 ≤ L) (hσ : Inv σ) (hop : ((sv 2).2 i &&& 63).toInt = 25) : ∃ σ2, Inv σ2 ∧ AW sv 170 18 [.float 2, .ref 0, .ref 71, .int (nI i)] [] (am_toH σ) 90 1596 Q = AW sv 170 18 [.float 2, .ref 0, .ref 71, .int (nI (i + 6))] [] (am_toH σ2) 90 1596 Q := by
  obtain ⟨v, σ1, σ2, h1, h2, h3⟩ := hS ((sv 2).2 (i + 1)) ((sv 2).2 (i + 2)) σ hσ
  refine ⟨σ2, h3, ?_⟩
  have g0 := law_go hsv hL hi
  have b0 := law_in hsv hL (k := i) (by omega)
  have b1 := law_in hsv hL (k := i + 1) (by omega)
  have b2 := law_in hsv hL (k := i + 2) (by omega)
  have b3 := law_in hsv hL (k := i + 3) (by omega)
  have b4 := law_in hsv hL (k := i + 4) (by omega)
  have b5 := law_in hsv hL (k := i + 5) (by omega)
  have d0 : (nI i).toNatClampNeg = i := nI_clamp (by omega)
  have d1 : (nI (i + 1)).toNatClampNeg = i + 1 := nI_clamp (by omega)
  have d2 : (nI (i + 2)).toNatClampNeg = i + 2 := nI_clamp (by omega)
  have d3 : (nI (i + 3)).toNatClampNeg = i + 3 := nI_clamp (by omega)
  have d4 : (nI (i + 4)).toNatClampNeg = i + 4 := nI_clamp (by omega)
  have d5 : (nI (i + 5)).toNatClampNeg = i + 5 := nI_clamp (by omega)
  rw [x170_18]
  simp only [x170_19, x170_20, x170_21, x170_23, x170_24, x170_27, x170_28, x170_29, x170_30, x170_32, Option.toList_some, Option.toList_none, List.cons_append, List.nil_append, cat_i, cat_r, cat_n, cat_f, cs_n, cs_i, cs_r, cs_l, cs_f, Nat.reduceAdd, Nat.reduceLeDiff, Nat.zero_le, if_true, if_false, true_or, or_true, g0, b0, d0]
  rw [x170_33_25 hop]
  simp only [x170_1007, x170_1008, x170_1009, x170_1010, x170_1011, x170_1012, x170_1013, x170_1014, x170_1015, x170_1016, x170_1017, x170_1018, x170_1021, x170_1022, x170_1023, x170_1024, x170_1025, x170_1026, x170_1027, x170_1028, x170_1029, x170_1030, x170_1031, x170_1032, x170_1035, x170_1038, x170_1039, x170_1400, x170_1403, Option.toList_some, Option.toList_none, List.cons_append, List.nil_append, cat_i, cat_r, cat_n, cat_f, cs_n, cs_i, cs_r, cs_l, cs_f, Nat.reduceAdd, Nat.reduceLeDiff, Nat.zero_le, if_true, if_false, true_or, or_true, nI_1, nI_p2, nI_p3, nI_p4, nI_p5, nI_p6, b1, b2, b3, b4, b5, d1, d2, d3, d4, d5, h1, h2]
theorem law_26 (hS : (∀ x0 : Int32, SimOK sv Inv 87 154 [.int x0])) (hsv : (sv 2).1 = L) (hL : L ≤ 3072) (hi : i + 6 ≤ L) (hσ : Inv σ) (hop : ((sv 2).2 i &&& 63).toInt = 26) : ∃ σ2, Inv σ2 ∧ AW sv 170 18 [.float 2, .ref 0, .ref 71, .int (nI i)] [] (am_toH σ) 90 1596 Q = AW sv 170 18 [.float 2, .ref 0, .ref 71, .int (nI (i + 6))] [] (am_toH σ2) 90 1596 Q := by
  obtain ⟨v, σ1, σ2, h1, h2, h3⟩ := hS ((sv 2).2 (i + 1)) σ hσ
  refine ⟨σ2, h3, ?_⟩
  have g0 := law_go hsv hL hi
  have b0 := law_in hsv hL (k := i) (by omega)
  have b1 := law_in hsv hL (k := i + 1) (by omega)
  have b2 := law_in hsv hL (k := i + 2) (by omega)
  have b3 := law_in hsv hL (k := i + 3) (by omega)
  have b4 := law_in hsv hL (k := i + 4) (by omega)
  have b5 := law_in hsv hL (k := i + 5) (by omega)
  have d0 : (nI i).toNatClampNeg = i := nI_clamp (by omega)
  have d1 : (nI (i + 1)).toNatClampNeg = i + 1 := nI_clamp (by omega)
  have d2 : (nI (i + 2)).toNatClampNeg = i + 2 := nI_clamp (by omega)
  have d3 : (nI (i + 3)).toNatClampNeg = i + 3 := nI_clamp (by omega)
  have d4 : (nI (i + 4)).toNatClampNeg = i + 4 := nI_clamp (by omega)
  have d5 : (nI (i + 5)).toNatClampNeg = i + 5 := nI_clamp (by omega)
  rw [x170_18]
  simp only [x170_19, x170_20, x170_21, x170_23, x170_24, x170_27, x170_28, x170_29, x170_30, x170_32, Option.toList_some, Option.toList_none, List.cons_append, List.nil_append, cat_i, cat_r, cat_n, cat_f, cs_n, cs_i, cs_r, cs_l, cs_f, Nat.reduceAdd, Nat.reduceLeDiff, Nat.zero_le, if_true, if_false, true_or, or_true, g0, b0, d0]
  rw [x170_33_26 hop]
  simp only [x170_1040, x170_1041, x170_1042, x170_1043, x170_1044, x170_1045, x170_1046, x170_1049, x170_1050, x170_1051, x170_1052, x170_1053, x170_1054, x170_1055, x170_1058, x170_1061, x170_1062, x170_1400, x170_1403, Option.toList_some, Option.toList_none, List.cons_append, List.nil_append, cat_i, cat_r, cat_n, cat_f, cs_n, cs_i, cs_r, cs_l, cs_f, Nat.reduceAdd, Nat.reduceLeDiff, Nat.zero_le, if_true, if_false, true_or, or_true, nI_1, nI_p2, nI_p3, nI_p4, nI_p5, nI_p6, b1, b2, b3, b4, b5, d1, d2, d3, d4, d5, h1, h2]
theorem law_27 (hS : (∀ x0 x1 x2 x3 : Int32, SimOK sv Inv 88 156 [.int x0, .int x1, .int x2, .int x3])) (hsv : (sv 2).1 = L) (hL : L ≤ 3072) (hi : i + 6 ≤ L) (hσ : Inv σ) (hop : ((sv 2).2 i &&& 63).toInt = 27) : ∃ σ2, Inv σ2 ∧ AW sv 170 18 [.float 2, .ref 0, .ref 71, .int (nI i)] [] (am_toH σ) 90 1596 Q = AW sv 170 18 [.float 2, .ref 0, .ref 71, .int (nI (i + 6))] [] (am_toH σ2) 90 1596 Q := by
  obtain ⟨v, σ1, σ2, h1, h2, h3⟩ := hS ((sv 2).2 (i + 1)) ((sv 2).2 (i + 2)) ((sv 2).2 (i + 3)) ((sv 2).2 (i + 4)) σ hσ
  refine ⟨σ2, h3, ?_⟩
  have g0 := law_go hsv hL hi
  have b0 := law_in hsv hL (k := i) (by omega)
  have b1 := law_in hsv hL (k := i + 1) (by omega)
  have b2 := law_in hsv hL (k := i + 2) (by omega)
  have b3 := law_in hsv hL (k := i + 3) (by omega)
  have b4 := law_in hsv hL (k := i + 4) (by omega)
  have b5 := law_in hsv hL (k := i + 5) (by omega)
  have d0 : (nI i).toNatClampNeg = i := nI_clamp (by omega)
  have d1 : (nI (i + 1)).toNatClampNeg = i + 1 := nI_clamp (by omega)
  have d2 : (nI (i + 2)).toNatClampNeg = i + 2 := nI_clamp (by omega)
  have d3 : (nI (i + 3)).toNatClampNeg = i + 3 := nI_clamp (by omega)
  have d4 : (nI (i + 4)).toNatClampNeg = i + 4 := nI_clamp (by omega)
  have d5 : (nI (i + 5)).toNatClampNeg = i + 5 := nI_clamp (by omega)
  rw [x170_18]
  simp only [x170_19, x170_20, x170_21, x170_23, x170_24, x170_27, x170_28, x170_29, x170_30, x170_32, Option.toList_some, Option.toList_none, List.cons_append, List.nil_append, cat_i, cat_r, cat_n, cat_f, cs_n, cs_i, cs_r, cs_l, cs_f, Nat.reduceAdd, Nat.reduceLeDiff, Nat.zero_le, if_true, if_false, true_or, or_true, g0, b0, d0]
  rw [x170_33_27 hop]
  simp only [x170_1063, x170_1064, x170_1065, x170_1066, x170_1067, x170_1068, x170_1069, x170_1070, x170_1071, x170_1072, x170_1073, x170_1074, x170_1075, x170_1076, x170_1077, x170_1078, x170_1079, x170_1080, x170_1081, x170_1082, x170_1083, x170_1084, x170_1087, x170_1088, x170_1089, x170_1090, x170_1091, x170_1092, x170_1093, x170_1094, x170_1095, x170_1096, x170_1097, x170_1098, x170_1099, x170_1100, x170_1101, x170_1102, x170_1103, x170_1104, x170_1105, x170_1106, x170_1107, x170_1108, x170_1111, x170_1114, x170_1115, x170_1400, x170_1403, Option.toList_some, Option.toList_none, List.cons_append, List.nil_append, cat_i, cat_r, cat_n, cat_f, cs_n, cs_i, cs_r, cs_l, cs_f, Nat.reduceAdd, Nat.reduceLeDiff, Nat.zero_le, if_true, if_false, true_or, or_true, nI_1, nI_p2, nI_p3, nI_p4, nI_p5, nI_p6, b1, b2, b3, b4, b5, d1, d2, d3, d4, d5, h1, h2]
theorem law_28 (hS : SimOK sv Inv 89 157 []) (hsv : (sv 2).1 = L) (hL : L ≤ 3072) (hi : i + 6 ≤ L) (hσ : Inv σ) (hop : ((sv 2).2 i &&& 63).toInt = 28) : ∃ σ2, Inv σ2 ∧ AW sv 170 18 [.float 2, .ref 0, .ref 71, .int (nI i)] [] (am_toH σ) 90 1596 Q = AW sv 170 18 [.float 2, .ref 0, .ref 71, .int (nI (i + 6))] [] (am_toH σ2) 90 1596 Q := by
  obtain ⟨v, σ1, σ2, h1, h2, h3⟩ := hS  σ hσ
  refine ⟨σ2, h3, ?_⟩
  have g0 := law_go hsv hL hi
  have b0 := law_in hsv hL (k := i) (by omega)
  have b1 := law_in hsv hL (k := i + 1) (by omega)
  have b2 := law_in hsv hL (k := i + 2) (by omega)
  have b3 := law_in hsv hL (k := i + 3) (by omega)
  have b4 := law_in hsv hL (k := i + 4) (by omega)
  have b5 := law_in hsv hL (k := i + 5) (by omega)
  have d0 : (nI i).toNatClampNeg = i := nI_clamp (by omega)
  have d1 : (nI (i + 1)).toNatClampNeg = i + 1 := nI_clamp (by omega)
  have d2 : (nI (i + 2)).toNatClampNeg = i + 2 := nI_clamp (by omega)
  have d3 : (nI (i + 3)).toNatClampNeg = i + 3 := nI_clamp (by omega)
  have d4 : (nI (i + 4)).toNatClampNeg = i + 4 := nI_clamp (by omega)
  have d5 : (nI (i + 5)).toNatClampNeg = i + 5 := nI_clamp (by omega)
  rw [x170_18]
  simp only [x170_19, x170_20, x170_21, x170_23, x170_24, x170_27, x170_28, x170_29, x170_30, x170_32, Option.toList_some, Option.toList_none, List.cons_append, List.nil_append, cat_i, cat_r, cat_n, cat_f, cs_n, cs_i, cs_r, cs_l, cs_f, Nat.reduceAdd, Nat.reduceLeDiff, Nat.zero_le, if_true, if_false, true_or, or_true, g0, b0, d0]
  rw [x170_33_28 hop]
  simp only [x170_1116, x170_1117, x170_1120, x170_1121, x170_1124, x170_1127, x170_1128, x170_1400, x170_1403, Option.toList_some, Option.toList_none, List.cons_append, List.nil_append, cat_i, cat_r, cat_n, cat_f, cs_n, cs_i, cs_r, cs_l, cs_f, Nat.reduceAdd, Nat.reduceLeDiff, Nat.zero_le, if_true, if_false, true_or, or_true, nI_1, nI_p2, nI_p3, nI_p4, nI_p5, nI_p6, b1, b2, b3, b4, b5, d1, d2, d3, d4, d5, h1, h2]
theorem law_29 (hS : SimOK sv Inv 90 160 []) (hsv : (sv 2).1 = L) (hL : L ≤ 3072) (hi : i + 6 ≤ L) (hσ : Inv σ) (hop : ((sv 2).2 i &&& 63).toInt = 29) : ∃ σ2, Inv σ2 ∧ AW sv 170 18 [.float 2, .ref 0, .ref 71, .int (nI i)] [] (am_toH σ) 90 1596 Q = AW sv 170 18 [.float 2, .ref 0, .ref 71, .int (nI (i + 6))] [] (am_toH σ2) 90 1596 Q := by
  obtain ⟨v, σ1, σ2, h1, h2, h3⟩ := hS  σ hσ
  refine ⟨σ2, h3, ?_⟩
  have g0 := law_go hsv hL hi
  have b0 := law_in hsv hL (k := i) (by omega)
  have b1 := law_in hsv hL (k := i + 1) (by omega)
  have b2 := law_in hsv hL (k := i + 2) (by omega)
  have b3 := law_in hsv hL (k := i + 3) (by omega)
  have b4 := law_in hsv hL (k := i + 4) (by omega)
  have b5 := law_in hsv hL (k := i + 5) (by omega)
  have d0 : (nI i).toNatClampNeg = i := nI_clamp (by omega)
  have d1 : (nI (i + 1)).toNatClampNeg = i + 1 := nI_clamp (by omega)
  have d2 : (nI (i + 2)).toNatClampNeg = i + 2 := nI_clamp (by omega)
  have d3 : (nI (i + 3)).toNatClampNeg = i + 3 := nI_clamp (by omega)
  have d4 : (nI (i + 4)).toNatClampNeg = i + 4 := nI_clamp (by omega)
  have d5 : (nI (i + 5)).toNatClampNeg = i + 5 := nI_clamp (by omega)
  rw [x170_18]
  simp only [x170_19, x170_20, x170_21, x170_23, x170_24, x170_27, x170_28, x170_29, x170_30, x170_32, Option.toList_some, Option.toList_none, List.cons_append, List.nil_append, cat_i, cat_r, cat_n, cat_f, cs_n, cs_i, cs_r, cs_l, cs_f, Nat.reduceAdd, Nat.reduceLeDiff, Nat.zero_le, if_true, if_false, true_or, or_true, g0, b0, d0]
  rw [x170_33_29 hop]
  simp only [x170_1129, x170_1130, x170_1133, x170_1134, x170_1137, x170_1140, x170_1141, x170_1400, x170_1403, Option.toList_some, Option.toList_none, List.cons_append, List.nil_append, cat_i, cat_r, cat_n, cat_f, cs_n, cs_i, cs_r, cs_l, cs_f, Nat.reduceAdd, Nat.reduceLeDiff, Nat.zero_le, if_true, if_false, true_or, or_true, nI_1, nI_p2, nI_p3, nI_p4, nI_p5, nI_p6, b1, b2, b3, b4, b5, d1, d2, d3, d4, d5, h1, h2]
theorem law_30 (hS : SimOK sv Inv 91 161 []) (hsv : (sv 2).1 = L) (hL : L ≤ 3072) (hi : i + 6 ≤ L) (hσ : Inv σ) (hop : ((sv 2).2 i &&& 63).toInt = 30) : ∃ σ2, Inv σ2 ∧ AW sv 170 18 [.float 2, .ref 0, .ref 71, .int (nI i)] [] (am_toH σ) 90 1596 Q = AW sv 170 18 [.float 2, .ref 0, .ref 71, .int (nI (i + 6))] [] (am_toH σ2) 90 1596 Q := by
  obtain ⟨v, σ1, σ2, h1, h2, h3⟩ := hS  σ hσ
  refine ⟨σ2, h3, ?_⟩
  have g0 := law_go hsv hL hi
  have b0 := law_in hsv hL (k := i) (by omega)
  have b1 := law_in hsv hL (k := i + 1) (by omega)
  have b2 := law_in hsv hL (k := i + 2) (by omega)
  have b3 := law_in hsv hL (k := i + 3) (by omega)
  have b4 := law_in hsv hL (k := i + 4) (by omega)
  have b5 := law_in hsv hL (k := i + 5) (by omega)
  have d0 : (nI i).toNatClampNeg = i := nI_clamp (by omega)
  have d1 : (nI (i + 1)).toNatClampNeg = i + 1 := nI_clamp (by omega)
  have d2 : (nI (i + 2)).toNatClampNeg = i + 2 := nI_clamp (by omega)
  have d3 : (nI (i + 3)).toNatClampNeg = i + 3 := nI_clamp (by omega)
  have d4 : (nI (i + 4)).toNatClampNeg = i + 4 := nI_clamp (by omega)
  have d5 : (nI (i + 5)).toNatClampNeg = i + 5 := nI_clamp (by omega)
  rw [x170_18]
  simp only [x170_19, x170_20, x170_21, x170_23, x170_24, x170_27, x170_28, x170_29, x170_30, x170_32, Option.toList_some, Option.toList_none, List.cons_append, List.nil_append, cat_i, cat_r, cat_n, cat_f, cs_n, cs_i, cs_r, cs_l, cs_f, Nat.reduceAdd, Nat.reduceLeDiff, Nat.zero_le, if_true, if_false, true_or, or_true, g0, b0, d0]
  rw [x170_33_30 hop]
  simp only [x170_1142, x170_1143, x170_1146, x170_1147, x170_1150, x170_1153, x170_1154, x170_1400, x170_1403, Option.toList_some, Option.toList_none, List.cons_append, List.nil_append, cat_i, cat_r, cat_n, cat_f, cs_n, cs_i, cs_r, cs_l, cs_f, Nat.reduceAdd, Nat.reduceLeDiff, Nat.zero_le, if_true, if_false, true_or, or_true, nI_1, nI_p2, nI_p3, nI_p4, nI_p5, nI_p6, b1, b2, b3, b4, b5, d1, d2, d3, d4, d5, h1, h2]
theorem law_31 (hS : (∀ x0 x1 x2 x3 x4 : Int32, SimOK sv Inv 92 165 [.int x0, .int x1, .int x2, .int x3, .int x4])) (hsv : (sv 2).1 = L) (hL : L ≤ 3072) (hi : i + 6 ≤ L) (hσ : Inv σ) (hop : ((sv 2).2 i &&& 63).toInt = 31) : ∃ σ2, Inv σ2 ∧ AW sv 170 18 [.float 2, .ref 0, .ref 71, .int (nI i)] [] (am_toH σ) 90 1596 Q = AW sv 170 18 [.float 2, .ref 0, .ref 71, .int (nI (i + 6))] [] (am_toH σ2) 90 1596 Q := by
  obtain ⟨v, σ1, σ2, h1, h2, h3⟩ := hS ((sv 2).2 (i + 1)) ((sv 2).2 (i + 2)) ((sv 2).2 (i + 3)) ((sv 2).2 (i + 4)) ((sv 2).2 (i + 5)) σ hσ
  refine ⟨σ2, h3, ?_⟩
  have g0 := law_go hsv hL hi
  have b0 := law_in hsv hL (k := i) (by omega)
  have b1 := law_in hsv hL (k := i + 1) (by omega)
  have b2 := law_in hsv hL (k := i + 2) (by omega)
  have b3 := law_in hsv hL (k := i + 3) (by omega)
  have b4 := law_in hsv hL (k := i + 4) (by omega)
  have b5 := law_in hsv hL (k := i + 5) (by omega)
  have d0 : (nI i).toNatClampNeg = i := nI_clamp (by omega)
  have d1 : (nI (i + 1)).toNatClampNeg = i + 1 := nI_clamp (by omega)
  have d2 : (nI (i + 2)).toNatClampNeg = i + 2 := nI_clamp (by omega)
  have d3 : (nI (i + 3)).toNatClampNeg = i + 3 := nI_clamp (by omega)
  have d4 : (nI (i + 4)).toNatClampNeg = i + 4 := nI_clamp (by omega)
  have d5 : (nI (i + 5)).toNatClampNeg = i + 5 := nI_clamp (by omega)
  rw [x170_18]
  simp only [x170_19, x170_20, x170_21, x170_23, x170_24, x170_27, x170_28, x170_29, x170_30, x170_32, Option.toList_some, Option.toList_none, List.cons_append, List.nil_append, cat_i, cat_r, cat_n, cat_f, cs_n, cs_i, cs_r, cs_l, cs_f, Nat.reduceAdd, Nat.reduceLeDiff, Nat.zero_le, if_true, if_false, true_or, or_true, g0, b0, d0]
  rw [x170_33_31 hop]
  simp only [x170_1155, x170_1156, x170_1157, x170_1158, x170_1159, x170_1160, x170_1161, x170_1162, x170_1163, x170_1164, x170_1165, x170_1166, x170_1167, x170_1168, x170_1169, x170_1170, x170_1171, x170_1172, x170_1173, x170_1174, x170_1175, x170_1176, x170_1177, x170_1178, x170_1179, x170_1180, x170_1181, x170_1184, x170_1185, x170_1186, x170_1187, x170_1188, x170_1189, x170_1190, x170_1191, x170_1192, x170_1193, x170_1194, x170_1195, x170_1196, x170_1197, x170_1198, x170_1199, x170_1200, x170_1201, x170_1202, x170_1203, x170_1204, x170_1205, x170_1206, x170_1207, x170_1208, x170_1209, x170_1210, x170_1213, x170_1216, x170_1217, x170_1400, x170_1403, Option.toList_some, Option.toList_none, List.cons_append, List.nil_append, cat_i, cat_r, cat_n, cat_f, cs_n, cs_i, cs_r, cs_l, cs_f, Nat.reduceAdd, Nat.reduceLeDiff, Nat.zero_le, if_true, if_false, true_or, or_true, nI_1, nI_p2, nI_p3, nI_p4, nI_p5, nI_p6, b1, b2, b3, b4, b5, d1, d2, d3, d4, d5, h1, h2]
theorem law_32 (hS : (∀ x0 x1 x2 : Int32, SimOK sv Inv 93 166 [.int x0, .int x1, .int x2])) (hsv : (sv 2).1 = L) (hL : L ≤ 3072) (hi : i + 6 ≤ L) (hσ : Inv σ) (hop : ((sv 2).2 i &&& 63).toInt = 32) : ∃ σ2, Inv σ2 ∧ AW sv 170 18 [.float 2, .ref 0, .ref 71, .int (nI i)] [] (am_toH σ) 90 1596 Q = AW sv 170 18 [.float 2, .ref 0, .ref 71, .int (nI (i + 6))] [] (am_toH σ2) 90 1596 Q := by
  obtain ⟨v, σ1, σ2, h1, h2, h3⟩ := hS ((sv 2).2 (i + 1)) ((sv 2).2 (i + 2)) ((sv 2).2 (i + 3)) σ hσ
  refine ⟨σ2, h3, ?_⟩
  have g0 := law_go hsv hL hi
  have b0 := law_in hsv hL (k := i) (by omega)
  have b1 := law_in hsv hL (k := i + 1) (by omega)
  have b2 := law_in hsv hL (k := i + 2) (by omega)
  have b3 := law_in hsv hL (k := i + 3) (by omega)
  have b4 := law_in hsv hL (k := i + 4) (by omega)
  have b5 := law_in hsv hL (k := i + 5) (by omega)
  have d0 : (nI i).toNatClampNeg = i := nI_clamp (by omega)
  have d1 : (nI (i + 1)).toNatClampNeg = i + 1 := nI_clamp (by omega)
  have d2 : (nI (i + 2)).toNatClampNeg = i + 2 := nI_clamp (by omega)
  have d3 : (nI (i + 3)).toNatClampNeg = i + 3 := nI_clamp (by omega)
  have d4 : (nI (i + 4)).toNatClampNeg = i + 4 := nI_clamp (by omega)
  have d5 : (nI (i + 5)).toNatClampNeg = i + 5 := nI_clamp (by omega)
  rw [x170_18]
  simp only [x170_19, x170_20, x170_21, x170_23, x170_24, x170_27, x170_28, x170_29, x170_30, x170_32, Option.toList_some, Option.toList_none, List.cons_append, List.nil_append, cat_i, cat_r, cat_n, cat_f, cs_n, cs_i, cs_r, cs_l, cs_f, Nat.reduceAdd, Nat.reduceLeDiff, Nat.zero_le, if_true, if_false, true_or, or_true, g0, b0, d0]
  rw [x170_33_32 hop]
  simp only [x170_1218, x170_1219, x170_1220, x170_1221, x170_1222, x170_1223, x170_1224, x170_1225, x170_1226, x170_1227, x170_1228, x170_1229, x170_1230, x170_1231, x170_1232, x170_1233, x170_1234, x170_1237, x170_1238, x170_1239, x170_1240, x170_1241, x170_1242, x170_1243, x170_1244, x170_1245, x170_1246, x170_1247, x170_1248, x170_1249, x170_1250, x170_1251, x170_1252, x170_1253, x170_1256, x170_1259, x170_1260, x170_1400, x170_1403, Option.toList_some, Option.toList_none, List.cons_append, List.nil_append, cat_i, cat_r, cat_n, cat_f, cs_n, cs_i, cs_r, cs_l, cs_f, Nat.reduceAdd, Nat.reduceLeDiff, Nat.zero_le, if_true, if_false, true_or, or_true, nI_1, nI_p2, nI_p3, nI_p4, nI_p5, nI_p6, b1, b2, b3, b4, b5, d1, d2, d3, d4, d5, h1, h2]
theorem law_33 (hS : (∀ x0 : Int32, SimOK sv Inv 94 167 [.int x0])) (hsv : (sv 2).1 = L) (hL : L ≤ 3072) (hi : i + 6 ≤ L) (hσ : Inv σ) (hop : ((sv 2).2 i &&& 63).toInt = 33) : ∃ σ2, Inv σ2 ∧ AW sv 170 18 [.float 2, .ref 0, .ref 71, .int (nI i)] [] (am_toH σ) 90 1596 Q = AW sv 170 18 [.float 2, .ref 0, .ref 71, .int (nI (i + 6))] [] (am_toH σ2) 90 1596 Q := by
  obtain ⟨v, σ1, σ2, h1, h2, h3⟩ := hS ((sv 2).2 (i + 1)) σ hσ
  refine ⟨σ2, h3, ?_⟩
  have g0 := law_go hsv hL hi
  have b0 := law_in hsv hL (k := i) (by omega)
  have b1 := law_in hsv hL (k := i + 1) (by omega)
  have b2 := law_in hsv hL (k := i + 2) (by omega)
  have b3 := law_in hsv hL (k := i + 3) (by omega)
  have b4 := law_in hsv hL (k := i + 4) (by omega)
  have b5 := law_in hsv hL (k := i + 5) (by omega)
  have d0 : (nI i).toNatClampNeg = i := nI_clamp (by omega)
  have d1 : (nI (i + 1)).toNatClampNeg = i + 1 := nI_clamp (by omega)
  have d2 : (nI (i + 2)).toNatClampNeg = i + 2 := nI_clamp (by omega)
  have d3 : (nI (i + 3)).toNatClampNeg = i + 3 := nI_clamp (by omega)
  have d4 : (nI (i + 4)).toNatClampNeg = i + 4 := nI_clamp (by omega)
  have d5 : (nI (i + 5)).toNatClampNeg = i + 5 := nI_clamp (by omega)
  rw [x170_18]
  simp only [x170_19, x170_20, x170_21, x170_23, x170_24, x170_27, x170_28, x170_29, x170_30, x170_32, Option.toList_some, Option.toList_none, List.cons_append, List.nil_append, cat_i, cat_r, cat_n, cat_f, cs_n, cs_i, cs_r, cs_l, cs_f, Nat.reduceAdd, Nat.reduceLeDiff, Nat.zero_le, if_true, if_false, true_or, or_true, g0, b0, d0]
  rw [x170_33_33 hop]
  simp only [x170_1261, x170_1262, x170_1263, x170_1264, x170_1265, x170_1266, x170_1267, x170_1270, x170_1271, x170_1272, x170_1273, x170_1274, x170_1275, x170_1276, x170_1279, x170_1282, x170_1283, x170_1400, x170_1403, Option.toList_some, Option.toList_none, List.cons_append, List.nil_append, cat_i, cat_r, cat_n, cat_f, cs_n, cs_i, cs_r, cs_l, cs_f, Nat.reduceAdd, Nat.reduceLeDiff, Nat.zero_le, if_true, if_false, true_or, or_true, nI_1, nI_p2, nI_p3, nI_p4, nI_p5, nI_p6, b1, b2, b3, b4, b5, d1, d2, d3, d4, d5, h1, h2]
theorem law_34 (hS : (∀ x0 x1 x2 x3 : Int32, SimOK sv Inv 95 168 [.int x0, .int x1, .int x2, .int x3])) (hsv : (sv 2).1 = L) (hL : L ≤ 3072) (hi : i + 6 ≤ L) (hσ : Inv σ) (hop : ((sv 2).2 i &&& 63).toInt = 34) : ∃ σ2, Inv σ2 ∧ AW sv 170 18 [.float 2, .ref 0, .ref 71, .int (nI i)] [] (am_toH σ) 90 1596 Q = AW sv 170 18 [.float 2, .ref 0, .ref 71, .int (nI (i + 6))] [] (am_toH σ2) 90 1596 Q := by
  obtain ⟨v, σ1, σ2, h1, h2, h3⟩ := hS ((sv 2).2 (i + 1)) ((sv 2).2 (i + 2)) ((sv 2).2 (i + 3)) ((sv 2).2 (i + 4)) σ hσ
  refine ⟨σ2, h3, ?_⟩
  have g0 := law_go hsv hL hi
  have b0 := law_in hsv hL (k := i) (by omega)
  have b1 := law_in hsv hL (k := i + 1) (by omega)
  have b2 := law_in hsv hL (k := i + 2) (by omega)
  have b3 := law_in hsv hL (k := i + 3) (by omega)
  have b4 := law_in hsv hL (k := i + 4) (by omega)
  have b5 := law_in hsv hL (k := i + 5) (by omega)
  have d0 : (nI i).toNatClampNeg = i := nI_clamp (by omega)
  have d1 : (nI (i + 1)).toNatClampNeg = i + 1 := nI_clamp (by omega)
  have d2 : (nI (i + 2)).toNatClampNeg = i + 2 := nI_clamp (by omega)
  have d3 : (nI (i + 3)).toNatClampNeg = i + 3 := nI_clamp (by omega)
  have d4 : (nI (i + 4)).toNatClampNeg = i + 4 := nI_clamp (by omega)
  have d5 : (nI (i + 5)).toNatClampNeg = i + 5 := nI_clamp (by omega)
  rw [x170_18]
  simp only [x170_19, x170_20, x170_21, x170_23, x170_24, x170_27, x170_28, x170_29, x170_30, x170_32, Option.toList_some, Option.toList_none, List.cons_append, List.nil_append, cat_i, cat_r, cat_n, cat_f, cs_n, cs_i, cs_r, cs_l, cs_f, Nat.reduceAdd, Nat.reduceLeDiff, Nat.zero_le, if_true, if_false, true_or, or_true, g0, b0, d0]
  rw [x170_33_34 hop]
  simp only [x170_1284, x170_1285, x170_1286, x170_1287, x170_1288, x170_1289, x170_1290, x170_1291, x170_1292, x170_1293, x170_1294, x170_1295, x170_1296, x170_1297, x170_1298, x170_1299, x170_1300, x170_1301, x170_1302, x170_1303, x170_1304, x170_1305, x170_1308, x170_1309, x170_1310, x170_1311, x170_1312, x170_1313, x170_1314, x170_1315, x170_1316, x170_1317, x170_1318, x170_1319, x170_1320, x170_1321, x170_1322, x170_1323, x170_1324, x170_1325, x170_1326, x170_1327, x170_1328, x170_1329, x170_1332, x170_1335, x170_1336, x170_1400, x170_1403, Option.toList_some, Option.toList_none, List.cons_append, List.nil_append, cat_i, cat_r, cat_n, cat_f, cs_n, cs_i, cs_r, cs_l, cs_f, Nat.reduceAdd, Nat.reduceLeDiff, Nat.zero_le, if_true, if_false, true_or, or_true, nI_1, nI_p2, nI_p3, nI_p4, nI_p5, nI_p6, b1, b2, b3, b4, b5, d1, d2, d3, d4, d5, h1, h2]
theorem law_35 (hS : (∀ x0 x1 x2 x3 x4 : Int32, SimOK sv Inv 96 169 [.int x0, .int x1, .int x2, .int x3, .int x4])) (hsv : (sv 2).1 = L) (hL : L ≤ 3072) (hi : i + 6 ≤ L) (hσ : Inv σ) (hop : ((sv 2).2 i &&& 63).toInt = 35) : ∃ σ2, Inv σ2 ∧ AW sv 170 18 [.float 2, .ref 0, .ref 71, .int (nI i)] [] (am_toH σ) 90 1596 Q = AW sv 170 18 [.float 2, .ref 0, .ref 71, .int (nI (i + 6))] [] (am_toH σ2) 90 1596 Q := by
  obtain ⟨v, σ1, σ2, h1, h2, h3⟩ := hS ((sv 2).2 (i + 1)) ((sv 2).2 (i + 2)) ((sv 2).2 (i + 3)) ((sv 2).2 (i + 4)) ((sv 2).2 (i + 5)) σ hσ
  refine ⟨σ2, h3, ?_⟩
  have g0 := law_go hsv hL hi
  have b0 := law_in hsv hL (k := i) (by omega)
  have b1 := law_in hsv hL (k := i + 1) (by omega)
  have b2 := law_in hsv hL (k := i + 2) (by omega)
  have b3 := law_in hsv hL (k := i + 3) (by omega)
  have b4 := law_in hsv hL (k := i + 4) (by omega)
  have b5 := law_in hsv hL (k := i + 5) (by omega)
  have d0 : (nI i).toNatClampNeg = i := nI_clamp (by omega)
  have d1 : (nI (i + 1)).toNatClampNeg = i + 1 := nI_clamp (by omega)
  have d2 : (nI (i + 2)).toNatClampNeg = i + 2 := nI_clamp (by omega)
  have d3 : (nI (i + 3)).toNatClampNeg = i + 3 := nI_clamp (by omega)
  have d4 : (nI (i + 4)).toNatClampNeg = i + 4 := nI_clamp (by omega)
  have d5 : (nI (i + 5)).toNatClampNeg = i + 5 := nI_clamp (by omega)
  rw [x170_18]
  simp only [x170_19, x170_20, x170_21, x170_23, x170_24, x170_27, x170_28, x170_29, x170_30, x170_32, Option.toList_some, Option.toList_none, List.cons_append, List.nil_append, cat_i, cat_r, cat_n, cat_f, cs_n, cs_i, cs_r, cs_l, cs_f, Nat.reduceAdd, Nat.reduceLeDiff, Nat.zero_le, if_true, if_false, true_or, or_true, g0, b0, d0]
  rw [x170_33_35 hop]
  simp only [x170_1337, x170_1338, x170_1339, x170_1340, x170_1341, x170_1342, x170_1343, x170_1344, x170_1345, x170_1346, x170_1347, x170_1348, x170_1349, x170_1350, x170_1351, x170_1352, x170_1353, x170_1354, x170_1355, x170_1356, x170_1357, x170_1358, x170_1359, x170_1360, x170_1361, x170_1362, x170_1363, x170_1366, x170_1367, x170_1368, x170_1369, x170_1370, x170_1371, x170_1372, x170_1373, x170_1374, x170_1375, x170_1376, x170_1377, x170_1378, x170_1379, x170_1380, x170_1381, x170_1382, x170_1383, x170_1384, x170_1385, x170_1386, x170_1387, x170_1388, x170_1389, x170_1390, x170_1391, x170_1392, x170_1395, x170_1398, x170_1399, x170_1400, x170_1403, Option.toList_some, Option.toList_none, List.cons_append, List.nil_append, cat_i, cat_r, cat_n, cat_f, cs_n, cs_i, cs_r, cs_l, cs_f, Nat.reduceAdd, Nat.reduceLeDiff, Nat.zero_le, if_true, if_false, true_or, or_true, nI_1, nI_p2, nI_p3, nI_p4, nI_p5, nI_p6, b1, b2, b3, b4, b5, d1, d2, d3, d4, d5, h1, h2]
theorem law_d (hsv : (sv 2).1 = L) (hL : L ≤ 3072) (hi : i + 6 ≤ L) (hop : ((sv 2).2 i &&& 63).toInt < 0 ∨ 35 < ((sv 2).2 i &&& 63).toInt) : AW sv 170 18 [.float 2, .ref 0, .ref 71, .int (nI i)] [] (am_toH σ) 90 1596 Q = AW sv 170 18 [.float 2, .ref 0, .ref 71, .int (nI (i + 6))] [] (am_toH σ) 90 1596 Q := by
  have g0 := law_go hsv hL hi
  have b0 := law_in hsv hL (k := i) (by omega)
  have d0 : (nI i).toNatClampNeg = i := nI_clamp (by omega)
  rw [x170_18]
  simp only [x170_19, x170_20, x170_21, x170_23, x170_24, x170_27, x170_28, x170_29, x170_30, x170_32, Option.toList_some, Option.toList_none, List.cons_append, List.nil_append, cat_i, cat_r, cat_n, cat_f, cs_n, cs_i, cs_r, cs_l, cs_f, Nat.reduceAdd, Nat.reduceLeDiff, Nat.zero_le, if_true, if_false, true_or, or_true, g0, b0, d0]
  rw [x170_33_d hop]
  simp only [x170_1400, x170_1403, Option.toList_some, Option.toList_none, List.cons_append, List.nil_append, cat_i, cat_r, cat_n, cat_f, cs_n, cs_i, cs_r, cs_l, cs_f, Nat.reduceAdd, Nat.reduceLeDiff, Nat.zero_le, if_true, if_false, true_or, or_true, nI_p6]
theorem law_step (hS : AllSim sv Inv) (hsv : (sv 2).1 = L) (hL : L ≤ 3072) (hi : i + 6 ≤ L) (hσ : Inv σ) : ∃ σ2, Inv σ2 ∧ AW sv 170 18 [.float 2, .ref 0, .ref 71, .int (nI i)] [] (am_toH σ) 90 1596 Q = AW sv 170 18 [.float 2, .ref 0, .ref 71, .int (nI (i + 6))] [] (am_toH σ2) 90 1596 Q := by
  obtain ⟨S0, S1, S2, S3, S4, S5, S6, S7, S8, S9, S10, S11, S12, S13, S14, S15, S16, S17, S18, S19, S20, S21, S22, S23, S24, S25, S26, S27, S28, S29, S30, S31, S32, S33, S34, S35⟩ := hS
  by_cases h0 : ((sv 2).2 i &&& 63).toInt = 0
  · exact law_0 S0 hsv hL hi hσ h0
  by_cases h1 : ((sv 2).2 i &&& 63).toInt = 1
  · exact law_1 S1 hsv hL hi hσ h1
  by_cases h2 : ((sv 2).2 i &&& 63).toInt = 2
  · exact law_2 S2 hsv hL hi hσ h2
  by_cases h3 : ((sv 2).2 i &&& 63).toInt = 3
  · exact law_3 S3 hsv hL hi hσ h3
  by_cases h4 : ((sv 2).2 i &&& 63).toInt = 4
  · exact law_4 S4 hsv hL hi hσ h4
  by_cases h5 : ((sv 2).2 i &&& 63).toInt = 5
  · exact law_5 S5 hsv hL hi hσ h5
  by_cases h6 : ((sv 2).2 i &&& 63).toInt = 6
  · exact law_6 S6 hsv hL hi hσ h6
  by_cases h7 : ((sv 2).2 i &&& 63).toInt = 7
  · exact law_7 S7 hsv hL hi hσ h7
  by_cases h8 : ((sv 2).2 i &&& 63).toInt = 8
  · exact law_8 S8 hsv hL hi hσ h8
  by_cases h9 : ((sv 2).2 i &&& 63).toInt = 9
  · exact law_9 S9 hsv hL hi hσ h9
  by_cases h10 : ((sv 2).2 i &&& 63).toInt = 10
  · exact law_10 S10 hsv hL hi hσ h10
  by_cases h11 : ((sv 2).2 i &&& 63).toInt = 11
  · exact law_11 S11 hsv hL hi hσ h11
  by_cases h12 : ((sv 2).2 i &&& 63).toInt = 12
  · exact law_12 S12 hsv hL hi hσ h12
  by_cases h13 : ((sv 2).2 i &&& 63).toInt = 13
  · exact law_13 S13 hsv hL hi hσ h13
  by_cases h14 : ((sv 2).2 i &&& 63).toInt = 14
  · exact law_14 S14 hsv hL hi hσ h14
  by_cases h15 : ((sv 2).2 i &&& 63).toInt = 15
  · exact law_15 S15 hsv hL hi hσ h15
  by_cases h16 : ((sv 2).2 i &&& 63).toInt = 16
  · exact law_16 S16 hsv hL hi hσ h16
  by_cases h17 : ((sv 2).2 i &&& 63).toInt = 17
  · exact law_17 S17 hsv hL hi hσ h17
  by_cases h18 : ((sv 2).2 i &&& 63).toInt = 18
  · exact law_18 S18 hsv hL hi hσ h18
  by_cases h19 : ((sv 2).2 i &&& 63).toInt = 19
  · exact law_19 S19 hsv hL hi hσ h19
  by_cases h20 : ((sv 2).2 i &&& 63).toInt = 20
  · exact law_20 S20 hsv hL hi hσ h20
  by_cases h21 : ((sv 2).2 i &&& 63).toInt = 21
  · exact law_21 S21 hsv hL hi hσ h21
  by_cases h22 : ((sv 2).2 i &&& 63).toInt = 22
  · exact law_22 S22 hsv hL hi hσ h22
  by_cases h23 : ((sv 2).2 i &&& 63).toInt = 23
  · exact law_23 S23 hsv hL hi hσ h23
  by_cases h24 : ((sv 2).2 i &&& 63).toInt = 24
  · exact law_24 S24 hsv hL hi hσ h24
  by_cases h25 : ((sv 2).2 i &&& 63).toInt = 25
  · exact law_25 S25 hsv hL hi hσ h25
  by_cases h26 : ((sv 2).2 i &&& 63).toInt = 26
  · exact law_26 S26 hsv hL hi hσ h26
  by_cases h27 : ((sv 2).2 i &&& 63).toInt = 27
  · exact law_27 S27 hsv hL hi hσ h27
  by_cases h28 : ((sv 2).2 i &&& 63).toInt = 28
  · exact law_28 S28 hsv hL hi hσ h28
  by_cases h29 : ((sv 2).2 i &&& 63).toInt = 29
  · exact law_29 S29 hsv hL hi hσ h29
  by_cases h30 : ((sv 2).2 i &&& 63).toInt = 30
  · exact law_30 S30 hsv hL hi hσ h30
  by_cases h31 : ((sv 2).2 i &&& 63).toInt = 31
  · exact law_31 S31 hsv hL hi hσ h31
  by_cases h32 : ((sv 2).2 i &&& 63).toInt = 32
  · exact law_32 S32 hsv hL hi hσ h32
  by_cases h33 : ((sv 2).2 i &&& 63).toInt = 33
  · exact law_33 S33 hsv hL hi hσ h33
  by_cases h34 : ((sv 2).2 i &&& 63).toInt = 34
  · exact law_34 S34 hsv hL hi hσ h34
  by_cases h35 : ((sv 2).2 i &&& 63).toInt = 35
  · exact law_35 S35 hsv hL hi hσ h35
  · exact ⟨σ, hσ, law_d hsv hL hi (by omega)⟩
theorem law_loop (hS : AllSim sv Inv) (hsv : (sv 2).1 = L) (hL : L ≤ 3072) : ∀ (n i : Nat) (σ : am_S), L < i + 6 * n → i ≤ L → Inv σ → AW sv 170 18 [.float 2, .ref 0, .ref 71, .int (nI i)] [] (am_toH σ) 90 1596 (fun v _ => v = some (.int 1)) := by
  intro n
  induction n with
  | zero => intro i σ h1 h2 _; omega
  | succ n ih =>
    intro i σ h1 h2 hσ
    by_cases hi : i + 6 ≤ L
    · obtain ⟨σ2, h3, h4⟩ := law_step (i := i) (σ := σ) (Q := fun v _ => v = some (.int 1)) hS hsv hL hi hσ
      rw [h4]
      exact ih (i + 6) σ2 (by omega) hi h3
    · have g0 := law_end hsv hL (by omega) (by omega : i ≤ 3072)
      rw [x170_18]
      simp only [x170_19, x170_20, x170_21, x170_23, x170_24, x170_27, x170_28, x170_29, x170_30, x170_32, x170_1406, x170_1407, Option.toList_some, Option.toList_none, List.cons_append, List.nil_append, cat_i, cat_r, cat_n, cat_f, cs_n, cs_i, cs_r, cs_l, cs_f, Nat.reduceAdd, Nat.reduceLeDiff, Nat.zero_le, if_true, if_false, true_or, or_true, g0]
end LW
/-! the law's constructors -/
section LC
variable {sv : am_V} {mi pc : Nat} {ls st : List Value} {h : am_H} {cu su : Nat} {Q : Option Value → am_H → Prop} {M : am_M}
theorem e_new {k ci : Nat} (hM : am_ms[mi]? = some M) (hd : decode M.2.2.1 pc = .ok (.new k, 3)) (hk : am_cn M.1 k = some ci) (hc : cu + 1 ≤ M.2.2.2.2.2.2.2.cells ∧ su + am_N ci ≤ M.2.2.2.2.2.2.2.slots) : AW sv mi pc ls st h cu su Q = AW sv mi (pc + 3) ls (.ref h.length :: st) (h ++ [.inr (ci, am_def ci)]) (cu + 1) (su + am_N ci) Q := e_hq hM hd rfl rfl rfl rfl rfl rfl (by
  show (am_cn M.1 k).bind _ = _
  rw [hk]
  exact if_pos hc)
theorem e_cI0 {k kd y a : Nat} {Y : am_M} {rest : List Value} (hM : am_ms[mi]? = some M) (hd : decode M.2.2.1 pc = .ok (.invokespecial k, 3)) (hk : am_ml M.1 k = some (kd, y)) (hkd : kd ≤ 1) (hY : am_ms[y]? = some Y) (hs : Y.2.2.2.2.2.1 = 2) (hn : Y.2.2.2.2.2.2.1 = 0) (hc : y < 170 ∧ (am_sl [.ref a]).length ≤ Y.2.2.2.1 ∧ am_rc M Y rest cu su = true) : AW sv mi pc ls (.ref a :: rest) h cu su Q = AM sv y [.ref a] h (fun v h1 => AW sv mi (pc + 3) ls (v.toList ++ rest) h1 (cu + Y.2.2.2.2.2.2.2.cells) (su + Y.2.2.2.2.2.2.2.slots) Q) := by
  refine AW_call (z := (y, [.ref a], rest)) hM hd ?_ hY hc
  have hca : am_ca M.1 (.invokespecial k) (.ref a :: rest) h = some (y, [.ref a], rest) := by
    simp only [am_ca, hk, Option.bind_some]
    rw [if_pos hkd, hY]
    simp only [Option.bind_some]
    rw [if_pos ⟨hs, by rw [hn]; exact Nat.zero_le _⟩, hn]
    rfl
  have hh : am_hp sv M.1 M.2.2.2.2.2.1 M.2.2.2.2.2.2.2 (.invokespecial k) (.ref a :: rest) h cu su = none := by
    show (if (am_ml M.1 k).map (fun q => q.1) = some 6 ∧ _ then _ else none) = none
    rw [hk]
    refine if_neg (fun q => ?_)
    have := q.1
    simp at this
    omega
  unfold am_step
  rw [show am_br (.invokespecial k) pc 3 (.ref a :: rest) = none from rfl, show am_rt M.2.2.2.2.1 (.invokespecial k) 3 (.ref a :: rest) = none from rfl]
  simp only
  rw [if_pos (show 3 = am_len (.invokespecial k) from rfl), show am_pu M.1 (.invokespecial k) ls (.ref a :: rest) = none from rfl, show am_ai (.invokespecial k) (.ref a :: rest) = none from rfl, show am_al (.invokespecial k) (.ref a :: rest) = none from rfl, hh, hca]
  rfl
end LC
theorem law_new {sv : am_V} {Q : Option Value → am_H → Prop} : ∃ h2, h2 = am_toH (am_rd h2) ∧ am_obs h2 = am_tab0 ∧ AW sv 170 0 [.float 2, .null, .null, .null] [] [] 0 0 Q = AW sv 170 18 [.float 2, .ref 0, .ref 71, .int (nI 0)] [] h2 90 1596 Q := by
  obtain ⟨h1, h2, m1, m2, m3, m4, m5⟩ := am_made
  refine ⟨h2, m4, m5, ?_⟩
  have c7 : am_cn 10 7 = some 8 := by decide +kernel
  have c10 : am_cn 10 10 = some 9 := by decide +kernel
  have t1 : AW sv 170 0 [.float 2, .null, .null, .null] [] [] 0 0 Q = AW sv 170 3 [.float 2, .null, .null, .null] [.ref 0] [.inr (8, am_def 8)] 1 6 Q := e_new am_h170 dL_law_0 c7 (by decide)
  have t2 : AW sv 170 3 [.float 2, .null, .null, .null] [.ref 0] [.inr (8, am_def 8)] 1 6 Q = AW sv 170 4 [.float 2, .null, .null, .null] [.ref 0, .ref 0] [.inr (8, am_def 8)] 1 6 Q := e_dup am_h170 dL_law_3 rfl
  have t3 : AW sv 170 4 [.float 2, .null, .null, .null] [.ref 0, .ref 0] [.inr (8, am_def 8)] 1 6 Q = AM sv 60 [.ref 0] [.inr (8, am_def 8)] (fun v h1 => AW sv 170 7 [.float 2, .null, .null, .null] (v.toList ++ [.ref 0]) h1 71 879 Q) := e_cI0 am_h170 dL_law_4 ml_10_9 (by decide) am_h60 rfl rfl ⟨by decide, by decide, by decide⟩
  have t5 : AW sv 170 7 [.float 2, .null, .null, .null] [.ref 0] h1 71 879 Q = AW sv 170 8 [.float 2, .ref 0, .null, .null] [] h1 71 879 Q := e_pv am_h170 dL_law_7 rfl rfl rfl rfl
  have t6 : AW sv 170 8 [.float 2, .ref 0, .null, .null] [] h1 71 879 Q = AW sv 170 11 [.float 2, .ref 0, .null, .null] [.ref h1.length] (h1 ++ [.inr (9, am_def 9)]) 72 907 Q := e_new am_h170 dL_law_8 c10 (by decide)
  have t7 : AW sv 170 11 [.float 2, .ref 0, .null, .null] [.ref 71] (h1 ++ [.inr (9, am_def 9)]) 72 907 Q = AW sv 170 12 [.float 2, .ref 0, .null, .null] [.ref 71, .ref 71] (h1 ++ [.inr (9, am_def 9)]) 72 907 Q := e_dup am_h170 dL_law_11 rfl
  have t8 : AW sv 170 12 [.float 2, .ref 0, .null, .null] [.ref 71, .ref 71] (h1 ++ [.inr (9, am_def 9)]) 72 907 Q = AM sv 105 [.ref 71] (h1 ++ [.inr (9, am_def 9)]) (fun v h1 => AW sv 170 15 [.float 2, .ref 0, .null, .null] (v.toList ++ [.ref 71]) h1 90 1596 Q) := e_cI0 am_h170 dL_law_12 ml_10_12 (by decide) am_h105 rfl rfl ⟨by decide, by decide, by decide⟩
  have t9 : AW sv 170 15 [.float 2, .ref 0, .null, .null] [.ref 71] h2 90 1596 Q = AW sv 170 16 [.float 2, .ref 0, .ref 71, .null] [] h2 90 1596 Q := e_pv am_h170 dL_law_15 rfl rfl rfl rfl
  rw [t1, t2, t3, m1]
  refine Eq.trans t5 ?_
  rw [t6, m2, t7, t8, m3]
  refine Eq.trans t9 ?_
  simp only [x170_16, x170_17, Option.toList_some, Option.toList_none, List.cons_append, List.nil_append, cat_i, cat_r, cat_n, cat_f, cs_n, cs_i, cs_r, cs_l, cs_f, Nat.reduceAdd, Nat.reduceLeDiff, Nat.zero_le, if_true, if_false, true_or, or_true, nI_0]
theorem law_all {L : Nat} {xs : Nat → Int32} {Inv : am_S → Prop} (hL : L ≤ 3072) (hS : AllSim (am_sv L xs) Inv) (h0 : ∀ h, am_obs h = am_tab0 → h = am_toH (am_rd h) → Inv (am_rd h)) : ∃ n h', am_run (am_sv L xs) n 170 0 [.float 2, .null, .null, .null] [] [] 0 0 = some (some (.int 1), h') := by
  obtain ⟨h2, e1, e2, e3⟩ := law_new (sv := am_sv L xs) (Q := fun v _ => v = some (.int 1))
  have h4 : AW (am_sv L xs) 170 0 [.float 2, .null, .null, .null] [] [] 0 0 (fun v _ => v = some (.int 1)) := by
    rw [e3, e1]
    exact law_loop (L := L) hS rfl hL (L + 1) 0 _ (by omega) (Nat.zero_le _) (h0 h2 e2 e1)
  obtain ⟨n, u, h5, h6⟩ := h4
  obtain ⟨v, h'⟩ := u
  simp only at h6
  subst h6
  exact ⟨n, h', h5⟩
