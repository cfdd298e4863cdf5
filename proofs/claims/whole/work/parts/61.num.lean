/-! NUMBERS OF THE ODDS: class and reference weigh the same -/
theorem oN_mul (a b : Nat) : nI a * nI b = nI (a * b) := (Int32.ofNat_mul a b).symm
theorem oN_sub {a b : Nat} (h : b ≤ a) : nI a - nI b = nI (a - b) := (Int32.ofNat_sub a b h).symm
theorem oN_div {a b : Nat} (ha : a < 2 ^ 31) (hb : b < 2 ^ 31) : nI a / nI b = nI (a / b) := (Int32.ofNat_div ha hb).symm
theorem oL_div {a b : Nat} (ha : a < 2 ^ 63) (hb : b < 2 ^ 63) : lN a / lN b = lN (a / b) := (Int64.ofNat_div ha hb).symm
theorem oN_rem {x y : Nat} (hx : x < 2 ^ 31) (hy : y < 2 ^ 31) : nI x - nI x / nI y * nI y = nI (x % y) := by
  have e : x / y * y ≤ x := Nat.div_mul_le_self x y
  rw [oN_div hx hy, oN_mul, oN_sub e]
  have h := Nat.div_add_mod' x y
  have : x - x / y * y = x % y := by omega
  rw [this]
theorem oL_rem {x y : Nat} (hx : x < 2 ^ 31) (hy : y < 2 ^ 31) : lN x - lN x / lN y * lN y = lN (x % y) := by
  have e : x / y * y ≤ x := Nat.div_mul_le_self x y
  rw [oL_div (by omega) (by omega), lN_mul, lN_sub e]
  have h := Nat.div_add_mod' x y
  have : x - x / y * y = x % y := by omega
  rw [this]
theorem oL_ne0 {y : Nat} (h0 : 0 < y) (h : y < 2 ^ 31) : ¬ lN y = 0 := by
  intro q
  have : lN y = lN 0 := q
  rw [lN_eq h (by decide)] at this
  omega
theorem half {y r : Nat} (h1 : r < y) (h0 : 0 < r) : 2 * (y % r) < y := by
  by_cases q : 2 * r ≤ y
  · have := Nat.mod_lt y h0
    omega
  · have : y % r = y - r := by rw [Nat.mod_eq_sub_mod (by omega), Nat.mod_eq_of_lt (by omega)]
    omega
theorem gcd_ok : ∀ (m n x y : Nat), x < 2 ^ 31 → y < 2 ^ 31 → y < 2 ^ m → 2 * m < n → gcdF n (nI x) (nI y) = nI (Nat.gcd y x) := by
  intro m
  induction m with
  | zero =>
    intro n x y hx hy h1 h2
    have e : y = 0 := by simpa using h1
    subst e
    obtain ⟨n, rfl⟩ : ∃ k, n = k + 1 := ⟨n - 1, by omega⟩
    show (if nI 0 = 0 then nI x else gcdF n (nI 0) (nI x - nI x / nI 0 * nI 0)) = _
    rw [if_pos nI_0, Nat.gcd_zero_left]
  | succ m ih =>
    intro n x y hx hy h1 h2
    obtain ⟨n, rfl⟩ : ∃ k, n = k + 2 := ⟨n - 2, by omega⟩
    show (if nI y = 0 then nI x else gcdF (n + 1) (nI y) (nI x - nI x / nI y * nI y)) = _
    by_cases q : y = 0
    · subst q
      rw [if_pos nI_0, Nat.gcd_zero_left]
    · have r1 : x % y < y := Nat.mod_lt _ (by omega)
      rw [if_neg (nI_ne0 (by omega) hy), oN_rem hx hy, Nat.gcd_rec y x]
      show (if nI (x % y) = 0 then nI y else gcdF n (nI (x % y)) (nI y - nI y / nI (x % y) * nI (x % y))) = _
      by_cases q2 : x % y = 0
      · rw [q2, if_pos nI_0, Nat.gcd_zero_left]
      · have r2 : y % (x % y) < x % y := Nat.mod_lt _ (by omega)
        rw [if_neg (nI_ne0 (by omega) (by omega)), oN_rem hy (by omega), Nat.gcd_rec (x % y) y]
        have h3 : 2 * (y % (x % y)) < y := half r1 (by omega)
        have h4 : 2 ^ (m + 1) = 2 * 2 ^ m := by rw [Nat.pow_succ, Nat.mul_comm]
        exact ih n (x % y) (y % (x % y)) (by omega) (by omega) (by omega) (by omega)
/-! bounds -/
def bd (x : Int32) (B : Nat) : Prop := ∃ m : Nat, m ≤ B ∧ x = nI m
theorem bd_0 {B : Nat} : bd 0 B := ⟨0, Nat.zero_le _, nI_0.symm⟩
theorem bd_ite {c : Prop} [Decidable c] {x y : Int32} {B : Nat} (hx : bd x B) (hy : bd y B) : bd (if c then x else y) B := by
  split <;> assumption
theorem bd_rg {x : Int32} {B : Nat} (hB : B < 2 ^ 31) (h : rg x 0 B) : bd x B := rg_nI hB h
theorem dm_dec : ∀ p, p < 4 → ∀ s, s < 10 → nI (10 * p + s) - nI (10 * p + s) / 10 * 10 = nI s := by decide +kernel
theorem bd_q1 {M f : Int32} (h : deed M) : bd (q1F M f) 9 := by
  unfold q1F
  refine bd_ite bd_0 (bd_ite ?_ bd_0)
  rcases h with rfl | ⟨p, s, h1, h2, h3, rfl⟩
  · exact ⟨0, by omega, by decide⟩
  · exact ⟨s, h3, dm_dec p h1 s (by omega)⟩
theorem bd_le {le k : Int32} (h1 : rg le 0 9) (h2 : rg k 1 9) : bd (le * (k - 1)) 72 := by
  obtain ⟨a, ha, rfl⟩ := rg_nI (n := 9) (by decide) h1
  have h3 : rg k 0 9 := ⟨by have := h2.1; omega, h2.2⟩
  obtain ⟨c, hc, rfl⟩ := rg_nI (n := 9) (by decide) h3
  have h4 : 1 ≤ c := by
    have := h2.1
    rw [nI_toInt (by omega)] at this
    omega
  obtain ⟨d, rfl⟩ : ∃ d, c = d + 1 := ⟨c - 1, by omega⟩
  rw [nI_pred]
  refine ⟨a * d, ?_, oN_mul a d⟩
  have : a * d ≤ 9 * 8 := Nat.mul_le_mul ha (by omega)
  omega
def pV (V : Nat → Nat → Int32) (b : Nat) (kd db k p : Int32) : Int32 := pvF (V 0 b) (V 1 b) (V 2 b - 1) (V 3 b - 1) (V 5 0) (V 5 1) (V 5 3) kd db k p
def pN (V : Nat → Nat → Int32) (b : Nat) (kd db k : Int32) (j : Nat) : Nat := (pV V b kd db k (nI j)).toNatClampNeg
theorem pV_bd {V : Nat → Nat → Int32} (hok : okV V) {b : Nat} (hb : b < 16) {kd db k p : Int32} (hd : rg db 0 9) (hk : rg k 1 9) : ∃ m : Nat, 1 ≤ m ∧ m ≤ 109 ∧ pV V b kd db k p = nI m := by
  obtain ⟨o1, o2, o3, o4, -⟩ := hok.1 b hb
  have l0 : rg (V 5 0) 0 9 := hok.2.1 0 (by decide)
  have l1 : rg (V 5 1) 0 9 := hok.2.1 1 (by decide)
  have l3 : rg (V 5 3) 0 9 := hok.2.1 3 (by decide)
  obtain ⟨m1, b1, e1⟩ := bd_q1 (M := V 0 b) (f := frF kd p) o1
  have g2 : bd (q2F (V 2 b - 1) (frF kd p) (V 5 0)) 9 := bd_ite (bd_rg (by decide) l0) bd_0
  have g3 : bd (q3F (V 3 b - 1) (frF kd p) (V 5 1) kd) 9 := bd_ite (bd_ite bd_0 (bd_rg (by decide) l1)) bd_0
  have g4 : bd (q4F (V 2 b - 1) (frF kd p) kd db) 9 := bd_ite (bd_ite bd_0 (bd_ite bd_0 (bd_rg (by decide) hd))) bd_0
  have g5 : bd (q5F (V 1 b) p (V 5 3) k) 72 := bd_ite bd_0 (bd_ite (bd_le l3 hk) bd_0)
  obtain ⟨m2, b2, e2⟩ := g2
  obtain ⟨m3, b3, e3⟩ := g3
  obtain ⟨m4, b4, e4⟩ := g4
  obtain ⟨m5, b5, e5⟩ := g5
  refine ⟨1 + m1 + m2 + m3 + m4 + m5, by omega, by omega, ?_⟩
  unfold pV pvF
  rw [e1, e2, e3, e4, e5]
  show nI 1 + nI m1 + nI m2 + nI m3 + nI m4 + nI m5 = _
  simp only [nI_add]
theorem pN_eq {V : Nat → Nat → Int32} (hok : okV V) {b : Nat} (hb : b < 16) {kd db k : Int32} (hd : rg db 0 9) (hk : rg k 1 9) (j : Nat) : pV V b kd db k (nI j) = nI (pN V b kd db k j) ∧ 1 ≤ pN V b kd db k j ∧ pN V b kd db k j ≤ 109 := by
  obtain ⟨m, h1, h2, e⟩ := pV_bd hok hb (kd := kd) (p := nI j) hd hk
  have : pN V b kd db k j = m := by
    unfold pN
    rw [e, nI_clamp (by omega)]
  rw [this]
  exact ⟨e, h1, h2⟩
theorem sl_pl {S : Int32} (h : deed S) : S / 10 = nI (S.toNatClampNeg / 10) ∧ S.toNatClampNeg / 10 < 4 := by
  rcases h with rfl | ⟨p, s, h1, h2, h3, rfl⟩
  · exact ⟨by decide, by decide⟩
  · rw [nI_clamp (by omega), show (10 * p + s) / 10 = p by omega]
    exact ⟨dq_dec p h1 s (by omega), h1⟩
def szN (S s : Int32) : Nat := max 1 (S.toNatClampNeg % 10 - s.toNatClampNeg / 4)
set_option maxRecDepth 100000 in
theorem sz_dec : ∀ p, p < 4 → ∀ s, s < 10 → ∀ t, t < 12 → szF (nI (10 * p + s)) (nI t) = nI (max 1 (s - t / 4)) ∧ szM (nI (10 * p + s)) (nI t) = nI (max 1 (s - t / 4)) := by decide +kernel
theorem sz_ok {S s : Int32} (h : deed S) (hs : rg s 0 11) : szF S s = nI (szN S s) ∧ szM S s = nI (szN S s) ∧ 1 ≤ szN S s ∧ szN S s ≤ 9 := by
  obtain ⟨t, ht, rfl⟩ := rg_nI (n := 11) (by decide) hs
  have c1 : (nI t).toNatClampNeg = t := nI_clamp (by omega)
  unfold szN
  rw [c1]
  rcases h with rfl | ⟨p, s, h1, h2, h3, rfl⟩
  · have e := sz_dec 0 (by decide) 0 (by decide) t (by omega)
    have e2 : (0 : Int32).toNatClampNeg = 0 := by decide
    rw [e2]
    exact ⟨e.1, e.2, by omega, by omega⟩
  · have e := sz_dec p h1 s (by omega) t (by omega)
    rw [nI_clamp (by omega), show (10 * p + s) % 10 = s by omega]
    exact ⟨e.1, e.2, by omega, by omega⟩
/-! what a watcher's odds are -/
def allN (V : Nat → Nat → Int32) (b : Nat) (kd db k : Int32) : Nat := pN V b kd db k 0 + pN V b kd db k 1 + pN V b kd db k 2 + pN V b kd db k 3
def ownN (V : Nat → Nat → Int32) (b : Nat) (kd db k : Int32) : Nat := pN V b kd db k ((V 1 b).toNatClampNeg / 10)
def acN (own all sz hd : Nat) : Nat := hd * (own * sz + (all - own) * (sz - 6))
def abN (V : Nat → Nat → Int32) (w b : Nat) (k : Int32) : Nat := if canF (V 6 w) (V 1 b / 10) (V 9 1) = true then acN (ownN V b (V 7 w) (V 8 w) k) (allN V b (V 7 w) (V 8 w) k) (szN (V 1 b) (V 6 w)) (heedF V (decide (V 7 w = 2)) (b + 1)).toNatClampNeg else 0
def blN (V : Nat → Nat → Int32) (w b : Nat) (k : Int32) : Nat := 81 * allN V b (V 7 w) (V 8 w) k
theorem own_le {V : Nat → Nat → Int32} (hok : okV V) {b : Nat} (hb : b < 16) {kd db k : Int32} (hd : rg db 0 9) (hk : rg k 1 9) : ownN V b kd db k ≤ allN V b kd db k ∧ 4 ≤ allN V b kd db k ∧ allN V b kd db k ≤ 436 := by
  have h0 := (pN_eq hok hb (kd := kd) hd hk 0).2
  have h1 := (pN_eq hok hb (kd := kd) hd hk 1).2
  have h2 := (pN_eq hok hb (kd := kd) hd hk 2).2
  have h3 := (pN_eq hok hb (kd := kd) hd hk 3).2
  have hp := (sl_pl (hok.1 b hb).2.1).2
  unfold ownN allN
  refine ⟨?_, by omega, by omega⟩
  generalize (V 1 b).toNatClampNeg / 10 = p at hp
  rcases (show p = 0 ∨ p = 1 ∨ p = 2 ∨ p = 3 by omega) with rfl | rfl | rfl | rfl <;> omega
theorem ac_le {own all sz hd : Nat} (h1 : own ≤ all) (h2 : sz ≤ 9) (h3 : hd ≤ 9) : acN own all sz hd ≤ 81 * all := by
  unfold acN
  have g1 : own * sz ≤ own * 9 := Nat.mul_le_mul_left _ h2
  have g2 : (all - own) * (sz - 6) ≤ (all - own) * 9 := Nat.mul_le_mul_left _ (by omega)
  have g3 : own * sz + (all - own) * (sz - 6) ≤ all * 9 := by omega
  have g4 : hd * (own * sz + (all - own) * (sz - 6)) ≤ 9 * (all * 9) := Nat.mul_le_mul h3 g3
  omega
theorem ab_le {V : Nat → Nat → Int32} (hok : okV V) {b w : Nat} (hb : b < 16) (hw : w < (V 9 0).toNatClampNeg) {k : Int32} (hk : rg k 1 9) : abN V w b k ≤ blN V w b k ∧ 324 ≤ blN V w b k ∧ blN V w b k ≤ 35316 := by
  obtain ⟨q1, q2, q3, -⟩ := hok.2.2.2.2.2.2.1 w hw
  obtain ⟨a1, a2, a3⟩ := own_le hok hb (kd := V 7 w) q3 hk
  have a4 := (sz_ok (hok.1 b hb).2.1 q1).2.2.2
  have a5 : (heedF V (decide (V 7 w = 2)) (b + 1)).toNatClampNeg ≤ 9 := by
    obtain ⟨m, hm, e⟩ := rg_nI (n := 9) (by decide) (heedF_rg hok (c := decide (V 7 w = 2)) (b + 1) (by omega))
    rw [e, nI_clamp (by omega)]
    exact hm
  unfold abN blN
  refine ⟨?_, by omega, by omega⟩
  split
  · exact ac_le a1 a4 a5
  · omega
theorem suF_ok {P : Nat → Int32} {n0 n1 n2 n3 own : Nat} (e0 : P 0 = nI n0) (e1 : P 1 = nI n1) (e2 : P 2 = nI n2) (e3 : P 3 = nI n3) (h : own ≤ n0 + n1 + n2 + n3) : suF P (nI own) 4 = nI (n0 + n1 + n2 + n3 - own) := by
  show -nI own + P 0 + P 1 + P 2 + P 3 = _
  rw [e0, e1, e2, e3, ← oN_sub h, ← nI_add, ← nI_add, ← nI_add, Int32.sub_eq_add_neg]
  ac_rfl
theorem mx6 : ∀ sz, sz < 10 → (if 0 < nI sz - 6 then nI sz - 6 else 0) = nI (sz - 6) := by decide +kernel
theorem ml6 : ∀ sz, sz < 10 → (nI sz ≤ 6 ↔ sz ≤ 6) := by decide +kernel
theorem ms6 : ∀ sz, sz < 10 → 6 < sz → nI sz - 6 = nI (sz - 6) := by decide +kernel
theorem blF_ok {P : Nat → Int32} {own all : Nat} (e : suF P (nI own) 4 = nI (all - own)) (h : own ≤ all) : blF P (nI own) = nI (81 * all) := by
  unfold blF
  rw [e]
  show nI 81 * (nI own + nI (all - own)) = _
  rw [nI_add, oN_mul, show own + (all - own) = all by omega]
theorem abF_ok {P : Nat → Int32} {own all sz hd : Nat} {S s c : Int32} (e : suF P (nI own) 4 = nI (all - own)) (es : szF S s = nI sz) (h9 : sz ≤ 9) : abF P (nI own) S s c (nI hd) = nI (if canF s (S / 10) c = true then acN own all sz hd else 0) := by
  unfold abF acN
  rw [e, es, mx6 sz (by omega)]
  split
  · simp only [oN_mul, nI_add]
  · rfl
theorem suL_ok {p : Nat → Int32} {n0 n1 n2 n3 : Nat} (e0 : p 0 = nI n0) (e1 : p 1 = nI n1) (e2 : p 2 = nI n2) (e3 : p 3 = nI n3) (h0 : n0 ≤ 109) (h1 : n1 ≤ 109) (h2 : n2 ≤ 109) (h3 : n3 ≤ 109) : suL p 4 = lN (n0 + n1 + n2 + n3) := by
  show (0 : Int64) + (p 0).toInt64 + (p 1).toInt64 + (p 2).toInt64 + (p 3).toInt64 = _
  rw [e0, e1, e2, e3, nI_l (by omega), nI_l (by omega), nI_l (by omega), nI_l (by omega), Int64.zero_add]
  simp only [lN_add]
theorem aM_ok {own all sz hd : Nat} (h : own ≤ all) (h1 : all ≤ 436) (h9 : sz ≤ 9) (hh : hd ≤ 9) : aM (lN all) (nI own) (nI sz) (nI hd) = lN (acN own all sz hd) := by
  unfold aM acN
  rw [nI_l (by omega), nI_l (by omega), nI_l (by omega)]
  by_cases q : sz ≤ 6
  · rw [if_pos ((ml6 sz (by omega)).mpr q), Int64.add_zero, lN_mul, lN_mul, show sz - 6 = 0 by omega, Nat.mul_zero, Nat.add_zero, Nat.mul_comm own hd, Nat.mul_assoc]
  · rw [if_neg (fun c => q ((ml6 sz (by omega)).mp c)), ms6 sz (by omega) (by omega), nI_l (by omega), lN_sub h, lN_mul, lN_mul, lN_mul, lN_mul, lN_add, Nat.mul_comm own hd, Nat.mul_assoc, Nat.mul_comm (all - own) hd, Nat.mul_assoc, ← Nat.mul_add]
theorem th_ok {x y : Nat} (hx : x ≤ 35316) (hy : y ≤ 35316) (h0 : 0 < y) : (if nI y ≤ 0 then (0 : Int32) else 1000 * nI x / nI y) = nI (1000 * x / y) := by
  rw [if_neg (nI_nle h0 (by omega))]
  show nI 1000 * nI x / nI y = _
  rw [oN_mul, oN_div (by omega) (by omega)]
theorem tl_ok {x y : Nat} (hx : x ≤ 35316) (hy : y ≤ 35316) : (lN x * 1000 / lN y).toInt32 = nI (1000 * x / y) := by
  show (lN x * lN 1000 / lN y).toInt32 = _
  rw [lN_mul, oL_div (by omega) (by omega), lN_i, Nat.mul_comm]
