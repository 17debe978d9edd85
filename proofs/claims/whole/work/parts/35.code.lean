/-! the code of a minute: class and reference make the same bits -/
theorem aEn_v (N : Nat) : f_X2_maskOf N (zI 0) = some 534773760 ∧ f_X2_maskOf N (zI 1) = some 68182605824 ∧ f_X2_maskOf N (zI 2) = some 576460683583946752 := by
  unfold f_X2_maskOf
  decide +kernel
theorem msk_0 : ∀ k, k < 64 → lb 534773760 k = decide (21 ≤ k ∧ k < 21 + 8) := by decide +kernel
theorem msk_1 : ∀ k, k < 64 → lb 68182605824 k = decide (29 ≤ k ∧ k < 29 + 7) := by decide +kernel
theorem msk_2 : ∀ k, k < 64 → lb 576460683583946752 k = decide (36 ≤ k ∧ k < 36 + 23) := by decide +kernel
theorem msk_M : ∀ k, k < 64 → lb 576460752302899201 k = decide (k = 0 ∨ (19 ≤ k ∧ k < 59)) := by decide +kernel
def oddB (x : Int64) (a n : Nat) : Bool := decide (cb x a n % 2 = 1)
def bS (b : Int) : Nat := if b = 0 then 21 else if b = 1 then 29 else 36
def bN (b : Int) : Nat := if b = 0 then 8 else if b = 1 then 7 else 23
theorem X2_isOdd_v (N : Nat) (x : Int64) {b : Int} (hb : b = 0 ∨ b = 1 ∨ b = 2) : f_X2_isOdd N x (zI b) = some (oddB x (bS b) (bN b)) := by
  have h0 := aEn_v N
  have key : ∀ (m : Int64) (s n : Nat), s + n ≤ 64 → (∀ k, k < 64 → lb m k = decide (s ≤ k ∧ k < s + n)) → ((f_J13_bitCount_95d88 N (x &&& m)).bind fun q3 => (if (q3 - q3 / (2 : Int32) * (2 : Int32)) = (0 : Int32) then some false else some true)) = some (oddB x s n) := by
    intro m s n hs hm
    rw [bitCount_v, Option.bind_some, cb_mask hs hm]
    have hc := cb_le x n s
    unfold oddB
    by_cases h : cb x s n % 2 = 1
    · simp (maxSteps := 400000) (disch := omega) only [zI_lit, zI_neg, zI_add, zI_sub, zI_mul, zI_div, zI_tn, zI_toL, zL_lit, zL_neg, zL_add, zL_sub, zL_mul, zL_div, zL_toI, zI_ltT, zI_ltF, zI_leT, zI_leF, zI_eqT, zI_eqF, zL_ltT, zL_ltF, zL_leT, zL_leF, zL_eqT, zL_eqF, nleT, nleF, or_self, or_false, false_or, true_or, or_true, not_true_eq_false, not_false_eq_true, ↓reduceIte, Option.bind_some, Bool.false_eq_true, decide_true, decide_false]
      rw [decide_eq_true h]
    · simp (maxSteps := 400000) (disch := omega) only [zI_lit, zI_neg, zI_add, zI_sub, zI_mul, zI_div, zI_tn, zI_toL, zL_lit, zL_neg, zL_add, zL_sub, zL_mul, zL_div, zL_toI, zI_ltT, zI_ltF, zI_leT, zI_leF, zI_eqT, zI_eqF, zL_ltT, zL_ltF, zL_leT, zL_leF, zL_eqT, zL_eqF, nleT, nleF, or_self, or_false, false_or, true_or, or_true, not_true_eq_false, not_false_eq_true, ↓reduceIte, Option.bind_some, Bool.false_eq_true, decide_true, decide_false]
      rw [decide_eq_false h]
  rw [f_X2_isOdd]
  rcases hb with rfl | rfl | rfl
  · rw [h0.1]; exact key _ 21 8 (by decide) msk_0
  · rw [h0.2.1]; exact key _ 29 7 (by decide) msk_1
  · rw [h0.2.2]; exact key _ 36 23 (by decide) msk_2
theorem X6_isOdd_v {N : Nat} (hN : 700 ≤ N) (x : Int64) {a b : Int} (ha : 0 ≤ a) (hab : a ≤ b + 1) (hb : b < 64) : f_X6_isOdd N x (zI a) (zI b) = some (oddB x a.toNat (b + 1 - a).toNat) := by
  have hc := cb_le x (b + 1 - a).toNat a.toNat
  rw [f_X6_isOdd, X6_bits_v hN x ha hab hb, Option.bind_some]
  unfold oddB
  by_cases h : cb x a.toNat (b + 1 - a).toNat % 2 = 1
  · simp (maxSteps := 400000) (disch := omega) only [zI_lit, zI_neg, zI_add, zI_sub, zI_mul, zI_div, zI_tn, zI_toL, zL_lit, zL_neg, zL_add, zL_sub, zL_mul, zL_div, zL_toI, zI_ltT, zI_ltF, zI_leT, zI_leF, zI_eqT, zI_eqF, zL_ltT, zL_ltF, zL_leT, zL_leF, zL_eqT, zL_eqF, nleT, nleF, or_self, or_false, false_or, true_or, or_true, not_true_eq_false, not_false_eq_true, ↓reduceIte, Option.bind_some, Bool.false_eq_true, decide_true, decide_false]
    rw [decide_eq_true h]
  · simp (maxSteps := 400000) (disch := omega) only [zI_lit, zI_neg, zI_add, zI_sub, zI_mul, zI_div, zI_tn, zI_toL, zL_lit, zL_neg, zL_add, zL_sub, zL_mul, zL_div, zL_toI, zI_ltT, zI_ltF, zI_leT, zI_leF, zI_eqT, zI_eqF, zL_ltT, zL_ltF, zL_leT, zL_leF, zL_eqT, zL_eqF, nleT, nleF, or_self, or_false, false_or, true_or, or_true, not_true_eq_false, not_false_eq_true, ↓reduceIte, Option.bind_some, Bool.false_eq_true, decide_true, decide_false]
    rw [decide_eq_false h]
def tdN (v : Int) : Nat := (16 * (v / 10) + v % 10).toNat
theorem td_fin : ∀ k : Fin 100, ((jshl (zI ((k.val : Int) / 10)).toInt64 4) ||| (zI ((k.val : Int) % 10)).toInt64 = lN (tdN k.val)) ∧ ((zI ((k.val : Int) % 10) ||| (zI ((k.val : Int) / 10) <<< ((4 : Int32) &&& 31))).toInt64 = lN (tdN k.val)) := by decide +kernel
theorem X2_twoDigits_v (N : Nat) {v : Int} (h1 : 0 ≤ v) (h2 : v < 100) : f_X2_twoDigits N (zI v) = some (lN (tdN v)) := by
  have h := (td_fin ⟨v.toNat, by omega⟩).1
  rw [show ((⟨v.toNat, by omega⟩ : Fin 100).val : Int) = v by show (v.toNat : Int) = v; omega] at h
  rw [f_X2_twoDigits]
  have e : v - v / 10 * 10 = v % 10 := by omega
  rw [show (10 : Int32) = zI 10 from rfl, zI_div h1 (by omega) (by omega) (by omega), zI_mul, zI_sub, e, h]
theorem X6_digits_v (N : Nat) {v : Int} (h1 : 0 ≤ v) (h2 : v < 100) (s : Int32) : f_X6_digits N (zI v) s = some (jshl (lN (tdN v)) s) := by
  have h := (td_fin ⟨v.toNat, by omega⟩).2
  rw [show ((⟨v.toNat, by omega⟩ : Fin 100).val : Int) = v by show (v.toNat : Int) = v; omega] at h
  rw [f_X6_digits]
  have e : v - v / 10 * 10 = v % 10 := by omega
  rw [show (10 : Int32) = zI 10 from rfl, zI_div h1 (by omega) (by omega) (by omega), zI_mul, zI_sub, e, h]
theorem tdN_lt {v : Int} {n : Nat} (h1 : 0 ≤ v) (h2 : 16 * (v / 10) + v % 10 < n) : tdN v < n := by unfold tdN; omega
theorem tdN_small {v : Int} (h1 : 0 ≤ v) (h2 : v < 10) : tdN v = v.toNat := by unfold tdN; omega
theorem lb_td {v : Int} {s k : Nat} (hs : s < 64) (hk : k < 64) (h1 : 0 ≤ v) (h2 : v < 100) (h3 : s ≤ k → 16 * (v / 10) + v % 10 < ((2 ^ (k - s) : Nat) : Int)) : lb (jshl (lN (tdN v)) (nI s)) k = false := by
  have ht : tdN v < 256 := tdN_lt h1 (by omega)
  rw [lb_jshl _ hs hk, lb_lN (by omega)]
  by_cases h : s ≤ k
  · rw [Nat.testBit_lt_two_pow (tdN_lt h1 (h3 h)), Bool.and_false]
  · rw [decide_eq_false h, Bool.false_and]
/-- the bits ahead of the parities -/
noncomputable def baseS (x : Int) (leap : Bool) : Int64 := ((1048576 : Int64) ||| (if leap = true then (524288 : Int64) else 0)) ||| (((((jshl (lN (tdN (partS x 4))) 21 ||| jshl (lN (tdN (partS x 3))) 29) ||| jshl (lN (tdN (partS x 2))) 36) ||| jshl (lN (tdN (partS x 5))) 42) ||| jshl (lN (tdN (partS x 1))) 45) ||| jshl (lN (tdN (partS x 0 - 2000))) 50)
def parB (x : Int64) (a n e : Nat) : Int64 := if oddB x a n = true then lN (2 ^ e) else 0
noncomputable def codeS (x : Int) (leap : Bool) : Int64 := ((baseS x leap ||| parB (baseS x leap) 21 7 28) ||| parB (baseS x leap) 29 6 35) ||| parB (baseS x leap) 36 22 58
theorem partS_rng {x : Int} (h1 : 0 ≤ x) (h2 : x < 52596000) : (0 ≤ partS x 4 ∧ partS x 4 < 60) ∧ (0 ≤ partS x 3 ∧ partS x 3 < 24) ∧ (1 ≤ partS x 2 ∧ partS x 2 ≤ 31) ∧ (1 ≤ partS x 5 ∧ partS x 5 ≤ 7) ∧ (1 ≤ partS x 1 ∧ partS x 1 ≤ 12) ∧ (2000 ≤ partS x 0 ∧ partS x 0 ≤ 2099) := by
  have hd1 : 0 ≤ x / 1440 := by omega
  have hd2 : x / 1440 < 36525 := by omega
  obtain ⟨y1, y2, y3, y4⟩ := yS_spec hd1 hd2
  obtain ⟨m1, m2, m3, m4⟩ := mS_spec hd1 hd2
  have hd := ddS_rng hd1 hd2
  have hr := dInM_rng (yS (x / 1440)) (mS (x / 1440))
  refine ⟨?_, ?_, ?_, ?_, ?_, ?_⟩
  · show 0 ≤ x % 60 ∧ x % 60 < 60; omega
  · show 0 ≤ x / 60 % 24 ∧ x / 60 % 24 < 24; omega
  · show 1 ≤ ddS (x / 1440) ∧ ddS (x / 1440) ≤ 31; omega
  · show 1 ≤ (x / 1440 + 5) % 7 + 1 ∧ (x / 1440 + 5) % 7 + 1 ≤ 7; omega
  · exact ⟨m1, m2⟩
  · show 2000 ≤ 2000 + yS (x / 1440) ∧ 2000 + yS (x / 1440) ≤ 2099; omega
theorem base_hi {x : Int} (h1 : 0 ≤ x) (h2 : x < 52596000) (leap : Bool) : lb (baseS x leap) 28 = false ∧ lb (baseS x leap) 35 = false ∧ lb (baseS x leap) 58 = false := by
  obtain ⟨p4, p3, p2, p5, p1, p0⟩ := partS_rng h1 h2
  have e1 : ∀ k, k = 28 ∨ k = 35 ∨ k = 58 → lb (1048576 : Int64) k = false := by
    intro k hk
    rcases hk with rfl | rfl | rfl <;> decide +kernel
  have e2 : ∀ k, k = 28 ∨ k = 35 ∨ k = 58 → lb (if leap = true then (524288 : Int64) else 0) k = false := by
    intro k hk
    rcases hk with rfl | rfl | rfl <;> cases leap <;> decide +kernel
  have t4 : ∀ k, k = 28 ∨ k = 35 ∨ k = 58 → lb (jshl (lN (tdN (partS x 4))) 21) k = false := by
    intro k hk
    refine lb_td (s := 21) (by decide) (by omega) p4.1 (by omega) fun h => ?_
    rcases hk with rfl | rfl | rfl <;> simp <;> omega
  have t3 : ∀ k, k = 28 ∨ k = 35 ∨ k = 58 → lb (jshl (lN (tdN (partS x 3))) 29) k = false := by
    intro k hk
    refine lb_td (s := 29) (by decide) (by omega) p3.1 (by omega) fun h => ?_
    rcases hk with rfl | rfl | rfl <;> simp at h ⊢ <;> omega
  have t2 : ∀ k, k = 28 ∨ k = 35 ∨ k = 58 → lb (jshl (lN (tdN (partS x 2))) 36) k = false := by
    intro k hk
    refine lb_td (s := 36) (by decide) (by omega) (by omega) (by omega) fun h => ?_
    rcases hk with rfl | rfl | rfl <;> simp at h ⊢ <;> omega
  have t5 : ∀ k, k = 28 ∨ k = 35 ∨ k = 58 → lb (jshl (lN (tdN (partS x 5))) 42) k = false := by
    intro k hk
    refine lb_td (s := 42) (by decide) (by omega) (by omega) (by omega) fun h => ?_
    rcases hk with rfl | rfl | rfl <;> simp at h ⊢ <;> omega
  have t1 : ∀ k, k = 28 ∨ k = 35 ∨ k = 58 → lb (jshl (lN (tdN (partS x 1))) 45) k = false := by
    intro k hk
    refine lb_td (s := 45) (by decide) (by omega) (by omega) (by omega) fun h => ?_
    rcases hk with rfl | rfl | rfl <;> simp at h ⊢ <;> omega
  have t0 : ∀ k, k = 28 ∨ k = 35 ∨ k = 58 → lb (jshl (lN (tdN (partS x 0 - 2000))) 50) k = false := by
    intro k hk
    refine lb_td (s := 50) (by decide) (by omega) (by omega) (by omega) fun h => ?_
    rcases hk with rfl | rfl | rfl <;> simp at h ⊢ <;> omega
  have key : ∀ k, k = 28 ∨ k = 35 ∨ k = 58 → lb (baseS x leap) k = false := by
    intro k hk
    simp only [baseS, lb_or, e1 k hk, e2 k hk, t4 k hk, t3 k hk, t2 k hk, t5 k hk, t1 k hk, t0 k hk, Bool.or_false]
  exact ⟨key 28 (by omega), key 35 (by omega), key 58 (by omega)⟩
theorem jshl_1 : ∀ e : Fin 63, jshl 1 (nI e.val) = lN (2 ^ e.val) := by decide +kernel
theorem X6_parity_v {N : Nat} (hN : 700 ≤ N) (x : Int64) {a e : Int} (ha : 0 ≤ a) (hae : a ≤ e) (he : e < 63) : f_X6_parity N x (zI a) (zI e) = some (parB x a.toNat (e - a).toNat e.toNat) := by
  have hc := cb_le x (e - a).toNat a.toNat
  have hj : jshl 1 (zI e) = lN (2 ^ e.toNat) := by
    have h := jshl_1 ⟨e.toNat, by omega⟩
    rw [zI_nI' (by omega)]
    exact h
  rw [f_X6_parity, show (1 : Int32) = zI 1 from rfl, zI_sub, X6_bits_v hN x ha (by omega) (by omega), show e - 1 + 1 - a = e - a by omega, Option.bind_some, hj]
  unfold parB oddB
  by_cases h : cb x a.toNat (e - a).toNat % 2 = 1
  · simp (maxSteps := 400000) (disch := omega) only [zI_lit, zI_neg, zI_add, zI_sub, zI_mul, zI_div, zI_tn, zI_toL, zL_lit, zL_neg, zL_add, zL_sub, zL_mul, zL_div, zL_toI, zI_ltT, zI_ltF, zI_leT, zI_leF, zI_eqT, zI_eqF, zL_ltT, zL_ltF, zL_leT, zL_leF, zL_eqT, zL_eqF, nleT, nleF, or_self, or_false, false_or, true_or, or_true, not_true_eq_false, not_false_eq_true, ↓reduceIte, Option.bind_some, Bool.false_eq_true, decide_true, decide_false]
    rw [if_pos (decide_eq_true h)]
  · simp (maxSteps := 400000) (disch := omega) only [zI_lit, zI_neg, zI_add, zI_sub, zI_mul, zI_div, zI_tn, zI_toL, zL_lit, zL_neg, zL_add, zL_sub, zL_mul, zL_div, zL_toI, zI_ltT, zI_ltF, zI_leT, zI_leF, zI_eqT, zI_eqF, zL_ltT, zL_ltF, zL_leT, zL_leF, zL_eqT, zL_eqF, nleT, nleF, or_self, or_false, false_or, true_or, or_true, not_true_eq_false, not_false_eq_true, ↓reduceIte, Option.bind_some, Bool.false_eq_true, decide_true, decide_false]
    rw [if_neg (by rw [decide_eq_false h]; decide)]
theorem X6_codeOf_v {N : Nat} (hN : 700 ≤ N) {x : Int} (h1 : 0 ≤ x) (h2 : x < 52596000) (leap : Bool) : f_X6_codeOf N (zI x) leap = some (codeS x leap) := by
  obtain ⟨p4, p3, p2, p5, p1, p0⟩ := partS_rng h1 h2
  have q : ∀ w : Int, 0 ≤ w → w ≤ 5 → f_X6_partOf N (zI x) (zI w) = some (zI (partS x w)) := fun w a b => X6_partOf_v hN h1 h2 a b
  have b4 := q 4 (by omega) (by omega)
  have b3 := q 3 (by omega) (by omega)
  have b2 := q 2 (by omega) (by omega)
  have b5 := q 5 (by omega) (by omega)
  have b1 := q 1 (by omega) (by omega)
  have b0 := q 0 (by omega) (by omega)
  have d4 := X6_digits_v N (v := partS x 4) (by omega) (by omega)
  have d3 := X6_digits_v N (v := partS x 3) (by omega) (by omega)
  have d2 := X6_digits_v N (v := partS x 2) (by omega) (by omega)
  have d5 := X6_digits_v N (v := partS x 5) (by omega) (by omega)
  have d1 := X6_digits_v N (v := partS x 1) (by omega) (by omega)
  have d0 := X6_digits_v N (v := partS x 0 - 2000) (by omega) (by omega)
  have z0 := X6_parity_v hN (baseS x leap) (a := 21) (e := 28) (by omega) (by omega) (by omega)
  have z1 := X6_parity_v hN (baseS x leap) (a := 29) (e := 35) (by omega) (by omega) (by omega)
  have z2 := X6_parity_v hN (baseS x leap) (a := 36) (e := 58) (by omega) (by omega) (by omega)
  rw [f_X6_codeOf, codeS]
  have e2000 : zI (partS x 0) - (2000 : Int32) = zI (partS x 0 - 2000) := by rw [show (2000 : Int32) = zI 2000 from rfl, zI_sub]
  cases leap
  · rw [if_neg (by decide), show (4 : Int32) = zI 4 from rfl, show (3 : Int32) = zI 3 from rfl, show (2 : Int32) = zI 2 from rfl, show (5 : Int32) = zI 5 from rfl, show (1 : Int32) = zI 1 from rfl, show (0 : Int32) = zI 0 from rfl, b4, b3, b2, b5, b1, b0]
    simp only [Option.bind_some, d4, d3, d2, d5, d1, e2000, d0]
    refine (congrArg (fun t => Option.bind t _) z0).trans ?_
    rw [Option.bind_some]
    refine (congrArg (fun t => Option.bind t _) z1).trans ?_
    rw [Option.bind_some]
    refine (congrArg (fun t => Option.bind t _) z2).trans ?_
    rfl
  · rw [if_pos rfl, show (4 : Int32) = zI 4 from rfl, show (3 : Int32) = zI 3 from rfl, show (2 : Int32) = zI 2 from rfl, show (5 : Int32) = zI 5 from rfl, show (1 : Int32) = zI 1 from rfl, show (0 : Int32) = zI 0 from rfl, b4, b3, b2, b5, b1, b0]
    simp only [Option.bind_some, d4, d3, d2, d5, d1, e2000, d0]
    refine (congrArg (fun t => Option.bind t _) z0).trans ?_
    rw [Option.bind_some]
    refine (congrArg (fun t => Option.bind t _) z1).trans ?_
    rw [Option.bind_some]
    refine (congrArg (fun t => Option.bind t _) z2).trans ?_
    rfl
