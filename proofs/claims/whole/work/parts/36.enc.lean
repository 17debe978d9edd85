/-! the class's code of a minute -/
theorem zL_lN (k : Nat) : zL (k : Int) = lN k := rfl
theorem zL_lN' {k : Int} (h : 0 ≤ k) : zL k = lN k.toNat := by rw [← zL_lN, Int.toNat_of_nonneg h]
theorem or_td {a b c d e f g h : Int64} : ((((((a ||| b) ||| c) ||| d) ||| e) ||| f) ||| g) ||| h = (a ||| b) ||| (((((c ||| d) ||| e) ||| f) ||| g) ||| h) := by
  apply lb_ext
  intro k _
  simp only [lb_or, Bool.or_assoc]
theorem or_td2 {a c d e f g h : Int64} : (((((a ||| c) ||| d) ||| e) ||| f) ||| g) ||| h = (a ||| 0) ||| (((((c ||| d) ||| e) ||| f) ||| g) ||| h) := by
  apply lb_ext
  intro k _
  simp only [lb_or, Bool.or_assoc, lb_0, Bool.false_or]
theorem cb_hi {x : Int64} {a n : Nat} (h : lb x (a + n) = false) : cb x a (n + 1) = cb x a n := by
  rw [cb_add, cb, cb, h]
  rfl
theorem oddB_hi {x : Int64} {a n : Nat} (h : lb x (a + n) = false) : oddB x a (n + 1) = oddB x a n := by unfold oddB; rw [cb_hi h]
theorem oddB_cong {x y : Int64} {a n : Nat} (h : ∀ k, a ≤ k → k < a + n → lb x k = lb y k) : oddB x a n = oddB y a n := by unfold oddB; rw [cb_cong n a h]
theorem lb_parB {x : Int64} {a n e k : Nat} (he : e < 63) (hk : k ≠ e) : lb (parB x a n e) k = false := by
  unfold parB
  split
  · rw [lb_lN (Nat.pow_lt_pow_right (by decide) (by omega)), Nat.testBit_two_pow]
    exact decide_eq_false (fun h => hk h.symm)
  · exact lb_0 k
theorem X2_encode_l {N : Nat} (hN : 700 ≤ N) (x0 d0 : Int32) (leap : Bool) {b : Int64} (h28 : lb b 28 = false) (h35 : lb b 35 = false) (h58 : lb b 58 = false) : l_X2_encode_102 N x0 leap N d0 b (0 : Int32) = some (((b ||| parB b 21 7 28) ||| parB b 29 6 35) ||| parB b 36 22 58) := by
  obtain ⟨n, rfl⟩ : ∃ k, N = k + 1 + 1 + 1 + 1 := ⟨N - 4, by omega⟩
  have a0 : aEn 0 = 28 := rfl
  have a1 : aEn 1 = 35 := rfl
  have a2 : aEn 2 = 58 := rfl
  have j0 : jshl (zL 1) 28 = lN (2 ^ 28) := by decide +kernel
  have j1 : jshl (zL 1) 35 = lN (2 ^ 35) := by decide +kernel
  have j2 : jshl (zL 1) 58 = lN (2 ^ 58) := by decide +kernel
  have step : ∀ (b : Int64) (k : Int) (m : Nat), (k = 0 ∨ k = 1 ∨ k = 2) → l_X2_encode_102 (n + 1 + 1 + 1 + 1) x0 leap (m + 1) d0 b (zI k) = l_X2_encode_102 (n + 1 + 1 + 1 + 1) x0 leap m d0 (b ||| (if oddB b (bS k) (bN k) = true then lN (2 ^ (if k = 0 then 28 else if k = 1 then 35 else 58)) else 0)) (zI (k + 1)) := by
    intro b k m hk
    rw [l_X2_encode_102, X2_isOdd_v _ b hk, Option.bind_some]
    have hz : b ||| zL 0 = b := by
      show b ||| 0 = b
      apply lb_ext
      intro k _
      rw [lb_or, lb_0, Bool.or_false]
    rcases hk with rfl | rfl | rfl
    · cases ho : oddB b (bS 0) (bN 0)
      · simp (maxSteps := 400000) (disch := omega) only [zI_lit, zI_neg, zI_add, zI_sub, zI_mul, zI_div, zI_tn, zI_toL, zL_lit, zL_neg, zL_add, zL_sub, zL_mul, zL_div, zL_toI, zI_ltT, zI_ltF, zI_leT, zI_leF, zI_eqT, zI_eqF, zL_ltT, zL_ltF, zL_leT, zL_leF, zL_eqT, zL_eqF, nleT, nleF, or_self, or_false, false_or, true_or, or_true, not_true_eq_false, not_false_eq_true, ↓reduceIte, Option.bind_some, Bool.false_eq_true, decide_true, decide_false, hz]
      · simp (maxSteps := 400000) (disch := omega) only [zI_lit, zI_neg, zI_add, zI_sub, zI_mul, zI_div, zI_tn, zI_toL, zL_lit, zL_neg, zL_add, zL_sub, zL_mul, zL_div, zL_toI, zI_ltT, zI_ltF, zI_leT, zI_leF, zI_eqT, zI_eqF, zL_ltT, zL_ltF, zL_leT, zL_leF, zL_eqT, zL_eqF, nleT, nleF, or_self, or_false, false_or, true_or, or_true, not_true_eq_false, not_false_eq_true, ↓reduceIte, Option.bind_some, Bool.false_eq_true, decide_true, decide_false]
        rw [show (0 : Int).toNat = 0 from rfl, a0, j0]
    · cases ho : oddB b (bS 1) (bN 1)
      · simp (maxSteps := 400000) (disch := omega) only [zI_lit, zI_neg, zI_add, zI_sub, zI_mul, zI_div, zI_tn, zI_toL, zL_lit, zL_neg, zL_add, zL_sub, zL_mul, zL_div, zL_toI, zI_ltT, zI_ltF, zI_leT, zI_leF, zI_eqT, zI_eqF, zL_ltT, zL_ltF, zL_leT, zL_leF, zL_eqT, zL_eqF, nleT, nleF, or_self, or_false, false_or, true_or, or_true, not_true_eq_false, not_false_eq_true, ↓reduceIte, Option.bind_some, Bool.false_eq_true, decide_true, decide_false, hz]
      · simp (maxSteps := 400000) (disch := omega) only [zI_lit, zI_neg, zI_add, zI_sub, zI_mul, zI_div, zI_tn, zI_toL, zL_lit, zL_neg, zL_add, zL_sub, zL_mul, zL_div, zL_toI, zI_ltT, zI_ltF, zI_leT, zI_leF, zI_eqT, zI_eqF, zL_ltT, zL_ltF, zL_leT, zL_leF, zL_eqT, zL_eqF, nleT, nleF, or_self, or_false, false_or, true_or, or_true, not_true_eq_false, not_false_eq_true, ↓reduceIte, Option.bind_some, Bool.false_eq_true, decide_true, decide_false]
        rw [show (1 : Int).toNat = 1 from rfl, a1, j1]
        rfl
    · cases ho : oddB b (bS 2) (bN 2)
      · simp (maxSteps := 400000) (disch := omega) only [zI_lit, zI_neg, zI_add, zI_sub, zI_mul, zI_div, zI_tn, zI_toL, zL_lit, zL_neg, zL_add, zL_sub, zL_mul, zL_div, zL_toI, zI_ltT, zI_ltF, zI_leT, zI_leF, zI_eqT, zI_eqF, zL_ltT, zL_ltF, zL_leT, zL_leF, zL_eqT, zL_eqF, nleT, nleF, or_self, or_false, false_or, true_or, or_true, not_true_eq_false, not_false_eq_true, ↓reduceIte, Option.bind_some, Bool.false_eq_true, decide_true, decide_false, hz]
      · simp (maxSteps := 400000) (disch := omega) only [zI_lit, zI_neg, zI_add, zI_sub, zI_mul, zI_div, zI_tn, zI_toL, zL_lit, zL_neg, zL_add, zL_sub, zL_mul, zL_div, zL_toI, zI_ltT, zI_ltF, zI_leT, zI_leF, zI_eqT, zI_eqF, zL_ltT, zL_ltF, zL_leT, zL_leF, zL_eqT, zL_eqF, nleT, nleF, or_self, or_false, false_or, true_or, or_true, not_true_eq_false, not_false_eq_true, ↓reduceIte, Option.bind_some, Bool.false_eq_true, decide_true, decide_false]
        rw [show (2 : Int).toNat = 2 from rfl, a2, j2]
        rfl
  have o0 : oddB b (bS 0) (bN 0) = oddB b 21 7 := oddB_hi (n := 7) h28
  have p0 : (if oddB b (bS 0) (bN 0) = true then lN (2 ^ (if (0 : Int) = 0 then 28 else if (0 : Int) = 1 then 35 else 58)) else 0) = parB b 21 7 28 := by rw [o0]; rfl
  have o1 : oddB (b ||| parB b 21 7 28) (bS 1) (bN 1) = oddB b 29 6 := by
    refine (oddB_cong (y := b) (a := 29) (n := 7) fun k h1 h2 => ?_).trans (oddB_hi (n := 6) h35)
    rw [lb_or, lb_parB (by decide) (by omega), Bool.or_false]
  have p1 : (if oddB (b ||| parB b 21 7 28) (bS 1) (bN 1) = true then lN (2 ^ (if (1 : Int) = 0 then 28 else if (1 : Int) = 1 then 35 else 58)) else 0) = parB b 29 6 35 := by rw [o1]; rfl
  have o2 : oddB ((b ||| parB b 21 7 28) ||| parB b 29 6 35) (bS 2) (bN 2) = oddB b 36 22 := by
    refine (oddB_cong (y := b) (a := 36) (n := 23) fun k h1 h2 => ?_).trans (oddB_hi (n := 22) h58)
    rw [lb_or, lb_or, lb_parB (by decide) (by omega), lb_parB (by decide) (by omega), Bool.or_false, Bool.or_false]
  have p2 : (if oddB ((b ||| parB b 21 7 28) ||| parB b 29 6 35) (bS 2) (bN 2) = true then lN (2 ^ (if (2 : Int) = 0 then 28 else if (2 : Int) = 1 then 35 else 58)) else 0) = parB b 36 22 58 := by rw [o2]; rfl
  rw [show (0 : Int32) = zI 0 from rfl, step b 0 _ (by omega), p0, show (0 : Int) + 1 = 1 from rfl, step _ 1 _ (by omega), p1, show (1 : Int) + 1 = 2 from rfl, step _ 2 _ (by omega), p2, show (2 : Int) + 1 = 3 from rfl, l_X2_encode_102]
  simp (maxSteps := 400000) (disch := omega) only [zI_lit, zI_neg, zI_add, zI_sub, zI_mul, zI_div, zI_tn, zI_toL, zL_lit, zL_neg, zL_add, zL_sub, zL_mul, zL_div, zL_toI, zI_ltT, zI_ltF, zI_leT, zI_leF, zI_eqT, zI_eqF, zL_ltT, zL_ltF, zL_leT, zL_leF, zL_eqT, zL_eqF, nleT, nleF, or_self, or_false, false_or, true_or, or_true, not_true_eq_false, not_false_eq_true, ↓reduceIte, Option.bind_some, Bool.false_eq_true, decide_true, decide_false]
theorem X2_encode_v {N : Nat} (hN : 700 ≤ N) {x : Int} (h1 : 0 ≤ x) (h2 : x < 52596000) (leap : Bool) : f_X2_encode N (zI x) leap = some (codeS x leap) := by
  obtain ⟨p4, p3, p2, p5, p1, p0⟩ := partS_rng h1 h2
  have hd1 : 0 ≤ x / 1440 := by omega
  have hd2 : x / 1440 < 36525 := by omega
  obtain ⟨b28, b35, b58⟩ := base_hi h1 h2 leap
  have g4 : zI x - zI x / (60 : Int32) * (60 : Int32) = zI (partS x 4) := by
    simp (maxSteps := 400000) (disch := omega) only [zI_lit, zI_neg, zI_add, zI_sub, zI_mul, zI_div, zI_tn, zI_toL, zL_lit, zL_neg, zL_add, zL_sub, zL_mul, zL_div, zL_toI, zI_lt, zI_le, zI_eq, zL_lt, zL_le, zL_eq]
    congr 1
    show x - x / 60 * 60 = x % 60
    omega
  have g3 : zI x / (60 : Int32) - zI x / (60 : Int32) / (24 : Int32) * (24 : Int32) = zI (partS x 3) := by
    simp (maxSteps := 400000) (disch := omega) only [zI_lit, zI_neg, zI_add, zI_sub, zI_mul, zI_div, zI_tn, zI_toL, zL_lit, zL_neg, zL_add, zL_sub, zL_mul, zL_div, zL_toI, zI_lt, zI_le, zI_eq, zL_lt, zL_le, zL_eq]
    congr 1
    show x / 60 - x / 60 / 24 * 24 = x / 60 % 24
    omega
  have gd : zI x / (1440 : Int32) = zI (x / 1440) := by simp (maxSteps := 400000) (disch := omega) only [zI_lit, zI_neg, zI_add, zI_sub, zI_mul, zI_div, zI_tn, zI_toL, zL_lit, zL_neg, zL_add, zL_sub, zL_mul, zL_div, zL_toI, zI_lt, zI_le, zI_eq, zL_lt, zL_le, zL_eq]
  have t4 := X2_twoDigits_v N (v := partS x 4) (by omega) (by omega)
  have t3 := X2_twoDigits_v N (v := partS x 3) (by omega) (by omega)
  have t2 := X2_twoDigits_v N (v := partS x 2) (by omega) (by omega)
  have t1 := X2_twoDigits_v N (v := partS x 1) (by omega) (by omega)
  have t0 := X2_twoDigits_v N (v := partS x 0 - 2000) (by omega) (by omega)
  have c2 : f_X1_dayOfMonth N (zI (x / 1440)) = some (zI (partS x 2)) := X1_dayOfMonth_v hN hd1 hd2
  have c5 : f_X1_weekdayOf N (zI (x / 1440)) = some (zI (partS x 5)) := X1_weekdayOf_v N hd1 hd2
  have c1 : f_X1_monthOf N (zI (x / 1440)) = some (zI (partS x 1)) := X1_monthOf_v hN hd1 hd2
  have c0 : f_X1_yearOf N (zI (x / 1440)) = some (zI (partS x 0 - 2000)) := by
    rw [X1_yearOf_v N hd1 hd2, show partS x 0 - 2000 = yS (x / 1440) by show 2000 + yS (x / 1440) - 2000 = _; omega]
  have w5 : (zI (partS x 5)).toInt64 = lN (tdN (partS x 5)) := by
    rw [tdN_small (by omega) (by omega), zI_toL (by omega) (by omega), zL_lN' (by omega)]
  rw [f_X2_encode, g4, g3, gd]
  simp only [t4, t3, c2, t2, c5, c1, t1, c0, t0, Option.bind_some, w5]
  cases leap
  · rw [if_neg (by decide), or_td2]
    exact X2_encode_l hN _ _ false b28 b35 b58
  · rw [if_pos rfl, or_td]
    exact X2_encode_l hN _ _ true b28 b35 b58
