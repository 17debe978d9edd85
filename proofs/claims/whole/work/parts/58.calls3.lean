/-! fix, clock, estimate, set, discipline, forget, undo, save, restore -/
theorem st_fix (N : Nat) : S_fix Rel N := by
  intro u0 u1 u2 u3 mo h x w
  obtain ⟨x, x1, x2, rfl⟩ := zI_get x
  obtain ⟨w, w1, w2, rfl⟩ := zI_get w
  obtain ⟨st, pos, mark, bef, ign, len, F, told, votd, X, xm, xt, hS, hK, hC, hF, hT, ⟨⟨y1, y2⟩, y3, y4⟩, hI⟩ := id h.1
  have y1 : (u2 0).1 16 = zI X := y1
  have e5 := f_X5_fix.eq_1 N (zI x) (zI w) u0 u1 u2 u3
  have e6 := f_X6_fix.eq_1 N (zI x) (zI w) mo
  have z : zL (X : Int) - 1 = zL ((X : Int) - 1) := by rw [zL_lit, zL_sub]
  rw [y1] at e5
  rw [zI_toL x1 x2, zI_toL w1 w2, show (13 : Int32).toNatClampNeg = 13 from rfl, y2, z, show (0 : Int64) = zL 0 from rfl, show (1 : Int64) = zL 1 from rfl] at e6
  have c1 : (zI x < 0) = (x < 0) := by rw [zI_lit, zI_lt (by omega) (by omega) (by omega) (by omega)]
  have c2 : (zI (X : Int) ≤ zI x) = ((X : Int) ≤ x) := zI_le (by omega) (by omega) (by omega) (by omega)
  have c3 : (zI x < 8) = (x < 8) := by rw [zI_lit, zI_lt (by omega) (by omega) (by omega) (by omega)]
  have c4 : (zI w = 0) = (w = 0) := by rw [zI_lit, zI_eq (by omega) (by omega) (by omega) (by omega)]
  have c5 : (zI w = 1) = (w = 1) := by rw [zI_lit, zI_eq (by omega) (by omega) (by omega) (by omega)]
  by_cases g : 0 ≤ x ∧ x ≤ (X : Int) - 1
  · rw [isIn_T N (by omega) (by omega) (by omega) g, Option.bind_some, if_pos rfl] at e6
    rw [ifN c1 (by omega), ifN c2 (by omega), ifP c3 (by omega)] at e5
    obtain ⟨k, rfl⟩ : ∃ k : Nat, x = k := ⟨x.toNat, by omega⟩
    obtain ⟨⟨a1, a2⟩, ⟨a3, a4⟩, _⟩ := y4 k (by omega)
    have a1 : (u2 0).2.2.1 14 k = zI (xm k) := a1
    have a3 : (u2 0).2.2.1 15 k = zI (xt k) := a3
    have d1 : (zI (k : Int) < 0 ∨ 8 ≤ (zI (k : Int)).toNatClampNeg) = False := by
      rw [zI_tnN (by omega)]
      simp (maxSteps := 400000) (disch := omega) only [zI_lit, zI_neg, zI_add, zI_sub, zI_mul, zI_div, zI_tn, zI_toL, zL_lit, zL_neg, zL_add, zL_sub, zL_mul, zL_div, zL_toI, zI_ltT, zI_ltF, zI_leT, zI_leF, zI_eqT, zI_eqF, zL_ltT, zL_ltF, zL_leT, zL_leF, zL_eqT, zL_eqF, nleT, nleF, or_self, or_false, false_or, true_or, or_true, not_true_eq_false, not_false_eq_true, ↓reduceIte, Option.bind_some, Bool.false_eq_true, decide_true, decide_false]
    by_cases gw : 0 ≤ w ∧ w ≤ 1
    · rw [isIn_T N (by omega) (by omega) (by omega) gw, Option.bind_some, if_pos rfl] at e6
      rcases (show w = 0 ∨ w = 1 by omega) with rfl | rfl
      · rw [ifP c4 rfl, ifF d1, zI_tnN (by omega), a1] at e5
        have z1 : (32 : Int32) + 2 * zI (k : Int) + zI 0 = zI ((32 + 2 * k : Nat) : Int) := by
          simp (maxSteps := 400000) (disch := omega) only [zI_lit, zI_neg, zI_add, zI_sub, zI_mul, zI_div, zI_tn, zI_toL, zL_lit, zL_neg, zL_add, zL_sub, zL_mul, zL_div, zL_toI, zI_lt, zI_le, zI_eq, zL_lt, zL_le, zL_eq]
          congr 1
        have d2 : (zI ((32 + 2 * k : Nat) : Int) < 0 ∨ 48 ≤ (zI ((32 + 2 * k : Nat) : Int)).toNatClampNeg) = False := by
          rw [zI_tnN (by omega)]
          simp (maxSteps := 400000) (disch := omega) only [zI_lit, zI_neg, zI_add, zI_sub, zI_mul, zI_div, zI_tn, zI_toL, zL_lit, zL_neg, zL_add, zL_sub, zL_mul, zL_div, zL_toI, zI_ltT, zI_ltF, zI_leT, zI_leF, zI_eqT, zI_eqF, zL_ltT, zL_ltF, zL_leT, zL_leF, zL_eqT, zL_eqF, nleT, nleF, or_self, or_false, false_or, true_or, or_true, not_true_eq_false, not_false_eq_true, ↓reduceIte, Option.bind_some, Bool.false_eq_true, decide_true, decide_false]
        rw [z1, ifF d2, zI_tnN (by omega), a2, zL_toI] at e6
        exact S_r h _ e5 e6
      · rw [ifN c4 (by omega), ifP c5 rfl, ifF d1, zI_tnN (by omega), a3] at e5
        have z1 : (32 : Int32) + 2 * zI (k : Int) + zI 1 = zI ((33 + 2 * k : Nat) : Int) := by
          simp (maxSteps := 400000) (disch := omega) only [zI_lit, zI_neg, zI_add, zI_sub, zI_mul, zI_div, zI_tn, zI_toL, zL_lit, zL_neg, zL_add, zL_sub, zL_mul, zL_div, zL_toI, zI_lt, zI_le, zI_eq, zL_lt, zL_le, zL_eq]
          congr 1
          omega
        have d2 : (zI ((33 + 2 * k : Nat) : Int) < 0 ∨ 48 ≤ (zI ((33 + 2 * k : Nat) : Int)).toNatClampNeg) = False := by
          rw [zI_tnN (by omega)]
          simp (maxSteps := 400000) (disch := omega) only [zI_lit, zI_neg, zI_add, zI_sub, zI_mul, zI_div, zI_tn, zI_toL, zL_lit, zL_neg, zL_add, zL_sub, zL_mul, zL_div, zL_toI, zI_ltT, zI_ltF, zI_leT, zI_leF, zI_eqT, zI_eqF, zL_ltT, zL_ltF, zL_leT, zL_leF, zL_eqT, zL_eqF, nleT, nleF, or_self, or_false, false_or, true_or, or_true, not_true_eq_false, not_false_eq_true, ↓reduceIte, Option.bind_some, Bool.false_eq_true, decide_true, decide_false]
        rw [z1, ifF d2, zI_tnN (by omega), a4, zL_toI] at e6
        exact S_r h _ e5 e6
    · rw [isIn_F N (by omega) (by omega) (by omega) gw, Option.bind_some, if_neg (by decide)] at e6
      rw [ifN c4 (by omega), ifN c5 (by omega)] at e5
      exact S_e h e5 e6 (okX2 (by decide) 0)
  · rw [isIn_F N (by omega) (by omega) (by omega) g, Option.bind_some, if_neg (by decide)] at e6
    by_cases g1 : x < 0
    · rw [ifP c1 g1] at e5
      exact S_e h e5 e6 (okX1 2 1 0)
    · rw [ifN c1 g1, ifP c2 (by omega)] at e5
      exact S_e h e5 e6 (okX1 2 1 0)
theorem st_clock (N : Nat) : S_clock Rel N := by
  intro u0 u1 u2 u3 mo h x
  obtain ⟨x, x1, x2, rfl⟩ := zI_get x
  obtain ⟨st, pos, mark, bef, ign, len, F, told, votd, X, xm, xt, hS, hK, hC, hF, hT, ⟨⟨y1, y2⟩, y3, y4⟩, hI⟩ := id h.1
  have y1 : (u2 0).1 16 = zI X := y1
  have so := hS.1
  unfold stOk at so
  have s4 := hS.2 4 (by omega)
  have s4 : (u2 0).2.2.1 0 4 = zI (st 4) ∧ mo.2.2.2 0 4 = zL (st 4) := s4
  have e5 := f_X5_clock.eq_1 N (zI x) u0 u1 u2 u3
  have e6 := f_X6_clock.eq_1 N (zI x) mo
  rw [y1, show (4 : Int32).toNatClampNeg = 4 from rfl, show (0 : Int32).toNatClampNeg = 0 from rfl, s4.1] at e5
  rw [show (13 : Int32).toNatClampNeg = 13 from rfl, show (4 : Int32).toNatClampNeg = 4 from rfl, show (32 : Int32).toNatClampNeg = 32 from rfl, show (33 : Int32).toNatClampNeg = 33 from rfl, y2, s4.2] at e6
  have ci := X6_isIn_v N (a := x) (b := 0) (c := 2000000000) (by omega) (by omega) (by omega)
  have c1 : (zI x < 0) = (x < 0) := by rw [zI_lit, zI_lt (by omega) (by omega) (by omega) (by omega)]
  have c2 : (zI x ≤ 2000000000) = (x ≤ 2000000000) := by rw [zI_lit, zI_le (by omega) (by omega) (by omega) (by omega)]
  have c3 : (zI (X : Int) = 0) = (X = 0) := by
    rw [zI_lit, zI_eq (by omega) (by omega) (by omega) (by omega)]
    exact propext (by omega)
  have c4 : (zL (X : Int) = 0) = (X = 0) := by
    rw [zL_lit, zL_eq (by omega) (by omega) (by omega) (by omega)]
    exact propext (by omega)
  have zx : (zI x).toInt64 = zL x := zI_toL x1 x2
  have ci : f_X6_isIn N (zI x).toInt64 0 2000000000 = some (decide (0 ≤ x ∧ x ≤ 2000000000)) := by rw [zx]; exact ci
  rw [ci, Option.bind_some] at e6
  by_cases g : 0 ≤ x ∧ x ≤ 2000000000
  · rw [decide_eq_true g, if_pos rfl] at e6
    rw [ifN c1 (by omega), ifP c2 (by omega)] at e5
    by_cases gX : X = 0
    · rw [ifP c4 gX] at e6
      rw [ifP c3 gX] at e5
      exact S_e h e5 e6 (okX2 (by decide) 0)
    · rw [ifN c4 gX] at e6
      rw [ifN c3 gX] at e5
      obtain ⟨⟨a1, a2⟩, ⟨a3, a4⟩, a5, a6, a7, a8⟩ := y4 0 (by omega)
      have a1 : (u2 0).2.2.1 14 0 = zI (xm 0) := a1
      have a3 : (u2 0).2.2.1 15 0 = zI (xt 0) := a3
      have a2 : mo.2.2.2 0 32 = zL (xm 0) := a2
      have a4 : mo.2.2.2 0 33 = zL (xt 0) := a4
      rw [a1, a3, zI_toL (a := xm 0) (by omega) (by omega), zI_toL (a := xt 0) (by omega) (by omega), zI_toL (a := st 4) (by omega) (by omega), zx] at e5
      rw [a2, a4, zx] at e6
      have c5 : (zI (xt 0) ≤ zI x) = (xt 0 ≤ x) := zI_le (by omega) (by omega) (by omega) (by omega)
      have c6 : (zL (xt 0) ≤ zL x) = (xt 0 ≤ x) := zL_le (by omega) (by omega) (by omega) (by omega)
      by_cases gt : xt 0 ≤ x
      · rw [ifP c6 gt] at e6
        rw [ifP c5 gt] at e5
        exact S_r h _ e5 e6
      · rw [ifN c6 gt] at e6
        rw [ifN c5 gt] at e5
        exact S_e h e5 e6 (okX2 (by decide) 0)
  · rw [decide_eq_false g, if_neg (by decide)] at e6
    by_cases g1 : x < 0
    · rw [ifP c1 g1] at e5
      exact S_e h e5 e6 (okX1 1 3 0)
    · rw [ifN c1 g1, ifN c2 (by omega)] at e5
      exact S_e h e5 e6 (okX1 1 3 0)
theorem drift_v (N : Nat) {u mo : Ob} {X : Nat} {xm xt : Nat → Int} (hX : RX u (mo.2.2.2 0) X xm xt) (h2 : 2 ≤ X) (hI : xt 1 < xt 0) : ∃ d : Int64, f_X4_driftEstimate N u = some d ∧ f_X6_estimated N mo = some d := by
  obtain ⟨⟨y1, y2⟩, y3, y4⟩ := hX
  obtain ⟨⟨a1, a2⟩, ⟨a3, a4⟩, a5, a6, a7, a8⟩ := y4 0 (by omega)
  obtain ⟨⟨b1, b2⟩, ⟨b3, b4⟩, b5, b6, b7, b8⟩ := y4 1 (by omega)
  have a2 : mo.2.2.2 0 32 = zL (xm 0) := a2
  have a4 : mo.2.2.2 0 33 = zL (xt 0) := a4
  have b2 : mo.2.2.2 0 34 = zL (xm 1) := b2
  have b4 : mo.2.2.2 0 35 = zL (xt 1) := b4
  have d1 : ((1 : Int32) < 0 ∨ 8 ≤ (1 : Int32).toNatClampNeg) = False := by decide
  have hne : ¬ (zL (xt 0 - xt 1) = 0) := by
    rw [zL_lit, zL_eq (by omega) (by omega) (by omega) (by omega)]
    omega
  have t1 : f_X4_timeSinceFix N 1 u = some (zL (xt 0 - xt 1)) := by
    rw [f_X4_timeSinceFix, ifF d1, show (0 : Int32).toNatClampNeg = 0 from rfl, show (1 : Int32).toNatClampNeg = 1 from rfl, a3, b3, zI_toL (by omega) (by omega), zI_toL (by omega) (by omega), zL_sub]
  have t2 : f_X4_minutesSinceFix N 1 u = some (60000 * zL (xm 0 - xm 1)) := by
    rw [f_X4_minutesSinceFix, ifF d1, show (0 : Int32).toNatClampNeg = 0 from rfl, show (1 : Int32).toNatClampNeg = 1 from rfl, a1, b1, zI_sub, zI_toL (by omega) (by omega)]
  refine ⟨(60000 * zL (xm 0 - xm 1) - zL (xt 0 - xt 1)) * 1000000 / zL (xt 0 - xt 1), ?_, ?_⟩
  · rw [f_X4_driftEstimate, t1, Option.bind_some, if_neg hne, t2, Option.bind_some, if_neg hne]
  · rw [f_X6_estimated, show (32 : Int32).toNatClampNeg = 32 from rfl, show (33 : Int32).toNatClampNeg = 33 from rfl, show (34 : Int32).toNatClampNeg = 34 from rfl, show (35 : Int32).toNatClampNeg = 35 from rfl, a2, a4, b2, b4, zL_sub, zL_sub, if_neg hne]
theorem st_estimate (N : Nat) : S_estimate Rel N := by
  intro u0 u1 u2 u3 mo h
  obtain ⟨st, pos, mark, bef, ign, len, F, told, votd, X, xm, xt, hS, hK, hC, hF, hT, hX, hI⟩ := id h.1
  obtain ⟨⟨y1, y2⟩, y3, y4⟩ := id hX
  have y1 : (u2 0).1 16 = zI X := y1
  have c1 : ((2 : Int32) ≤ zI (X : Int)) = (2 ≤ X) := by
    rw [zI_lit, zI_le (by omega) (by omega) (by omega) (by omega)]
    exact propext (by omega)
  have c2 : ((2 : Int64) ≤ zL (X : Int)) = (2 ≤ X) := by
    rw [zL_lit, zL_le (by omega) (by omega) (by omega) (by omega)]
    exact propext (by omega)
  have e5 := f_X5_estimate.eq_1 N u0 u1 u2 u3
  have e6 := f_X6_estimate.eq_1 N mo
  rw [y1] at e5
  rw [show (13 : Int32).toNatClampNeg = 13 from rfl, y2] at e6
  by_cases g : 2 ≤ X
  · obtain ⟨d, d1, d2⟩ := drift_v N (u := u2 0) (mo := oi mo 7 0) hX g (hI.2 g)
    rw [ifP c1 g, d1] at e5
    rw [ifP c2 g, d2] at e6
    exact S_r h d e5 e6
  · rw [ifN c1 g] at e5
    rw [ifN c2 g] at e6
    exact S_e h e5 e6 (okX1 3 3 0)
theorem st_set {N : Nat} (hN : 700 ≤ N) : S_set Rel N := by
  intro u0 u1 u2 u3 mo h x w
  obtain ⟨x, x1, x2, rfl⟩ := zI_get x
  obtain ⟨w, w1, w2, rfl⟩ := zI_get w
  have e5 := f_X5_set.eq_1 N (zI x) (zI w) u0 u1 u2 u3
  have e6 := f_X6_set.eq_1 N (zI x) (zI w) mo
  have c1 : (zI x < 0) = (x < 0) := by rw [zI_lit, zI_lt (by omega) (by omega) (by omega) (by omega)]
  have c2 : (zI x < 5) = (x < 5) := by rw [zI_lit, zI_lt (by omega) (by omega) (by omega) (by omega)]
  rw [zI_toL x1 x2, zI_toL w1 w2, show (0 : Int64) = zL 0 from rfl, show (4 : Int64) = zL 4 from rfl] at e6
  by_cases g : 0 ≤ x ∧ x ≤ 4
  · rw [isIn_T N (by omega) (by omega) (by omega) g, Option.bind_some, if_pos rfl] at e6
    obtain ⟨k, rfl⟩ : ∃ k : Nat, x = k := ⟨x.toNat, by omega⟩
    have d1 : (zI (k : Int) < 0 ∨ 5 ≤ (zI (k : Int)).toNatClampNeg) = False := by
      rw [zI_tnN (by omega)]
      simp (maxSteps := 400000) (disch := omega) only [zI_lit, zI_neg, zI_add, zI_sub, zI_mul, zI_div, zI_tn, zI_toL, zL_lit, zL_neg, zL_add, zL_sub, zL_mul, zL_div, zL_toI, zI_ltT, zI_ltF, zI_leT, zI_leF, zI_eqT, zI_eqF, zL_ltT, zL_ltF, zL_leT, zL_leF, zL_eqT, zL_eqF, nleT, nleF, or_self, or_false, false_or, true_or, or_true, not_true_eq_false, not_false_eq_true, ↓reduceIte, Option.bind_some, Bool.false_eq_true, decide_true, decide_false]
    have al : aLe k = zI (loS k) ∧ aGr k = zI (hiS k) ∧ f_X6_least N (zI k) = some (zI (loS k)) ∧ f_X6_most N (zI k) = some (zI (hiS k)) := by
      rcases (show k = 0 ∨ k = 1 ∨ k = 2 ∨ k = 3 ∨ k = 4 by omega) with rfl | rfl | rfl | rfl | rfl <;> exact ⟨rfl, rfl, rfl, rfl⟩
    have lh : -500 ≤ loS k ∧ loS k ≤ 500 ∧ -500 ≤ hiS k ∧ hiS k ≤ 500 := by
      unfold loS hiS
      grind
    rw [ifN c1 (by omega), ifP c2 (by omega), ifF d1, ifF d1, zI_tnN (by omega), al.1, al.2.1] at e5
    rw [zI_tnN (by omega)] at d1
    rw [al.2.2.1, al.2.2.2, Option.bind_some, Option.bind_some, zI_toL (a := loS k) (by omega) (by omega), zI_toL (a := hiS k) (by omega) (by omega)] at e6
    have c3 : (zI w < zI (loS k)) = (w < loS k) := zI_lt (by omega) (by omega) (by omega) (by omega)
    have c4 : (zI w ≤ zI (hiS k)) = (w ≤ hiS k) := zI_le (by omega) (by omega) (by omega) (by omega)
    by_cases gw : loS k ≤ w ∧ w ≤ hiS k
    · rw [isIn_T N (by omega) (by omega) (by omega) gw, Option.bind_some, if_pos rfl] at e6
      rw [ifN c3 (by omega), ifP c4 gw.2] at e5
      obtain ⟨v0, v2, m, r1, r2, r3, r4, r5, r6, r7, r8, r9⟩ := remember_v hN (Rel_7 h 0)
      obtain ⟨o, u', a', p1, p2, p3, p4⟩ := change_v N (u := v2 0) (mo := m) r3.1 (i := k) (v := w) (by omega) gw.1 gw.2
      refine ⟨(.inr (zI o), v0, u1, va_up v2 0 u', u3), zI o, oj m 0 a', ?_, ?_, ⟨?_, rfl⟩, Rel_pr r3 (by rw [oj_s]; exact p3) (Sd_oj m a')⟩
      · rw [e5, r1, Option.bind_some, ifF d1]
        show ((f_X4_change N (zI k) (zI w) (v2 0)).bind _) = _
        rw [p1, Option.bind_some]
        show some (Sum.inr ((v2 0).2.2.1 0 k), v0, u1, va_up v2 0 u', u3) = _
        rw [p4]
      · rw [e6, r2, Option.bind_some, p2]
        rfl
      · show m.1 7 = 0
        rw [r5 7 (by decide), oi_s]
    · rw [isIn_F N (by omega) (by omega) (by omega) gw, Option.bind_some, if_neg (by decide)] at e6
      by_cases g3 : w < loS k
      · rw [ifP c3 g3] at e5
        exact S_e h e5 e6 (okX1 1 1 0)
      · rw [ifN c3 g3, ifN c4 (by omega)] at e5
        exact S_e h e5 e6 (okX1 1 1 0)
  · rw [isIn_F N (by omega) (by omega) (by omega) g, Option.bind_some, if_neg (by decide)] at e6
    by_cases g1 : x < 0
    · rw [ifP c1 g1] at e5
      exact S_e h e5 e6 (okX1 1 1 0)
    · rw [ifN c1 g1, ifN c2 (by omega)] at e5
      exact S_e h e5 e6 (okX1 1 1 0)
theorem st_discipline {N : Nat} (hN : 700 ≤ N) : S_discipline Rel N := by
  intro u0 u1 u2 u3 mo h
  obtain ⟨st, pos, mark, bef, ign, len, F, told, votd, X, xm, xt, hS, hK, hC, hF, hT, hX, hI⟩ := id h.1
  obtain ⟨⟨y1, y2⟩, y3, y4⟩ := id hX
  have y1 : (u2 0).1 16 = zI X := y1
  have c1 : ((2 : Int32) ≤ zI (X : Int)) = (2 ≤ X) := by
    rw [zI_lit, zI_le (by omega) (by omega) (by omega) (by omega)]
    exact propext (by omega)
  have c2 : ((2 : Int64) ≤ zL (X : Int)) = (2 ≤ X) := by
    rw [zL_lit, zL_le (by omega) (by omega) (by omega) (by omega)]
    exact propext (by omega)
  have e5 := f_X5_discipline.eq_1 N u0 u1 u2 u3
  have e6 := f_X6_discipline.eq_1 N mo
  rw [y1] at e5
  rw [show (13 : Int32).toNatClampNeg = 13 from rfl, y2] at e6
  by_cases g : 2 ≤ X
  · obtain ⟨d, d1, d2⟩ := drift_v N (u := u2 0) (mo := mo) hX g (hI.2 g)
    obtain ⟨z, hz⟩ : ∃ z : Int, (-9223372036854775808 ≤ z ∧ z < 9223372036854775808) ∧ d = zL z := ⟨d.toInt, ⟨Int64.le_toInt d, Int64.toInt_lt d⟩, zL_self d⟩
    obtain ⟨hz1, rfl⟩ := hz
    rw [ifP c1 g, d1, Option.bind_some] at e5
    rw [ifP c2 g, d2, Option.bind_some, show (-500 : Int64) = zL (-500) from rfl, show (500 : Int64) = zL 500 from rfl] at e6
    have q1 : (zL z < (aLe ((4 : Int32).toNatClampNeg)).toInt64) = (z < -500) := by
      rw [show (aLe ((4 : Int32).toNatClampNeg)).toInt64 = zL (-500) from rfl, zL_lt (by omega) (by omega) (by omega) (by omega)]
    have q2 : (zL z ≤ (aGr ((4 : Int32).toNatClampNeg)).toInt64) = (z ≤ 500) := by
      rw [show (aGr ((4 : Int32).toNatClampNeg)).toInt64 = zL 500 from rfl, zL_le (by omega) (by omega) (by omega) (by omega)]
    by_cases gz : -500 ≤ z ∧ z ≤ 500
    · rw [ifN q1 (by omega), ifP q2 gz.2] at e5
      rw [isIn_T N (by omega) (by omega) (by omega) gz, Option.bind_some, if_pos rfl] at e6
      obtain ⟨v0, v2, m, r1, r2, r3, r4, r5, r6, r7, r8, r9⟩ := remember_v hN (Rel_7 h 0)
      obtain ⟨d3, d4, d5⟩ := drift_v N (u := u2 0) (mo := m) (by rw [r6 0 (by decide)]; exact hX) g (hI.2 g)
      have dd : d3 = zL z := by
        rw [d1] at d4
        exact (Option.some.inj d4).symm
      subst dd
      obtain ⟨o, u', a', p1, p2, p3, p4⟩ := change_v N (u := v2 0) (mo := m) r3.1 (i := 4) (v := z) (by omega) (by show -500 ≤ z; omega) (by show z ≤ 500; omega)
      refine ⟨(.inr (zI o), v0, u1, va_up v2 0 u', u3), zI o, oj m 0 a', ?_, ?_, ⟨?_, rfl⟩, Rel_pr r3 (by rw [oj_s]; exact p3) (Sd_oj m a')⟩
      · rw [e5, r1, Option.bind_some]
        show ((f_X4_change N 4 (zL z).toInt32 (v2 0)).bind _) = _
        rw [zL_toI]
        have p1 : f_X4_change N 4 (zI z) (v2 0) = some u' := p1
        rw [p1, Option.bind_some]
        show some (Sum.inr ((v2 0).2.2.1 0 4), v0, u1, va_up v2 0 u', u3) = _
        rw [p4]
      · rw [e6, r2, Option.bind_some, d5, Option.bind_some, zL_toI]
        have p2 : f_X6_sets N 4 (zI z) m = some (zI o, oj m 0 a') := p2
        rw [p2]
        rfl
      · show m.1 7 = 0
        rw [r5 7 (by decide), oi_s]
    · rw [isIn_F N (by omega) (by omega) (by omega) gz, Option.bind_some, if_neg (by decide)] at e6
      by_cases g3 : z < -500
      · rw [ifP q1 g3] at e5
        exact S_e h e5 e6 (okX2 (by decide) 0)
      · rw [ifN q1 g3, ifN q2 (by omega)] at e5
        exact S_e h e5 e6 (okX2 (by decide) 0)
  · rw [ifN c1 g] at e5
    rw [ifN c2 g] at e6
    exact S_e h e5 e6 (okX1 3 0 0)
theorem st_forget {N : Nat} (hN : 700 ≤ N) : S_forget Rel N := by
  intro u0 u1 u2 u3 mo h
  obtain ⟨v0, v2, m, r1, r2, r3, r4, r5, r6, r7, r8, r9⟩ := remember_v hN (Rel_7 h 0)
  have r31 : RR (v2 0) (m.2.2.2 0) := r3.1
  obtain ⟨st, pos, mark, bef, ign, len, F, told, votd, X, xm, xt, hS, hK, hC, ⟨⟨f1, f2, f3⟩, f4, f5⟩, hT, hX, hI⟩ := r31
  have hI1 : 1 ≤ X → xt 0 ≤ mark := by
    intro hx
    obtain ⟨_, _, _, _, p1, _⟩ := id hK
    by_cases pe : pos = -1
    · exact (hI.1 hx).1 pe
    · have := (hI.1 hx).2 pe
      omega
  obtain ⟨v, b, l1, l2, l3, l4, l5⟩ := lose_v N hS hK hX hI1 hI.2 (mo := m) rfl
  refine ⟨(zI F, v0, u1, va_up v2 0 v, u3), zI F, oj m 0 b, ?_, ?_, rfl, Rel_pr r3 (by rw [oj_s]; exact l3) (Sd_oj m b)⟩
  · rw [f_X5_forget, r1, Option.bind_some]
    show ((f_X4_loseStep N (v2 0)).bind _) = _
    rw [l1, Option.bind_some]
    show some ((v2 0).1 11, v0, u1, va_up v2 0 v, u3) = _
    rw [f1]
  · rw [f_X6_forget, r2, Option.bind_some, l2, Option.bind_some, show (12 : Int32).toNatClampNeg = 12 from rfl, f5, zL_toI]
