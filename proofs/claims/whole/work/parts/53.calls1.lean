/-! part, number, code, pulse, hear, bit -/
theorem isMinute_z (N : Nat) {x : Int} (h1 : -2147483648 ≤ x) (h2 : x < 2147483648) : f_X6_isMinute N (zL x) = some (decide (0 ≤ x ∧ x ≤ 52595999)) := by
  rw [← zI_toL h1 h2]
  exact X6_isMinute_v N h1 h2
theorem st_part {N : Nat} (hN : 700 ≤ N) : S_part Rel N := by
  intro u0 u1 u2 u3 mo h x w
  obtain ⟨x, x1, x2, rfl⟩ := zI_get x
  obtain ⟨w, w1, w2, rfl⟩ := zI_get w
  have m5 := X1_hasMinute_v N x1 x2
  have m6 := isMinute_z N x1 x2
  by_cases hx : 0 ≤ x ∧ x ≤ 52595999
  · rw [decide_eq_true hx] at m5 m6
    by_cases hw : 0 ≤ w ∧ w ≤ 5
    · have i1 := isIn_T N (a := w) (b := 0) (c := 5) (by omega) (by omega) (by omega) hw
      have po := X6_partOf_v hN (x := x) (w := w) (by omega) (by omega) hw.1 hw.2
      have d1 : 0 ≤ x / 1440 := by omega
      have d2 : x / 1440 < 36525 := by omega
      have hy := X1_yearOf_v N d1 d2
      have hm := X1_monthOf_v hN d1 d2
      have hd := X1_dayOfMonth_v hN d1 d2
      have hv := X1_weekdayOf_v N d1 d2
      rcases (show w = 0 ∨ w = 1 ∨ w = 2 ∨ w = 3 ∨ w = 4 ∨ w = 5 by omega) with rfl | rfl | rfl | rfl | rfl | rfl
      · have po : f_X6_partOf N (zI x) (zI 0) = some (zI (2000 + yS (x / 1440))) := po
        exact S_r h (zI (2000 + yS (x / 1440))) (by rw [f_X5_part]; simp (maxSteps := 400000) (disch := omega) only [zI_lit, zI_neg, zI_add, zI_sub, zI_mul, zI_div, zI_tn, zI_toL, zL_lit, zL_neg, zL_add, zL_sub, zL_mul, zL_div, zL_toI, zI_ltT, zI_ltF, zI_leT, zI_leF, zI_eqT, zI_eqF, zL_ltT, zL_ltF, zL_leT, zL_leF, zL_eqT, zL_eqF, nleT, nleF, or_self, or_false, false_or, true_or, or_true, not_true_eq_false, not_false_eq_true, ↓reduceIte, Option.bind_some, Bool.false_eq_true, decide_true, decide_false, m5, hy]) (by rw [f_X6_part]; simp (maxSteps := 400000) (disch := omega) only [zI_lit, zI_neg, zI_add, zI_sub, zI_mul, zI_div, zI_tn, zI_toL, zL_lit, zL_neg, zL_add, zL_sub, zL_mul, zL_div, zL_toI, zI_ltT, zI_ltF, zI_leT, zI_leF, zI_eqT, zI_eqF, zL_ltT, zL_ltF, zL_leT, zL_leF, zL_eqT, zL_eqF, nleT, nleF, or_self, or_false, false_or, true_or, or_true, not_true_eq_false, not_false_eq_true, ↓reduceIte, Option.bind_some, Bool.false_eq_true, decide_true, decide_false, m6, i1, po])
      · have po : f_X6_partOf N (zI x) (zI 1) = some (zI (mS (x / 1440))) := po
        exact S_r h (zI (mS (x / 1440))) (by rw [f_X5_part]; simp (maxSteps := 400000) (disch := omega) only [zI_lit, zI_neg, zI_add, zI_sub, zI_mul, zI_div, zI_tn, zI_toL, zL_lit, zL_neg, zL_add, zL_sub, zL_mul, zL_div, zL_toI, zI_ltT, zI_ltF, zI_leT, zI_leF, zI_eqT, zI_eqF, zL_ltT, zL_ltF, zL_leT, zL_leF, zL_eqT, zL_eqF, nleT, nleF, or_self, or_false, false_or, true_or, or_true, not_true_eq_false, not_false_eq_true, ↓reduceIte, Option.bind_some, Bool.false_eq_true, decide_true, decide_false, m5, hm]) (by rw [f_X6_part]; simp (maxSteps := 400000) (disch := omega) only [zI_lit, zI_neg, zI_add, zI_sub, zI_mul, zI_div, zI_tn, zI_toL, zL_lit, zL_neg, zL_add, zL_sub, zL_mul, zL_div, zL_toI, zI_ltT, zI_ltF, zI_leT, zI_leF, zI_eqT, zI_eqF, zL_ltT, zL_ltF, zL_leT, zL_leF, zL_eqT, zL_eqF, nleT, nleF, or_self, or_false, false_or, true_or, or_true, not_true_eq_false, not_false_eq_true, ↓reduceIte, Option.bind_some, Bool.false_eq_true, decide_true, decide_false, m6, i1, po])
      · have po : f_X6_partOf N (zI x) (zI 2) = some (zI (ddS (x / 1440))) := po
        exact S_r h (zI (ddS (x / 1440))) (by rw [f_X5_part]; simp (maxSteps := 400000) (disch := omega) only [zI_lit, zI_neg, zI_add, zI_sub, zI_mul, zI_div, zI_tn, zI_toL, zL_lit, zL_neg, zL_add, zL_sub, zL_mul, zL_div, zL_toI, zI_ltT, zI_ltF, zI_leT, zI_leF, zI_eqT, zI_eqF, zL_ltT, zL_ltF, zL_leT, zL_leF, zL_eqT, zL_eqF, nleT, nleF, or_self, or_false, false_or, true_or, or_true, not_true_eq_false, not_false_eq_true, ↓reduceIte, Option.bind_some, Bool.false_eq_true, decide_true, decide_false, m5, hd]) (by rw [f_X6_part]; simp (maxSteps := 400000) (disch := omega) only [zI_lit, zI_neg, zI_add, zI_sub, zI_mul, zI_div, zI_tn, zI_toL, zL_lit, zL_neg, zL_add, zL_sub, zL_mul, zL_div, zL_toI, zI_ltT, zI_ltF, zI_leT, zI_leF, zI_eqT, zI_eqF, zL_ltT, zL_ltF, zL_leT, zL_leF, zL_eqT, zL_eqF, nleT, nleF, or_self, or_false, false_or, true_or, or_true, not_true_eq_false, not_false_eq_true, ↓reduceIte, Option.bind_some, Bool.false_eq_true, decide_true, decide_false, m6, i1, po])
      · have po : f_X6_partOf N (zI x) (zI 3) = some (zI (x / 60 % 24)) := po
        rw [show x / 60 % 24 = x / 60 - x / 60 / 24 * 24 by omega] at po
        exact S_r h (zI (x / 60 - x / 60 / 24 * 24)) (by rw [f_X5_part]; simp (maxSteps := 400000) (disch := omega) only [zI_lit, zI_neg, zI_add, zI_sub, zI_mul, zI_div, zI_tn, zI_toL, zL_lit, zL_neg, zL_add, zL_sub, zL_mul, zL_div, zL_toI, zI_ltT, zI_ltF, zI_leT, zI_leF, zI_eqT, zI_eqF, zL_ltT, zL_ltF, zL_leT, zL_leF, zL_eqT, zL_eqF, nleT, nleF, or_self, or_false, false_or, true_or, or_true, not_true_eq_false, not_false_eq_true, ↓reduceIte, Option.bind_some, Bool.false_eq_true, decide_true, decide_false, m5]) (by rw [f_X6_part]; simp (maxSteps := 400000) (disch := omega) only [zI_lit, zI_neg, zI_add, zI_sub, zI_mul, zI_div, zI_tn, zI_toL, zL_lit, zL_neg, zL_add, zL_sub, zL_mul, zL_div, zL_toI, zI_ltT, zI_ltF, zI_leT, zI_leF, zI_eqT, zI_eqF, zL_ltT, zL_ltF, zL_leT, zL_leF, zL_eqT, zL_eqF, nleT, nleF, or_self, or_false, false_or, true_or, or_true, not_true_eq_false, not_false_eq_true, ↓reduceIte, Option.bind_some, Bool.false_eq_true, decide_true, decide_false, m6, i1, po])
      · have po : f_X6_partOf N (zI x) (zI 4) = some (zI (x % 60)) := po
        rw [show x % 60 = x - x / 60 * 60 by omega] at po
        exact S_r h (zI (x - x / 60 * 60)) (by rw [f_X5_part]; simp (maxSteps := 400000) (disch := omega) only [zI_lit, zI_neg, zI_add, zI_sub, zI_mul, zI_div, zI_tn, zI_toL, zL_lit, zL_neg, zL_add, zL_sub, zL_mul, zL_div, zL_toI, zI_ltT, zI_ltF, zI_leT, zI_leF, zI_eqT, zI_eqF, zL_ltT, zL_ltF, zL_leT, zL_leF, zL_eqT, zL_eqF, nleT, nleF, or_self, or_false, false_or, true_or, or_true, not_true_eq_false, not_false_eq_true, ↓reduceIte, Option.bind_some, Bool.false_eq_true, decide_true, decide_false, m5]) (by rw [f_X6_part]; simp (maxSteps := 400000) (disch := omega) only [zI_lit, zI_neg, zI_add, zI_sub, zI_mul, zI_div, zI_tn, zI_toL, zL_lit, zL_neg, zL_add, zL_sub, zL_mul, zL_div, zL_toI, zI_ltT, zI_ltF, zI_leT, zI_leF, zI_eqT, zI_eqF, zL_ltT, zL_ltF, zL_leT, zL_leF, zL_eqT, zL_eqF, nleT, nleF, or_self, or_false, false_or, true_or, or_true, not_true_eq_false, not_false_eq_true, ↓reduceIte, Option.bind_some, Bool.false_eq_true, decide_true, decide_false, m6, i1, po])
      · have po : f_X6_partOf N (zI x) (zI 5) = some (zI ((x / 1440 + 5) % 7 + 1)) := po
        exact S_r h (zI ((x / 1440 + 5) % 7 + 1)) (by rw [f_X5_part]; simp (maxSteps := 400000) (disch := omega) only [zI_lit, zI_neg, zI_add, zI_sub, zI_mul, zI_div, zI_tn, zI_toL, zL_lit, zL_neg, zL_add, zL_sub, zL_mul, zL_div, zL_toI, zI_ltT, zI_ltF, zI_leT, zI_leF, zI_eqT, zI_eqF, zL_ltT, zL_ltF, zL_leT, zL_leF, zL_eqT, zL_eqF, nleT, nleF, or_self, or_false, false_or, true_or, or_true, not_true_eq_false, not_false_eq_true, ↓reduceIte, Option.bind_some, Bool.false_eq_true, decide_true, decide_false, m5, hv]) (by rw [f_X6_part]; simp (maxSteps := 400000) (disch := omega) only [zI_lit, zI_neg, zI_add, zI_sub, zI_mul, zI_div, zI_tn, zI_toL, zL_lit, zL_neg, zL_add, zL_sub, zL_mul, zL_div, zL_toI, zI_ltT, zI_ltF, zI_leT, zI_leF, zI_eqT, zI_eqF, zL_ltT, zL_ltF, zL_leT, zL_leF, zL_eqT, zL_eqF, nleT, nleF, or_self, or_false, false_or, true_or, or_true, not_true_eq_false, not_false_eq_true, ↓reduceIte, Option.bind_some, Bool.false_eq_true, decide_true, decide_false, m6, i1, po])
    · have i1 := isIn_F N (a := w) (b := 0) (c := 5) (by omega) (by omega) (by omega) hw
      exact S_e h (by rw [f_X5_part]; simp (maxSteps := 400000) (disch := omega) only [zI_lit, zI_neg, zI_add, zI_sub, zI_mul, zI_div, zI_tn, zI_toL, zL_lit, zL_neg, zL_add, zL_sub, zL_mul, zL_div, zL_toI, zI_ltT, zI_ltF, zI_leT, zI_leF, zI_eqT, zI_eqF, zL_ltT, zL_ltF, zL_leT, zL_leF, zL_eqT, zL_eqF, nleT, nleF, or_self, or_false, false_or, true_or, or_true, not_true_eq_false, not_false_eq_true, ↓reduceIte, Option.bind_some, Bool.false_eq_true, decide_true, decide_false, m5]) (by rw [f_X6_part]; simp (maxSteps := 400000) (disch := omega) only [zI_lit, zI_neg, zI_add, zI_sub, zI_mul, zI_div, zI_tn, zI_toL, zL_lit, zL_neg, zL_add, zL_sub, zL_mul, zL_div, zL_toI, zI_ltT, zI_ltF, zI_leT, zI_leF, zI_eqT, zI_eqF, zL_ltT, zL_ltF, zL_leT, zL_leF, zL_eqT, zL_eqF, nleT, nleF, or_self, or_false, false_or, true_or, or_true, not_true_eq_false, not_false_eq_true, ↓reduceIte, Option.bind_some, Bool.false_eq_true, decide_true, decide_false, m6, i1]) (okX1 1 1 0)
  · rw [decide_eq_false hx] at m5 m6
    exact S_e h (by rw [f_X5_part]; simp (maxSteps := 400000) (disch := omega) only [zI_lit, zI_neg, zI_add, zI_sub, zI_mul, zI_div, zI_tn, zI_toL, zL_lit, zL_neg, zL_add, zL_sub, zL_mul, zL_div, zL_toI, zI_ltT, zI_ltF, zI_leT, zI_leF, zI_eqT, zI_eqF, zL_ltT, zL_ltF, zL_leT, zL_leF, zL_eqT, zL_eqF, nleT, nleF, or_self, or_false, false_or, true_or, or_true, not_true_eq_false, not_false_eq_true, ↓reduceIte, Option.bind_some, Bool.false_eq_true, decide_true, decide_false, m5]) (by rw [f_X6_part]; simp (maxSteps := 400000) (disch := omega) only [zI_lit, zI_neg, zI_add, zI_sub, zI_mul, zI_div, zI_tn, zI_toL, zL_lit, zL_neg, zL_add, zL_sub, zL_mul, zL_div, zL_toI, zI_ltT, zI_ltF, zI_leT, zI_leF, zI_eqT, zI_eqF, zL_ltT, zL_ltF, zL_leT, zL_leF, zL_eqT, zL_eqF, nleT, nleF, or_self, or_false, false_or, true_or, or_true, not_true_eq_false, not_false_eq_true, ↓reduceIte, Option.bind_some, Bool.false_eq_true, decide_true, decide_false, m6]) (okX1 1 1 0)
theorem st_number {N : Nat} (hN : 700 ≤ N) : S_number Rel N := by
  intro u0 u1 u2 u3 mo h y m d hh mi
  obtain ⟨y, y1, y2, rfl⟩ := zI_get y
  obtain ⟨m, m1, m2, rfl⟩ := zI_get m
  obtain ⟨d, d1, d2, rfl⟩ := zI_get d
  obtain ⟨hh, h1, h2, rfl⟩ := zI_get hh
  obtain ⟨mi, i1, i2, rfl⟩ := zI_get mi
  have isd := X6_isDay_v N (y := y) (m := m) (d := d) ⟨y1, y2⟩ ⟨m1, m2⟩ ⟨d1, d2⟩
  by_cases hy : 2000 ≤ y ∧ y ≤ 2099
  · have dn : (okD (y - 2000) m d → f_X1_dayNumber N (zI (y - 2000)) (zI m) (zI d) = some (zI (dYr (y - 2000) + cum (y - 2000) m + d - 1))) ∧ (¬ okD (y - 2000) m d → f_X1_dayNumber N (zI (y - 2000)) (zI m) (zI d) = some (zI (-1))) := by
      by_cases gm : m < 2147483647
      · exact X1_dayNumber_v N (y := y - 2000) (m := m) (d := d) (by omega) (by omega) (by omega)
      · refine ⟨fun z => by unfold okD at z; omega, fun _ => ?_⟩
        rw [f_X1_dayNumber]
        simp (maxSteps := 400000) (disch := omega) only [zI_lit, zI_neg, zI_add, zI_sub, zI_mul, zI_div, zI_tn, zI_toL, zL_lit, zL_neg, zL_add, zL_sub, zL_mul, zL_div, zL_toI, zI_ltT, zI_ltF, zI_leT, zI_leF, zI_eqT, zI_eqF, zL_ltT, zL_ltF, zL_leT, zL_leF, zL_eqT, zL_eqF, nleT, nleF, or_self, or_false, false_or, true_or, or_true, not_true_eq_false, not_false_eq_true, ↓reduceIte, Option.bind_some, Bool.false_eq_true, decide_true, decide_false]
    by_cases ok : okD (y - 2000) m d
    · have hd := dn.1 ok
      obtain ⟨o1, o2, o3, o4, o5, o6⟩ := id ok
      rw [decide_eq_true (by omega)] at isd
      have nf := X6_numberFor_v hN ok hh mi
      rw [show 2000 + (y - 2000) = y by omega] at nf
      have c4 := cum_rng (y - 2000) m
      have di := dInM_rng (y - 2000) m
      have dy : dYr (y - 2000) = 365 * (y - 2000) + (y - 2000 + 3) / 4 := rfl
      by_cases g1 : 0 ≤ hh ∧ hh ≤ 23
      · have j1 := isIn_T N (a := hh) (b := 0) (c := 23) (by omega) (by omega) (by omega) g1
        by_cases g2 : 0 ≤ mi ∧ mi ≤ 59
        · have j2 := isIn_T N (a := mi) (b := 0) (c := 59) (by omega) (by omega) (by omega) g2
          have mn : f_X1_minuteNumber N (zI (dYr (y - 2000) + cum (y - 2000) m + d - 1)) (zI hh) (zI mi) = some (zI (1440 * (dYr (y - 2000) + cum (y - 2000) m + d - 1) + 60 * hh + mi)) := by
            rw [f_X1_minuteNumber]
            simp (maxSteps := 400000) (disch := omega) only [zI_lit, zI_neg, zI_add, zI_sub, zI_mul, zI_div, zI_tn, zI_toL, zL_lit, zL_neg, zL_add, zL_sub, zL_mul, zL_div, zL_toI, zI_lt, zI_le, zI_eq, zL_lt, zL_le, zL_eq]
          exact S_r h (zI (1440 * (dYr (y - 2000) + cum (y - 2000) m + d - 1) + 60 * hh + mi)) (by rw [f_X5_number]; simp (maxSteps := 400000) (disch := omega) only [zI_lit, zI_neg, zI_add, zI_sub, zI_mul, zI_div, zI_tn, zI_toL, zL_lit, zL_neg, zL_add, zL_sub, zL_mul, zL_div, zL_toI, zI_ltT, zI_ltF, zI_leT, zI_leF, zI_eqT, zI_eqF, zL_ltT, zL_ltF, zL_leT, zL_leF, zL_eqT, zL_eqF, nleT, nleF, or_self, or_false, false_or, true_or, or_true, not_true_eq_false, not_false_eq_true, ↓reduceIte, Option.bind_some, Bool.false_eq_true, decide_true, decide_false, hd, mn]) (by rw [f_X6_number]; simp (maxSteps := 400000) (disch := omega) only [zI_lit, zI_neg, zI_add, zI_sub, zI_mul, zI_div, zI_tn, zI_toL, zL_lit, zL_neg, zL_add, zL_sub, zL_mul, zL_div, zL_toI, zI_ltT, zI_ltF, zI_leT, zI_leF, zI_eqT, zI_eqF, zL_ltT, zL_ltF, zL_leT, zL_leF, zL_eqT, zL_eqF, nleT, nleF, or_self, or_false, false_or, true_or, or_true, not_true_eq_false, not_false_eq_true, ↓reduceIte, Option.bind_some, Bool.false_eq_true, decide_true, decide_false, isd, j1, j2, nf])
        · have j2 := isIn_F N (a := mi) (b := 0) (c := 59) (by omega) (by omega) (by omega) g2
          by_cases g3 : mi < 0
          · exact S_e h (by rw [f_X5_number]; simp (maxSteps := 400000) (disch := omega) only [zI_lit, zI_neg, zI_add, zI_sub, zI_mul, zI_div, zI_tn, zI_toL, zL_lit, zL_neg, zL_add, zL_sub, zL_mul, zL_div, zL_toI, zI_ltT, zI_ltF, zI_leT, zI_leF, zI_eqT, zI_eqF, zL_ltT, zL_ltF, zL_leT, zL_leF, zL_eqT, zL_eqF, nleT, nleF, or_self, or_false, false_or, true_or, or_true, not_true_eq_false, not_false_eq_true, ↓reduceIte, Option.bind_some, Bool.false_eq_true, decide_true, decide_false, hd]) (by rw [f_X6_number]; simp (maxSteps := 400000) (disch := omega) only [zI_lit, zI_neg, zI_add, zI_sub, zI_mul, zI_div, zI_tn, zI_toL, zL_lit, zL_neg, zL_add, zL_sub, zL_mul, zL_div, zL_toI, zI_ltT, zI_ltF, zI_leT, zI_leF, zI_eqT, zI_eqF, zL_ltT, zL_ltF, zL_leT, zL_leF, zL_eqT, zL_eqF, nleT, nleF, or_self, or_false, false_or, true_or, or_true, not_true_eq_false, not_false_eq_true, ↓reduceIte, Option.bind_some, Bool.false_eq_true, decide_true, decide_false, isd, j1, j2]) (okX1 1 1 0)
          · exact S_e h (by rw [f_X5_number]; simp (maxSteps := 400000) (disch := omega) only [zI_lit, zI_neg, zI_add, zI_sub, zI_mul, zI_div, zI_tn, zI_toL, zL_lit, zL_neg, zL_add, zL_sub, zL_mul, zL_div, zL_toI, zI_ltT, zI_ltF, zI_leT, zI_leF, zI_eqT, zI_eqF, zL_ltT, zL_ltF, zL_leT, zL_leF, zL_eqT, zL_eqF, nleT, nleF, or_self, or_false, false_or, true_or, or_true, not_true_eq_false, not_false_eq_true, ↓reduceIte, Option.bind_some, Bool.false_eq_true, decide_true, decide_false, hd]) (by rw [f_X6_number]; simp (maxSteps := 400000) (disch := omega) only [zI_lit, zI_neg, zI_add, zI_sub, zI_mul, zI_div, zI_tn, zI_toL, zL_lit, zL_neg, zL_add, zL_sub, zL_mul, zL_div, zL_toI, zI_ltT, zI_ltF, zI_leT, zI_leF, zI_eqT, zI_eqF, zL_ltT, zL_ltF, zL_leT, zL_leF, zL_eqT, zL_eqF, nleT, nleF, or_self, or_false, false_or, true_or, or_true, not_true_eq_false, not_false_eq_true, ↓reduceIte, Option.bind_some, Bool.false_eq_true, decide_true, decide_false, isd, j1, j2]) (okX1 1 1 0)
      · have j1 := isIn_F N (a := hh) (b := 0) (c := 23) (by omega) (by omega) (by omega) g1
        by_cases g3 : hh < 0
        · exact S_e h (by rw [f_X5_number]; simp (maxSteps := 400000) (disch := omega) only [zI_lit, zI_neg, zI_add, zI_sub, zI_mul, zI_div, zI_tn, zI_toL, zL_lit, zL_neg, zL_add, zL_sub, zL_mul, zL_div, zL_toI, zI_ltT, zI_ltF, zI_leT, zI_leF, zI_eqT, zI_eqF, zL_ltT, zL_ltF, zL_leT, zL_leF, zL_eqT, zL_eqF, nleT, nleF, or_self, or_false, false_or, true_or, or_true, not_true_eq_false, not_false_eq_true, ↓reduceIte, Option.bind_some, Bool.false_eq_true, decide_true, decide_false, hd]) (by rw [f_X6_number]; simp (maxSteps := 400000) (disch := omega) only [zI_lit, zI_neg, zI_add, zI_sub, zI_mul, zI_div, zI_tn, zI_toL, zL_lit, zL_neg, zL_add, zL_sub, zL_mul, zL_div, zL_toI, zI_ltT, zI_ltF, zI_leT, zI_leF, zI_eqT, zI_eqF, zL_ltT, zL_ltF, zL_leT, zL_leF, zL_eqT, zL_eqF, nleT, nleF, or_self, or_false, false_or, true_or, or_true, not_true_eq_false, not_false_eq_true, ↓reduceIte, Option.bind_some, Bool.false_eq_true, decide_true, decide_false, isd, j1]) (okX1 1 1 0)
        · exact S_e h (by rw [f_X5_number]; simp (maxSteps := 400000) (disch := omega) only [zI_lit, zI_neg, zI_add, zI_sub, zI_mul, zI_div, zI_tn, zI_toL, zL_lit, zL_neg, zL_add, zL_sub, zL_mul, zL_div, zL_toI, zI_ltT, zI_ltF, zI_leT, zI_leF, zI_eqT, zI_eqF, zL_ltT, zL_ltF, zL_leT, zL_leF, zL_eqT, zL_eqF, nleT, nleF, or_self, or_false, false_or, true_or, or_true, not_true_eq_false, not_false_eq_true, ↓reduceIte, Option.bind_some, Bool.false_eq_true, decide_true, decide_false, hd]) (by rw [f_X6_number]; simp (maxSteps := 400000) (disch := omega) only [zI_lit, zI_neg, zI_add, zI_sub, zI_mul, zI_div, zI_tn, zI_toL, zL_lit, zL_neg, zL_add, zL_sub, zL_mul, zL_div, zL_toI, zI_ltT, zI_ltF, zI_leT, zI_leF, zI_eqT, zI_eqF, zL_ltT, zL_ltF, zL_leT, zL_leF, zL_eqT, zL_eqF, nleT, nleF, or_self, or_false, false_or, true_or, or_true, not_true_eq_false, not_false_eq_true, ↓reduceIte, Option.bind_some, Bool.false_eq_true, decide_true, decide_false, isd, j1]) (okX1 1 1 0)
    · have hd := dn.2 ok
      rw [decide_eq_false (fun z => ok ⟨by omega, by omega, z.2.2.1, z.2.2.2.1, z.2.2.2.2.1, z.2.2.2.2.2⟩)] at isd
      exact S_e h (by rw [f_X5_number]; simp (maxSteps := 400000) (disch := omega) only [zI_lit, zI_neg, zI_add, zI_sub, zI_mul, zI_div, zI_tn, zI_toL, zL_lit, zL_neg, zL_add, zL_sub, zL_mul, zL_div, zL_toI, zI_ltT, zI_ltF, zI_leT, zI_leF, zI_eqT, zI_eqF, zL_ltT, zL_ltF, zL_leT, zL_leF, zL_eqT, zL_eqF, nleT, nleF, or_self, or_false, false_or, true_or, or_true, not_true_eq_false, not_false_eq_true, ↓reduceIte, Option.bind_some, Bool.false_eq_true, decide_true, decide_false, hd]) (by rw [f_X6_number]; simp (maxSteps := 400000) (disch := omega) only [zI_lit, zI_neg, zI_add, zI_sub, zI_mul, zI_div, zI_tn, zI_toL, zL_lit, zL_neg, zL_add, zL_sub, zL_mul, zL_div, zL_toI, zI_ltT, zI_ltF, zI_leT, zI_leF, zI_eqT, zI_eqF, zL_ltT, zL_ltF, zL_leT, zL_leF, zL_eqT, zL_eqF, nleT, nleF, or_self, or_false, false_or, true_or, or_true, not_true_eq_false, not_false_eq_true, ↓reduceIte, Option.bind_some, Bool.false_eq_true, decide_true, decide_false, isd]) (okX1 1 1 0)
  · rw [decide_eq_false (fun z => hy ⟨z.1, z.2.1⟩)] at isd
    by_cases g : y < 2000
    · exact S_e h (by rw [f_X5_number]; simp (maxSteps := 400000) (disch := omega) only [zI_lit, zI_neg, zI_add, zI_sub, zI_mul, zI_div, zI_tn, zI_toL, zL_lit, zL_neg, zL_add, zL_sub, zL_mul, zL_div, zL_toI, zI_ltT, zI_ltF, zI_leT, zI_leF, zI_eqT, zI_eqF, zL_ltT, zL_ltF, zL_leT, zL_leF, zL_eqT, zL_eqF, nleT, nleF, or_self, or_false, false_or, true_or, or_true, not_true_eq_false, not_false_eq_true, ↓reduceIte, Option.bind_some, Bool.false_eq_true, decide_true, decide_false]) (by rw [f_X6_number]; simp (maxSteps := 400000) (disch := omega) only [zI_lit, zI_neg, zI_add, zI_sub, zI_mul, zI_div, zI_tn, zI_toL, zL_lit, zL_neg, zL_add, zL_sub, zL_mul, zL_div, zL_toI, zI_ltT, zI_ltF, zI_leT, zI_leF, zI_eqT, zI_eqF, zL_ltT, zL_ltF, zL_leT, zL_leF, zL_eqT, zL_eqF, nleT, nleF, or_self, or_false, false_or, true_or, or_true, not_true_eq_false, not_false_eq_true, ↓reduceIte, Option.bind_some, Bool.false_eq_true, decide_true, decide_false, isd]) (okX1 1 1 0)
    · exact S_e h (by rw [f_X5_number]; simp (maxSteps := 400000) (disch := omega) only [zI_lit, zI_neg, zI_add, zI_sub, zI_mul, zI_div, zI_tn, zI_toL, zL_lit, zL_neg, zL_add, zL_sub, zL_mul, zL_div, zL_toI, zI_ltT, zI_ltF, zI_leT, zI_leF, zI_eqT, zI_eqF, zL_ltT, zL_ltF, zL_leT, zL_leF, zL_eqT, zL_eqF, nleT, nleF, or_self, or_false, false_or, true_or, or_true, not_true_eq_false, not_false_eq_true, ↓reduceIte, Option.bind_some, Bool.false_eq_true, decide_true, decide_false]) (by rw [f_X6_number]; simp (maxSteps := 400000) (disch := omega) only [zI_lit, zI_neg, zI_add, zI_sub, zI_mul, zI_div, zI_tn, zI_toL, zL_lit, zL_neg, zL_add, zL_sub, zL_mul, zL_div, zL_toI, zI_ltT, zI_ltF, zI_leT, zI_leF, zI_eqT, zI_eqF, zL_ltT, zL_ltF, zL_leT, zL_leF, zL_eqT, zL_eqF, nleT, nleF, or_self, or_false, false_or, true_or, or_true, not_true_eq_false, not_false_eq_true, ↓reduceIte, Option.bind_some, Bool.false_eq_true, decide_true, decide_false, isd]) (okX1 1 1 0)
theorem st_code {N : Nat} (hN : 700 ≤ N) : S_code Rel N := by
  intro u0 u1 u2 u3 mo h x leap
  obtain ⟨x, x1, x2, rfl⟩ := zI_get x
  have m5 := X1_hasMinute_v N x1 x2
  have m6 := isMinute_z N x1 x2
  by_cases hx : 0 ≤ x ∧ x ≤ 52595999
  · rw [decide_eq_true hx] at m5 m6
    have e5 := X2_encode_v hN hx.1 (by omega) leap
    have e6 := X6_codeOf_v hN hx.1 (by omega) leap
    exact S_r h (codeS x leap) (by rw [f_X5_code]; simp (maxSteps := 400000) (disch := omega) only [zI_lit, zI_neg, zI_add, zI_sub, zI_mul, zI_div, zI_tn, zI_toL, zL_lit, zL_neg, zL_add, zL_sub, zL_mul, zL_div, zL_toI, zI_ltT, zI_ltF, zI_leT, zI_leF, zI_eqT, zI_eqF, zL_ltT, zL_ltF, zL_leT, zL_leF, zL_eqT, zL_eqF, nleT, nleF, or_self, or_false, false_or, true_or, or_true, not_true_eq_false, not_false_eq_true, ↓reduceIte, Option.bind_some, Bool.false_eq_true, decide_true, decide_false, m5, e5]) (by rw [f_X6_code]; simp (maxSteps := 400000) (disch := omega) only [zI_lit, zI_neg, zI_add, zI_sub, zI_mul, zI_div, zI_tn, zI_toL, zL_lit, zL_neg, zL_add, zL_sub, zL_mul, zL_div, zL_toI, zI_ltT, zI_ltF, zI_leT, zI_leF, zI_eqT, zI_eqF, zL_ltT, zL_ltF, zL_leT, zL_leF, zL_eqT, zL_eqF, nleT, nleF, or_self, or_false, false_or, true_or, or_true, not_true_eq_false, not_false_eq_true, ↓reduceIte, Option.bind_some, Bool.false_eq_true, decide_true, decide_false, m6, e6])
  · rw [decide_eq_false hx] at m5 m6
    exact S_e h (by rw [f_X5_code]; simp (maxSteps := 400000) (disch := omega) only [zI_lit, zI_neg, zI_add, zI_sub, zI_mul, zI_div, zI_tn, zI_toL, zL_lit, zL_neg, zL_add, zL_sub, zL_mul, zL_div, zL_toI, zI_ltT, zI_ltF, zI_leT, zI_leF, zI_eqT, zI_eqF, zL_ltT, zL_ltF, zL_leT, zL_leF, zL_eqT, zL_eqF, nleT, nleF, or_self, or_false, false_or, true_or, or_true, not_true_eq_false, not_false_eq_true, ↓reduceIte, Option.bind_some, Bool.false_eq_true, decide_true, decide_false, m5]) (by rw [f_X6_code]; simp (maxSteps := 400000) (disch := omega) only [zI_lit, zI_neg, zI_add, zI_sub, zI_mul, zI_div, zI_tn, zI_toL, zL_lit, zL_neg, zL_add, zL_sub, zL_mul, zL_div, zL_toI, zI_ltT, zI_ltF, zI_leT, zI_leF, zI_eqT, zI_eqF, zL_ltT, zL_ltF, zL_leT, zL_leF, zL_eqT, zL_eqF, nleT, nleF, or_self, or_false, false_or, true_or, or_true, not_true_eq_false, not_false_eq_true, ↓reduceIte, Option.bind_some, Bool.false_eq_true, decide_true, decide_false, m6]) (okX1 1 1 0)
theorem st_pulse {N : Nat} (hN : 700 ≤ N) : S_pulse Rel N := by
  intro u0 u1 u2 u3 mo h t L
  obtain ⟨t, t1, t2, rfl⟩ := zI_get t
  obtain ⟨L, L1, L2, rfl⟩ := zI_get L
  obtain ⟨bef, kb1, kb2, kb3, kb4⟩ := RR_bef h.1
  have kb1 : (u2 0).1 1 = zI bef := kb1
  have e6 : f_X6_pulse N (zI t) (zI L) mo = ((f_X6_isIn N (zL t) (zL 0) (zL 2000000000)).bind fun q1 => (if q1 = true then (if zL t ≤ zL bef then some (0, (oi mo 7 1)) else ((f_X6_isIn N (zL L) (zL 0) (zL 9999)).bind fun q7 => (if q7 = true then ((f_X6_keeps N (oi mo 7 0)).bind fun q12 => ((f_X6_takesPulse N (zL t) (zI L) q12).bind fun q14 => some (q14.1, q14.2))) else some (0, (oi mo 7 1))))) else some (0, (oi mo 7 1)))) := by
    rw [f_X6_pulse, zI_toL t1 t2, zI_toL L1 L2, show (7 : Int32).toNatClampNeg = 7 from rfl, kb2]
    rfl
  have cb : (zL t ≤ zL bef) = (t ≤ bef) := zL_le (by omega) (by omega) (by omega) (by omega)
  have cb5 : (zI bef < zI t) = (bef < t) := zI_lt (by omega) (by omega) (by omega) (by omega)
  have e5 : f_X5_pulse N (zI t) (zI L) u0 u1 u2 u3 = (if zI t < 0 then some (.inl 1, u0, u1, u2, u3) else (if 2000000000 < zI t then some (.inl 1, u0, u1, u2, u3) else (if zI bef < zI t then (if zI L < 0 then some (.inl 1, u0, u1, u2, u3) else (if zI L ≤ 9999 then ((f_X5_remember N u0 u1 u2 u3).bind fun q6 => ((f_X4_takePulse N (zI t) (zI L) (q6.2.2.1 0) (q6.2.2.2 0)).bind fun q8 => some (.inr q8.1, (q6.1, (q6.2.1, ((va_up q6.2.2.1 0 q8.2.1), (va_up q6.2.2.2 0 q8.2.2))))))) else some (.inl 1, u0, u1, u2, u3))) else some (.inl 1, u0, u1, u2, u3)))) := by
    rw [f_X5_pulse, kb1]
  have c1 : (zI t < 0) = (t < 0) := by rw [zI_lit, zI_lt (by omega) (by omega) (by omega) (by omega)]
  have c2 : ((2000000000 : Int32) < zI t) = (2000000000 < t) := by rw [zI_lit, zI_lt (by omega) (by omega) (by omega) (by omega)]
  have c3 : (zI L < 0) = (L < 0) := by rw [zI_lit, zI_lt (by omega) (by omega) (by omega) (by omega)]
  have c4 : (zI L ≤ 9999) = (L ≤ 9999) := by rw [zI_lit, zI_le (by omega) (by omega) (by omega) (by omega)]
  by_cases g1 : 0 ≤ t ∧ t ≤ 2000000000
  · rw [isIn_T N (by omega) (by omega) (by omega) g1, Option.bind_some, if_pos rfl] at e6
    rw [ifN c1 (by omega), ifN c2 (by omega)] at e5
    by_cases g2 : bef < t
    · rw [ifN cb (by omega)] at e6
      rw [ifP cb5 g2] at e5
      by_cases g3 : 0 ≤ L ∧ L ≤ 9999
      · rw [isIn_T N (by omega) (by omega) (by omega) g3, Option.bind_some, if_pos rfl] at e6
        rw [ifN c3 (by omega), ifP c4 (by omega)] at e5
        obtain ⟨v0, v2, m, r1, r2, r3, r4, r5, r6, r7, r8, r9⟩ := remember_v hN (Rel_7 h 0)
        obtain ⟨r, u', b', mo', p1, p2, p3, p4, p5, p6, p7, p8⟩ := takePulse_v hN (u3 0) (u := v2 0) (mo := m) r3.1 (t := t) (L := L) (by rw [r4 0 (by omega), kb1, cb5]; exact g2) g1.1 g1.2 g3.1 g3.2
        refine ⟨(.inr (zI r), v0, u1, va_up v2 0 u', va_up u3 0 b'), zI r, mo', ?_, ?_, ⟨?_, rfl⟩, Rel_pr r3 p4 p3⟩
        · rw [e5, r1, Option.bind_some]
          show ((f_X4_takePulse N (zI t) (zI L) (v2 0) (u3 0)).bind _) = _
          rw [p1]
          rfl
        · rw [e6, r2, Option.bind_some, p2]
          rfl
        · rw [p3.1 7 (by decide), r5 7 (by decide), oi_s]
      · rw [isIn_F N (by omega) (by omega) (by omega) g3, Option.bind_some, if_neg (by decide)] at e6
        by_cases g4 : L < 0
        · rw [ifP c3 g4] at e5
          exact S_e h e5 e6 (okX1 1 1 0)
        · rw [ifN c3 g4, ifN c4 (by omega)] at e5
          exact S_e h e5 e6 (okX1 1 1 0)
    · rw [ifP cb (by omega)] at e6
      rw [ifN cb5 g2] at e5
      exact S_e h e5 e6 (okX1 1 1 0)
  · rw [isIn_F N (by omega) (by omega) (by omega) g1, Option.bind_some, if_neg (by decide)] at e6
    by_cases g4 : t < 0
    · rw [ifP c1 g4] at e5
      exact S_e h e5 e6 (okX1 1 1 0)
    · rw [ifN c1 g4, ifP c2 (by omega)] at e5
      exact S_e h e5 e6 (okX1 1 1 0)
theorem st_hear {N : Nat} (hN : 700 ≤ N) : S_hear Rel N := by
  intro u0 u1 u2 u3 mo h x leap lost
  obtain ⟨x, x1, x2, rfl⟩ := zI_get x
  have m5 := X1_hasMinute_v N x1 x2
  have m6 := isMinute_z N x1 x2
  have e5 := f_X5_hear.eq_1 N (zI x) leap lost u0 u1 u2 u3
  have e6 := f_X6_hear.eq_1 N (zI x) leap lost mo
  rw [zI_toL x1 x2, m6] at e6
  rw [m5] at e5
  by_cases hx : 0 ≤ x ∧ x ≤ 52595999
  · rw [decide_eq_true hx, Option.bind_some, if_pos rfl] at e5 e6
    obtain ⟨S, S0, S1, h4, h6⟩ := start_v N h.1
    obtain ⟨c5, c6⟩ := canHear_v N S0 S1 h4 h6
    have c5 : f_X4_canHear N (u2 0) = some (decide (S + 58000 ≤ 2000000000)) := c5
    rw [c5] at e5
    rw [c6] at e6
    by_cases g : S + 58000 ≤ 2000000000
    · rw [decide_eq_true g] at c5
      rw [decide_eq_true g, Option.bind_some, if_pos rfl] at e5 e6
      obtain ⟨v0, v2, m, r1, r2, r3, r4, r5, r6, r7, r8, r9⟩ := remember_v hN (Rel_7 h 0)
      obtain ⟨r, u', b', mo', p1, p2, p3, p4⟩ := hear_v hN (u3 0) (u := v2 0) (mo := m) r3.1 hx.1 hx.2 leap lost (by rw [r4 0 (by omega)]; exact c5)
      refine ⟨(.inr (zI r), v0, u1, va_up v2 0 u', va_up u3 0 b'), zI r, mo', ?_, ?_, ⟨?_, rfl⟩, Rel_pr r3 p4 p3⟩
      · rw [e5, r1, Option.bind_some]
        show ((f_X4_hearMinute N (zI x) leap lost (v2 0) (u3 0)).bind _) = _
        rw [p1]
        rfl
      · rw [e6, r2, Option.bind_some, p2]
        rfl
      · rw [p3.1 7 (by decide), r5 7 (by decide), oi_s]
    · rw [decide_eq_false g, Option.bind_some, if_neg (by decide)] at e5 e6
      exact S_e h e5 e6 (okX2 (by decide) 0)
  · rw [decide_eq_false hx, Option.bind_some, if_neg (by decide)] at e5 e6
    exact S_e h e5 e6 (okX1 1 0 0)
def bitV (o d : Int64) (s : Nat) : Int := if lb d s = true then 2 else if lb o s = true then 1 else 0
theorem bitOf_v (N : Nat) (o d : Int64) {s : Nat} (hs : s < 64) : f_X2_bitOf N o d (zI s) = some (zI (bitV o d s)) ∧ f_X6_bitOf N o d (zI s) = some (zI (bitV o d s)) := by
  have hd : ((jushr d (zI s)) &&& (1 : Int64) = 0) = (lb d s = false) := jb_0 d (n := s) hs
  have h1 : (jushr o (zI s)) &&& (1 : Int64) = if lb o s then 1 else 0 := jb1 o (n := s) hs
  have p1 : f_X6_has N d (zI s) = some (lb d s) := X6_has_v N d (k := s) (by omega) (by omega)
  have p2 : f_X6_has N o (zI s) = some (lb o s) := X6_has_v N o (k := s) (by omega) (by omega)
  unfold bitV
  rw [f_X2_bitOf, f_X6_bitOf, p1, p2, h1, Option.bind_some, Option.bind_some]
  cases ed : lb d s
  · rw [ifP hd ed]
    cases lb o s <;> exact ⟨rfl, rfl⟩
  · rw [ifN hd (by rw [ed]; decide)]
    exact ⟨rfl, rfl⟩
theorem st_bit (N : Nat) : S_bit Rel N := by
  intro u0 u1 u2 u3 mo h x
  obtain ⟨x, x1, x2, rfl⟩ := zI_get x
  obtain ⟨st, pos, mark, bef, ign, len, F, told, votd, X, xm, xt, hS, hK, hC, hF, hT, hX, hI⟩ := h.1
  obtain ⟨⟨kb1, kb2⟩, ⟨km1, km2⟩, ⟨kg1, kg2⟩, ⟨kp1, kp2⟩, p1, p2, p3, p4, p5⟩ := hK
  have kp1 : (u2 0).1 4 = zI pos := kp1
  have pb : pos ≤ 59 := by
    by_cases pe : pos = -1
    · omega
    · obtain ⟨_, c3, c4, _⟩ := hC pe
      omega
  have e6 : f_X6_bit N (zI x) mo = ((f_X6_isIn N (zL x) (zL 0) (zL pos)).bind fun q1 => (if q1 = true then (if 59 ≤ zI x then some (0, (oi mo 7 1)) else ((f_X6_bitOf N ((mo.2.2.2 0) 14) ((mo.2.2.2 0) 15) (zI x)).bind fun q8 => some (q8, (oi mo 7 0)))) else some (0, (oi mo 7 1)))) := by
    rw [f_X6_bit, zI_toL x1 x2, show (5 : Int32).toNatClampNeg = 5 from rfl, kp2]
    rfl
  have e5 := f_X5_bit.eq_1 N (zI x) u0 u1 u2 u3
  rw [kp1] at e5
  have c1 : (zI x < 0) = (x < 0) := by rw [zI_lit, zI_lt (by omega) (by omega) (by omega) (by omega)]
  have c2 : ((58 : Int32) < zI x) = (58 < x) := by rw [zI_lit, zI_lt (by omega) (by omega) (by omega) (by omega)]
  have c3 : (zI x ≤ zI pos) = (x ≤ pos) := zI_le (by omega) (by omega) (by omega) (by omega)
  have c4 : ((59 : Int32) ≤ zI x) = (59 ≤ x) := by rw [zI_lit, zI_le (by omega) (by omega) (by omega) (by omega)]
  by_cases g1 : 0 ≤ x ∧ x ≤ pos
  · rw [isIn_T N (by omega) (by omega) (by omega) g1, Option.bind_some, if_pos rfl] at e6
    rw [ifN c1 (by omega)] at e5
    by_cases g2 : 59 ≤ x
    · rw [ifP c4 g2] at e6
      rw [ifP c2 (by omega)] at e5
      exact S_e h e5 e6 (okX1 2 2 0)
    · rw [ifN c4 g2] at e6
      rw [ifN c2 (by omega), ifP c3 g1.2] at e5
      obtain ⟨s, rfl⟩ : ∃ s : Nat, x = s := ⟨x.toNat, by omega⟩
      obtain ⟨_, _, _, c5⟩ := hC (by omega)
      have q6 : (u2 0).2.1 6 = mo.2.2.2 0 14 := lb_ext fun i hi => (c5 i hi).1
      have q7 : (u2 0).2.1 7 = mo.2.2.2 0 15 := lb_ext fun i hi => (c5 i hi).2.1
      obtain ⟨b1, b2⟩ := bitOf_v N (mo.2.2.2 0 14) (mo.2.2.2 0 15) (s := s) (by omega)
      rw [q6, q7, b1] at e5
      rw [b2] at e6
      exact S_r h _ e5 e6
  · rw [isIn_F N (by omega) (by omega) (by omega) g1, Option.bind_some, if_neg (by decide)] at e6
    by_cases g3 : x < 0
    · rw [ifP c1 g3] at e5
      exact S_e h e5 e6 (okX1 2 2 0)
    · rw [ifN c1 g3] at e5
      by_cases g2 : 58 < x
      · rw [ifP c2 g2] at e5
        exact S_e h e5 e6 (okX1 2 2 0)
      · rw [ifN c2 g2, ifN c3 (by omega)] at e5
        exact S_e h e5 e6 (okX1 2 2 0)
