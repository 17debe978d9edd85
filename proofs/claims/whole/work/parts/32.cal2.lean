/-! the calendar's loops -/
theorem X1_monthOf_l (N : Nat) {d : Int} (h1 : 0 ≤ d) (h2 : d < 36525) : ∀ (j : Nat) (m : Int) (n : Nat), 1 ≤ m → m + j = mS d → j < n → l_X1_monthOf_7 N (zI d) n (zI (yS d)) (zI m) = some (zI (mS d)) := by
  obtain ⟨m1, m2, m3, m4⟩ := mS_spec h1 h2
  obtain ⟨y1, y2, y3, y4⟩ := yS_spec h1 h2
  have er : rS d = d - dYr (yS d) := rfl
  have ey : dYr (yS d) = 365 * yS d + (yS d + 3) / 4 := rfl
  intro j
  induction j with
  | zero =>
    intro m n hm hj hn
    obtain ⟨n, rfl⟩ : ∃ k, n = k + 1 := ⟨n - 1, by omega⟩
    have e : m = mS d := by omega
    rw [l_X1_monthOf_7]
    by_cases hc : 12 ≤ m
    · simp (maxSteps := 400000) (disch := omega) only [zI_lit, zI_neg, zI_add, zI_sub, zI_mul, zI_div, zI_tn, zI_toL, zL_lit, zL_neg, zL_add, zL_sub, zL_mul, zL_div, zL_toI, zI_ltT, zI_ltF, zI_leT, zI_leF, zI_eqT, zI_eqF, zL_ltT, zL_ltF, zL_leT, zL_leF, zL_eqT, zL_eqF, nleT, nleF, or_self, or_false, false_or, true_or, or_true, not_true_eq_false, not_false_eq_true, ↓reduceIte, Option.bind_some, Bool.false_eq_true, decide_true, decide_false]
      rw [e]
    · have r := cum_rng (yS d) (m + 1)
      have h := (X1_dayNumber_v N (y := yS d) (m := m + 1) (d := 1) (by omega) (by omega) (by omega)).1 ⟨y1, y2, by omega, by omega, by omega, by have := dInM_rng (yS d) (m + 1); omega⟩
      rw [← e] at m4
      simp (maxSteps := 400000) (disch := omega) only [zI_lit, zI_neg, zI_add, zI_sub, zI_mul, zI_div, zI_tn, zI_toL, zL_lit, zL_neg, zL_add, zL_sub, zL_mul, zL_div, zL_toI, zI_ltT, zI_ltF, zI_leT, zI_leF, zI_eqT, zI_eqF, zL_ltT, zL_ltF, zL_leT, zL_leF, zL_eqT, zL_eqF, nleT, nleF, or_self, or_false, false_or, true_or, or_true, not_true_eq_false, not_false_eq_true, ↓reduceIte, Option.bind_some, Bool.false_eq_true, decide_true, decide_false, h]
      rw [e]
  | succ j ih =>
    intro m n hm hj hn
    obtain ⟨n, rfl⟩ : ∃ k, n = k + 1 := ⟨n - 1, by omega⟩
    have r := cum_rng (yS d) (m + 1)
    have h := (X1_dayNumber_v N (y := yS d) (m := m + 1) (d := 1) (by omega) (by omega) (by omega)).1 ⟨y1, y2, by omega, by omega, by omega, by have := dInM_rng (yS d) (m + 1); omega⟩
    have hc := cum_le (y := yS d) (a := m + 1) (b := mS d) (by omega) (by omega) (by omega)
    rw [l_X1_monthOf_7]
    simp (maxSteps := 400000) (disch := omega) only [zI_lit, zI_neg, zI_add, zI_sub, zI_mul, zI_div, zI_tn, zI_toL, zL_lit, zL_neg, zL_add, zL_sub, zL_mul, zL_div, zL_toI, zI_ltT, zI_ltF, zI_leT, zI_leF, zI_eqT, zI_eqF, zL_ltT, zL_ltF, zL_leT, zL_leF, zL_eqT, zL_eqF, nleT, nleF, or_self, or_false, false_or, true_or, or_true, not_true_eq_false, not_false_eq_true, ↓reduceIte, Option.bind_some, Bool.false_eq_true, decide_true, decide_false, h]
    exact ih (m + 1) n (by omega) (by omega) (by omega)
theorem X1_monthOf_v {N : Nat} (hN : 700 ≤ N) {d : Int} (h1 : 0 ≤ d) (h2 : d < 36525) : f_X1_monthOf N (zI d) = some (zI (mS d)) := by
  obtain ⟨m1, m2, m3, m4⟩ := mS_spec h1 h2
  rw [f_X1_monthOf, X1_yearOf_v N h1 h2]
  exact X1_monthOf_l N h1 h2 (mS d - 1).toNat 1 N (by omega) (by omega) (by omega)
theorem X1_dayOfMonth_v {N : Nat} (hN : 700 ≤ N) {d : Int} (h1 : 0 ≤ d) (h2 : d < 36525) : f_X1_dayOfMonth N (zI d) = some (zI (ddS d)) := by
  obtain ⟨m1, m2, m3, m4⟩ := mS_spec h1 h2
  obtain ⟨y1, y2, y3, y4⟩ := yS_spec h1 h2
  have h := (X1_dayNumber_v N (y := yS d) (m := mS d) (d := 1) (by omega) (by omega) (by omega)).1 ⟨y1, y2, by omega, by omega, by omega, by have := dInM_rng (yS d) (mS d); omega⟩
  rw [f_X1_dayOfMonth, X1_yearOf_v N h1 h2]
  simp (maxSteps := 400000) (disch := omega) only [zI_lit, zI_neg, zI_add, zI_sub, zI_mul, zI_div, zI_tn, zI_toL, zL_lit, zL_neg, zL_add, zL_sub, zL_mul, zL_div, zL_toI, zI_ltT, zI_ltF, zI_leT, zI_leF, zI_eqT, zI_eqF, zL_ltT, zL_ltF, zL_leT, zL_leF, zL_eqT, zL_eqF, nleT, nleF, or_self, or_false, false_or, true_or, or_true, not_true_eq_false, not_false_eq_true, ↓reduceIte, Option.bind_some, Bool.false_eq_true, decide_true, decide_false, X1_monthOf_v hN h1 h2, h]
  congr 2
  unfold ddS rS
  omega
theorem X1_weekdayOf_v (N : Nat) {d : Int} (h1 : 0 ≤ d) (h2 : d < 36525) : f_X1_weekdayOf N (zI d) = some (zI ((d + 5) % 7 + 1)) := by
  simp (maxSteps := 400000) (disch := omega) only [zI_lit, zI_neg, zI_add, zI_sub, zI_mul, zI_div, zI_tn, zI_toL, zL_lit, zL_neg, zL_add, zL_sub, zL_mul, zL_div, zL_toI, zI_ltT, zI_ltF, zI_leT, zI_leF, zI_eqT, zI_eqF, zL_ltT, zL_ltF, zL_leT, zL_leF, zL_eqT, zL_eqF, nleT, nleF, or_self, or_false, false_or, true_or, or_true, not_true_eq_false, not_false_eq_true, ↓reduceIte, Option.bind_some, Bool.false_eq_true, decide_true, decide_false, f_X1_weekdayOf]
  congr 2
  omega
theorem X6_daysIn_v (N : Nat) {y m : Int} (h1 : 0 ≤ y) (h2 : y < 3000) (h3 : 1 ≤ m) (h4 : m ≤ 13) : f_X6_daysIn N (zI (2000 + y)) (zI m) = some (zI (dInM y m)) := by
  simp (maxSteps := 400000) (disch := omega) only [zI_lit, zI_neg, zI_add, zI_sub, zI_mul, zI_div, zI_tn, zI_toL, zL_lit, zL_neg, zL_add, zL_sub, zL_mul, zL_div, zL_toI, zI_lt, zI_le, zI_eq, zL_lt, zL_le, zL_eq, f_X6_daysIn]
  unfold dInM
  grind
theorem X6_daysOf_v (N : Nat) {y : Int} (h1 : 0 ≤ y) (h2 : y < 3000) : f_X6_daysOf N (zI (2000 + y)) = some (zI (if y % 4 = 0 then 366 else 365)) := by
  simp (maxSteps := 400000) (disch := omega) only [zI_lit, zI_neg, zI_add, zI_sub, zI_mul, zI_div, zI_tn, zI_toL, zL_lit, zL_neg, zL_add, zL_sub, zL_mul, zL_div, zL_toI, zI_lt, zI_le, zI_eq, zL_lt, zL_le, zL_eq, f_X6_daysOf]
  grind
theorem X6_partOf_l71 (N : Nat) (x0 : Int32) {w : Int} (hw : w = 0 ∨ w = 1 ∨ w = 2) {d : Int} (h1 : 0 ≤ d) (h2 : d < 36525) : ∀ (j : Nat) (m : Int) (n : Nat), 1 ≤ m → m + j = mS d → j < n → l_X6_partOf_71 N x0 (zI w) n (zI (rS d - cum (yS d) m)) (zI (2000 + yS d)) (zI m) = some (zI (if w = 0 then 2000 + yS d else if w = 1 then mS d else ddS d)) := by
  obtain ⟨m1, m2, m3, m4⟩ := mS_spec h1 h2
  obtain ⟨y1, y2, y3, y4⟩ := yS_spec h1 h2
  have er : rS d = d - dYr (yS d) := rfl
  have ey : dYr (yS d) = 365 * yS d + (yS d + 3) / 4 := rfl
  intro j
  induction j with
  | zero =>
    intro m n hm hj hn
    obtain ⟨n, rfl⟩ : ∃ k, n = k + 1 := ⟨n - 1, by omega⟩
    have e : m = mS d := by omega
    have es := cum_succ (y := yS d) (m := mS d) (by omega) (by omega)
    rw [l_X6_partOf_71, X6_daysIn_v N y1 (by omega) hm (by omega), Option.bind_some, e]
    have r := dInM_rng (yS d) (mS d)
    rcases hw with rfl | rfl | rfl
    · simp (maxSteps := 400000) (disch := omega) only [zI_lit, zI_neg, zI_add, zI_sub, zI_mul, zI_div, zI_tn, zI_toL, zL_lit, zL_neg, zL_add, zL_sub, zL_mul, zL_div, zL_toI, zI_ltT, zI_ltF, zI_leT, zI_leF, zI_eqT, zI_eqF, zL_ltT, zL_ltF, zL_leT, zL_leF, zL_eqT, zL_eqF, nleT, nleF, or_self, or_false, false_or, true_or, or_true, not_true_eq_false, not_false_eq_true, ↓reduceIte, Option.bind_some, Bool.false_eq_true, decide_true, decide_false]
    · simp (maxSteps := 400000) (disch := omega) only [zI_lit, zI_neg, zI_add, zI_sub, zI_mul, zI_div, zI_tn, zI_toL, zL_lit, zL_neg, zL_add, zL_sub, zL_mul, zL_div, zL_toI, zI_ltT, zI_ltF, zI_leT, zI_leF, zI_eqT, zI_eqF, zL_ltT, zL_ltF, zL_leT, zL_leF, zL_eqT, zL_eqF, nleT, nleF, or_self, or_false, false_or, true_or, or_true, not_true_eq_false, not_false_eq_true, ↓reduceIte, Option.bind_some, Bool.false_eq_true, decide_true, decide_false]
      rfl
    · simp (maxSteps := 400000) (disch := omega) only [zI_lit, zI_neg, zI_add, zI_sub, zI_mul, zI_div, zI_tn, zI_toL, zL_lit, zL_neg, zL_add, zL_sub, zL_mul, zL_div, zL_toI, zI_ltT, zI_ltF, zI_leT, zI_leF, zI_eqT, zI_eqF, zL_ltT, zL_ltF, zL_leT, zL_leF, zL_eqT, zL_eqF, nleT, nleF, or_self, or_false, false_or, true_or, or_true, not_true_eq_false, not_false_eq_true, ↓reduceIte, Option.bind_some, Bool.false_eq_true, decide_true, decide_false]
      rfl
  | succ j ih =>
    intro m n hm hj hn
    obtain ⟨n, rfl⟩ : ∃ k, n = k + 1 := ⟨n - 1, by omega⟩
    have es := cum_succ (y := yS d) (m := m) (by omega) (by omega)
    have hc := cum_le (y := yS d) (a := m + 1) (b := mS d) (by omega) (by omega) (by omega)
    have r := dInM_rng (yS d) m
    have rc := cum_rng (yS d) m
    rw [l_X6_partOf_71, X6_daysIn_v N y1 (by omega) hm (by omega), Option.bind_some, Option.bind_some]
    simp (maxSteps := 400000) (disch := omega) only [zI_lit, zI_neg, zI_add, zI_sub, zI_mul, zI_div, zI_tn, zI_toL, zL_lit, zL_neg, zL_add, zL_sub, zL_mul, zL_div, zL_toI, zI_ltT, zI_ltF, zI_leT, zI_leF, zI_eqT, zI_eqF, zL_ltT, zL_ltF, zL_leT, zL_leF, zL_eqT, zL_eqF, nleT, nleF, or_self, or_false, false_or, true_or, or_true, not_true_eq_false, not_false_eq_true, ↓reduceIte, Option.bind_some, Bool.false_eq_true, decide_true, decide_false]
    rw [show rS d - cum (yS d) m - dInM (yS d) m = rS d - cum (yS d) (m + 1) by omega]
    exact ih (m + 1) n (by omega) (by omega) (by omega)
theorem dYr_mono {a b : Int} (h : a ≤ b) : dYr a ≤ dYr b := by unfold dYr; omega
theorem X6_partOf_l47 {N : Nat} (hN : 700 ≤ N) (x0 : Int32) {w : Int} (hw : w = 0 ∨ w = 1 ∨ w = 2) {d : Int} (h1 : 0 ≤ d) (h2 : d < 36525) : ∀ (j : Nat) (y : Int) (n : Nat), 0 ≤ y → y + j = yS d → j < n → l_X6_partOf_47 N x0 (zI w) n (zI (d - dYr y)) (zI (2000 + y)) = some (zI (if w = 0 then 2000 + yS d else if w = 1 then mS d else ddS d)) := by
  obtain ⟨m1, m2, m3, m4⟩ := mS_spec h1 h2
  obtain ⟨y1, y2, y3, y4⟩ := yS_spec h1 h2
  have er : rS d = d - dYr (yS d) := rfl
  intro j
  induction j with
  | zero =>
    intro y n hy hj hn
    obtain ⟨n, rfl⟩ : ∃ k, n = k + 1 := ⟨n - 1, by omega⟩
    have e : y = yS d := by omega
    have es := dYr_succ (y := yS d)
    rw [l_X6_partOf_47, X6_daysOf_v N hy (by omega), Option.bind_some, e]
    have hd0 : 0 ≤ dYr (yS d) := by unfold dYr; omega
    have c1 := cum_1 (yS d)
    have h := X6_partOf_l71 N x0 hw h1 h2 (mS d - 1).toNat 1 N (by omega) (by omega) (by omega)
    rw [show rS d - cum (yS d) 1 = d - dYr (yS d) by omega] at h
    by_cases hl : yS d % 4 = 0
    · rw [if_pos hl] at es ⊢
      simp (maxSteps := 400000) (disch := omega) only [zI_lit, zI_neg, zI_add, zI_sub, zI_mul, zI_div, zI_tn, zI_toL, zL_lit, zL_neg, zL_add, zL_sub, zL_mul, zL_div, zL_toI, zI_ltT, zI_ltF, zI_leT, zI_leF, zI_eqT, zI_eqF, zL_ltT, zL_ltF, zL_leT, zL_leF, zL_eqT, zL_eqF, nleT, nleF, or_self, or_false, false_or, true_or, or_true, not_true_eq_false, not_false_eq_true, ↓reduceIte, Option.bind_some, Bool.false_eq_true, decide_true, decide_false]
      exact h
    · rw [if_neg hl] at es ⊢
      simp (maxSteps := 400000) (disch := omega) only [zI_lit, zI_neg, zI_add, zI_sub, zI_mul, zI_div, zI_tn, zI_toL, zL_lit, zL_neg, zL_add, zL_sub, zL_mul, zL_div, zL_toI, zI_ltT, zI_ltF, zI_leT, zI_leF, zI_eqT, zI_eqF, zL_ltT, zL_ltF, zL_leT, zL_leF, zL_eqT, zL_eqF, nleT, nleF, or_self, or_false, false_or, true_or, or_true, not_true_eq_false, not_false_eq_true, ↓reduceIte, Option.bind_some, Bool.false_eq_true, decide_true, decide_false]
      exact h
  | succ j ih =>
    intro y n hy hj hn
    obtain ⟨n, rfl⟩ : ∃ k, n = k + 1 := ⟨n - 1, by omega⟩
    have es := dYr_succ (y := y)
    have hm := dYr_mono (a := y + 1) (b := yS d) (by omega)
    have h0 : 0 ≤ dYr y := by unfold dYr; omega
    rw [l_X6_partOf_47, X6_daysOf_v N hy (by omega), Option.bind_some, Option.bind_some]
    by_cases hl : y % 4 = 0
    · rw [if_pos hl] at es ⊢
      simp (maxSteps := 400000) (disch := omega) only [zI_lit, zI_neg, zI_add, zI_sub, zI_mul, zI_div, zI_tn, zI_toL, zL_lit, zL_neg, zL_add, zL_sub, zL_mul, zL_div, zL_toI, zI_ltT, zI_ltF, zI_leT, zI_leF, zI_eqT, zI_eqF, zL_ltT, zL_ltF, zL_leT, zL_leF, zL_eqT, zL_eqF, nleT, nleF, or_self, or_false, false_or, true_or, or_true, not_true_eq_false, not_false_eq_true, ↓reduceIte, Option.bind_some, Bool.false_eq_true, decide_true, decide_false]
      rw [show d - dYr y - 366 = d - dYr (y + 1) by omega, show 2000 + y + 1 = 2000 + (y + 1) by omega]
      exact ih (y + 1) n (by omega) (by omega) (by omega)
    · rw [if_neg hl] at es ⊢
      simp (maxSteps := 400000) (disch := omega) only [zI_lit, zI_neg, zI_add, zI_sub, zI_mul, zI_div, zI_tn, zI_toL, zL_lit, zL_neg, zL_add, zL_sub, zL_mul, zL_div, zL_toI, zI_ltT, zI_ltF, zI_leT, zI_leF, zI_eqT, zI_eqF, zL_ltT, zL_ltF, zL_leT, zL_leF, zL_eqT, zL_eqF, nleT, nleF, or_self, or_false, false_or, true_or, or_true, not_true_eq_false, not_false_eq_true, ↓reduceIte, Option.bind_some, Bool.false_eq_true, decide_true, decide_false]
      rw [show d - dYr y - 365 = d - dYr (y + 1) by omega, show 2000 + y + 1 = 2000 + (y + 1) by omega]
      exact ih (y + 1) n (by omega) (by omega) (by omega)
noncomputable def partS (x w : Int) : Int := if w = 0 then 2000 + yS (x / 1440) else if w = 1 then mS (x / 1440) else if w = 2 then ddS (x / 1440) else if w = 3 then x / 60 % 24 else if w = 4 then x % 60 else (x / 1440 + 5) % 7 + 1
theorem X6_partOf_v {N : Nat} (hN : 700 ≤ N) {x w : Int} (h1 : 0 ≤ x) (h2 : x < 52596000) (hw : 0 ≤ w) (hw2 : w ≤ 5) : f_X6_partOf N (zI x) (zI w) = some (zI (partS x w)) := by
  have hc : w = 0 ∨ w = 1 ∨ w = 2 ∨ w = 3 ∨ w = 4 ∨ w = 5 := by omega
  have hd1 : 0 ≤ x / 1440 := by omega
  have hd2 : x / 1440 < 36525 := by omega
  have hloop : ∀ w : Int, (w = 0 ∨ w = 1 ∨ w = 2) → l_X6_partOf_47 N (zI x) (zI w) N (zI (x / 1440)) (zI 2000) = some (zI (if w = 0 then 2000 + yS (x / 1440) else if w = 1 then mS (x / 1440) else ddS (x / 1440))) := by
    intro w hw
    obtain ⟨y1, y2, y3, y4⟩ := yS_spec hd1 hd2
    have h := X6_partOf_l47 hN (zI x) hw hd1 hd2 (yS (x / 1440)).toNat 0 N (by omega) (by omega) (by omega)
    rwa [show x / 1440 - dYr 0 = x / 1440 by unfold dYr; omega, show (2000 : Int) + 0 = 2000 by omega] at h
  rw [f_X6_partOf]
  rcases hc with rfl | rfl | rfl | rfl | rfl | rfl
  · simp (maxSteps := 400000) (disch := omega) only [zI_lit, zI_neg, zI_add, zI_sub, zI_mul, zI_div, zI_tn, zI_toL, zL_lit, zL_neg, zL_add, zL_sub, zL_mul, zL_div, zL_toI, zI_ltT, zI_ltF, zI_leT, zI_leF, zI_eqT, zI_eqF, zL_ltT, zL_ltF, zL_leT, zL_leF, zL_eqT, zL_eqF, nleT, nleF, or_self, or_false, false_or, true_or, or_true, not_true_eq_false, not_false_eq_true, ↓reduceIte, Option.bind_some, Bool.false_eq_true, decide_true, decide_false]
    exact hloop 0 (by omega)
  · simp (maxSteps := 400000) (disch := omega) only [zI_lit, zI_neg, zI_add, zI_sub, zI_mul, zI_div, zI_tn, zI_toL, zL_lit, zL_neg, zL_add, zL_sub, zL_mul, zL_div, zL_toI, zI_ltT, zI_ltF, zI_leT, zI_leF, zI_eqT, zI_eqF, zL_ltT, zL_ltF, zL_leT, zL_leF, zL_eqT, zL_eqF, nleT, nleF, or_self, or_false, false_or, true_or, or_true, not_true_eq_false, not_false_eq_true, ↓reduceIte, Option.bind_some, Bool.false_eq_true, decide_true, decide_false]
    exact hloop 1 (by omega)
  · simp (maxSteps := 400000) (disch := omega) only [zI_lit, zI_neg, zI_add, zI_sub, zI_mul, zI_div, zI_tn, zI_toL, zL_lit, zL_neg, zL_add, zL_sub, zL_mul, zL_div, zL_toI, zI_ltT, zI_ltF, zI_leT, zI_leF, zI_eqT, zI_eqF, zL_ltT, zL_ltF, zL_leT, zL_leF, zL_eqT, zL_eqF, nleT, nleF, or_self, or_false, false_or, true_or, or_true, not_true_eq_false, not_false_eq_true, ↓reduceIte, Option.bind_some, Bool.false_eq_true, decide_true, decide_false]
    exact hloop 2 (by omega)
  · simp (maxSteps := 400000) (disch := omega) only [zI_lit, zI_neg, zI_add, zI_sub, zI_mul, zI_div, zI_tn, zI_toL, zL_lit, zL_neg, zL_add, zL_sub, zL_mul, zL_div, zL_toI, zI_ltT, zI_ltF, zI_leT, zI_leF, zI_eqT, zI_eqF, zL_ltT, zL_ltF, zL_leT, zL_leF, zL_eqT, zL_eqF, nleT, nleF, or_self, or_false, false_or, true_or, or_true, not_true_eq_false, not_false_eq_true, ↓reduceIte, Option.bind_some, Bool.false_eq_true, decide_true, decide_false]
    congr 2
    show x / 60 - x / 60 / 24 * 24 = x / 60 % 24
    omega
  · simp (maxSteps := 400000) (disch := omega) only [zI_lit, zI_neg, zI_add, zI_sub, zI_mul, zI_div, zI_tn, zI_toL, zL_lit, zL_neg, zL_add, zL_sub, zL_mul, zL_div, zL_toI, zI_ltT, zI_ltF, zI_leT, zI_leF, zI_eqT, zI_eqF, zL_ltT, zL_ltF, zL_leT, zL_leF, zL_eqT, zL_eqF, nleT, nleF, or_self, or_false, false_or, true_or, or_true, not_true_eq_false, not_false_eq_true, ↓reduceIte, Option.bind_some, Bool.false_eq_true, decide_true, decide_false]
    congr 2
    show x - x / 60 * 60 = x % 60
    omega
  · simp (maxSteps := 400000) (disch := omega) only [zI_lit, zI_neg, zI_add, zI_sub, zI_mul, zI_div, zI_tn, zI_toL, zL_lit, zL_neg, zL_add, zL_sub, zL_mul, zL_div, zL_toI, zI_ltT, zI_ltF, zI_leT, zI_leF, zI_eqT, zI_eqF, zL_ltT, zL_ltF, zL_leT, zL_leF, zL_eqT, zL_eqF, nleT, nleF, or_self, or_false, false_or, true_or, or_true, not_true_eq_false, not_false_eq_true, ↓reduceIte, Option.bind_some, Bool.false_eq_true, decide_true, decide_false]
    congr 2
    show x / 1440 + 5 - (x / 1440 + 5) / 7 * 7 + 1 = (x / 1440 + 5) % 7 + 1
    omega
theorem X6_isDay_v (N : Nat) {y m d : Int} (hy : -2147483648 ≤ y ∧ y < 2147483648) (hm : -2147483648 ≤ m ∧ m < 2147483648) (hd : -2147483648 ≤ d ∧ d < 2147483648) : f_X6_isDay N (zI y) (zI m) (zI d) = some (decide (2000 ≤ y ∧ y ≤ 2099 ∧ 1 ≤ m ∧ m ≤ 12 ∧ 1 ≤ d ∧ d ≤ dInM (y - 2000) m)) := by
  rw [f_X6_isDay]
  simp (maxSteps := 400000) (disch := omega) only [zI_lit, zI_neg, zI_add, zI_sub, zI_mul, zI_div, zI_tn, zI_toL, zL_lit, zL_neg, zL_add, zL_sub, zL_mul, zL_div, zL_toI, zI_ltT, zI_ltF, zI_leT, zI_leF, zI_eqT, zI_eqF, zL_ltT, zL_ltF, zL_leT, zL_leF, zL_eqT, zL_eqF, nleT, nleF, or_self, or_false, false_or, true_or, or_true, not_true_eq_false, not_false_eq_true, ↓reduceIte, Option.bind_some, Bool.false_eq_true, decide_true, decide_false]
  rw [X6_isIn_v N (by omega) (by omega) (by omega), Option.bind_some]
  by_cases hy2 : 2000 ≤ y ∧ y ≤ 2099
  · rw [decide_eq_true hy2, if_pos rfl, X6_isIn_v N (by omega) (by omega) (by omega), Option.bind_some]
    by_cases hm2 : 1 ≤ m ∧ m ≤ 12
    · have h := X6_daysIn_v N (y := y - 2000) (m := m) (by omega) (by omega) (by omega) (by omega)
      rw [show 2000 + (y - 2000) = y by omega] at h
      have r := dInM_rng (y - 2000) m
      rw [decide_eq_true hm2, if_pos rfl, h, Option.bind_some]
      simp (maxSteps := 400000) (disch := omega) only [zI_lit, zI_neg, zI_add, zI_sub, zI_mul, zI_div, zI_tn, zI_toL, zL_lit, zL_neg, zL_add, zL_sub, zL_mul, zL_div, zL_toI, zI_ltT, zI_ltF, zI_leT, zI_leF, zI_eqT, zI_eqF, zL_ltT, zL_ltF, zL_leT, zL_leF, zL_eqT, zL_eqF, nleT, nleF, or_self, or_false, false_or, true_or, or_true, not_true_eq_false, not_false_eq_true, ↓reduceIte, Option.bind_some, Bool.false_eq_true, decide_true, decide_false]
      rw [X6_isIn_v N (by omega) (by omega) (by omega), Option.bind_some]
      by_cases hd2 : 1 ≤ d ∧ d ≤ dInM (y - 2000) m
      · rw [decide_eq_true hd2, if_pos rfl, decide_eq_true (by omega)]
      · rw [decide_eq_false hd2, if_neg (by decide), decide_eq_false (by omega)]
    · rw [decide_eq_false hm2, if_neg (by decide), decide_eq_false (by omega)]
  · rw [decide_eq_false hy2, if_neg (by decide), decide_eq_false (by omega)]
theorem X6_numberFor_l35 (N : Nat) {y m : Int} (hy : 0 ≤ y) (hy2 : y ≤ 99) (hm1 : 1 ≤ m) (hm2 : m ≤ 12) (x2 : Int32) (h mi : Int) : ∀ (j : Nat) (k t : Int) (n : Nat), 1 ≤ k → k + j = m → j < n → l_X6_numberFor_35 N (zI (2000 + y)) (zI m) x2 (zI h) (zI mi) n (zI (t + cum y k)) (zI k) = some (zI (1440 * (t + cum y m) + 60 * h + mi)) := by
  intro j
  induction j with
  | zero =>
    intro k t n hk hj hn
    obtain ⟨n, rfl⟩ : ∃ k, n = k + 1 := ⟨n - 1, by omega⟩
    have e : k = m := by omega
    rw [l_X6_numberFor_35]
    simp (maxSteps := 400000) (disch := omega) only [zI_lit, zI_neg, zI_add, zI_sub, zI_mul, zI_div, zI_tn, zI_toL, zL_lit, zL_neg, zL_add, zL_sub, zL_mul, zL_div, zL_toI, zI_ltT, zI_ltF, zI_leT, zI_leF, zI_eqT, zI_eqF, zL_ltT, zL_ltF, zL_leT, zL_leF, zL_eqT, zL_eqF, nleT, nleF, or_self, or_false, false_or, true_or, or_true, not_true_eq_false, not_false_eq_true, ↓reduceIte, Option.bind_some, Bool.false_eq_true, decide_true, decide_false]
    rw [e]
  | succ j ih =>
    intro k t n hk hj hn
    obtain ⟨n, rfl⟩ : ∃ k, n = k + 1 := ⟨n - 1, by omega⟩
    have es := cum_succ (y := y) (m := k) (by omega) (by omega)
    rw [l_X6_numberFor_35, X6_daysIn_v N hy (by omega) hk (by omega), Option.bind_some]
    simp (maxSteps := 400000) (disch := omega) only [zI_lit, zI_neg, zI_add, zI_sub, zI_mul, zI_div, zI_tn, zI_toL, zL_lit, zL_neg, zL_add, zL_sub, zL_mul, zL_div, zL_toI, zI_ltT, zI_ltF, zI_leT, zI_leF, zI_eqT, zI_eqF, zL_ltT, zL_ltF, zL_leT, zL_leF, zL_eqT, zL_eqF, nleT, nleF, or_self, or_false, false_or, true_or, or_true, not_true_eq_false, not_false_eq_true, ↓reduceIte, Option.bind_some, Bool.false_eq_true, decide_true, decide_false]
    rw [show t + cum y k + dInM y k = t + cum y (k + 1) by omega]
    exact ih (k + 1) t n (by omega) (by omega) (by omega)
theorem X6_numberFor_l10 {N : Nat} (hN : 700 ≤ N) {y m : Int} (hy : 0 ≤ y) (hy2 : y ≤ 99) (hm1 : 1 ≤ m) (hm2 : m ≤ 12) (x2 : Int32) (h mi : Int) : ∀ (j : Nat) (k t : Int) (n : Nat), 0 ≤ k → k + j = y → j < n → l_X6_numberFor_10 N (zI (2000 + y)) (zI m) x2 (zI h) (zI mi) n (zI (t + dYr k)) (zI (2000 + k)) = some (zI (1440 * (t + dYr y + cum y m) + 60 * h + mi)) := by
  intro j
  induction j with
  | zero =>
    intro k t n hk hj hn
    obtain ⟨n, rfl⟩ : ∃ k, n = k + 1 := ⟨n - 1, by omega⟩
    have e : k = y := by omega
    have h := X6_numberFor_l35 N hy hy2 hm1 hm2 x2 h mi (m - 1).toNat 1 (t + dYr y) N (by omega) (by omega) (by omega)
    rw [cum_1, show t + dYr y + 0 = t + dYr y by omega] at h
    rw [l_X6_numberFor_10]
    simp (maxSteps := 400000) (disch := omega) only [zI_lit, zI_neg, zI_add, zI_sub, zI_mul, zI_div, zI_tn, zI_toL, zL_lit, zL_neg, zL_add, zL_sub, zL_mul, zL_div, zL_toI, zI_ltT, zI_ltF, zI_leT, zI_leF, zI_eqT, zI_eqF, zL_ltT, zL_ltF, zL_leT, zL_leF, zL_eqT, zL_eqF, nleT, nleF, or_self, or_false, false_or, true_or, or_true, not_true_eq_false, not_false_eq_true, ↓reduceIte, Option.bind_some, Bool.false_eq_true, decide_true, decide_false]
    rw [e]
    exact h
  | succ j ih =>
    intro k t n hk hj hn
    obtain ⟨n, rfl⟩ : ∃ k, n = k + 1 := ⟨n - 1, by omega⟩
    have es := dYr_succ (y := k)
    rw [l_X6_numberFor_10, X6_daysOf_v N hk (by omega), Option.bind_some]
    simp (maxSteps := 400000) (disch := omega) only [zI_lit, zI_neg, zI_add, zI_sub, zI_mul, zI_div, zI_tn, zI_toL, zL_lit, zL_neg, zL_add, zL_sub, zL_mul, zL_div, zL_toI, zI_ltT, zI_ltF, zI_leT, zI_leF, zI_eqT, zI_eqF, zL_ltT, zL_ltF, zL_leT, zL_leF, zL_eqT, zL_eqF, nleT, nleF, or_self, or_false, false_or, true_or, or_true, not_true_eq_false, not_false_eq_true, ↓reduceIte, Option.bind_some, Bool.false_eq_true, decide_true, decide_false]
    rw [show t + dYr k + (if k % 4 = 0 then 366 else 365) = t + dYr (k + 1) by omega, show 2000 + k + 1 = 2000 + (k + 1) by omega]
    exact ih (k + 1) t n (by omega) (by omega) (by omega)
theorem X6_numberFor_v {N : Nat} (hN : 700 ≤ N) {y m d : Int} (hok : okD y m d) (h mi : Int) : f_X6_numberFor N (zI (2000 + y)) (zI m) (zI d) (zI h) (zI mi) = some (zI (1440 * (dYr y + cum y m + d - 1) + 60 * h + mi)) := by
  obtain ⟨a1, a2, a3, a4, a5, a6⟩ := hok
  have q := X6_numberFor_l10 hN a1 a2 a3 a4 (zI d) h mi y.toNat 0 (d - 1) N (by omega) (by omega) (by omega)
  rw [show d - 1 + dYr 0 = d - 1 by unfold dYr; omega, show (2000 : Int) + 0 = 2000 by omega] at q
  rw [f_X6_numberFor]
  simp (maxSteps := 400000) (disch := omega) only [zI_lit, zI_neg, zI_add, zI_sub, zI_mul, zI_div, zI_tn, zI_toL, zL_lit, zL_neg, zL_add, zL_sub, zL_mul, zL_div, zL_toI, zI_ltT, zI_ltF, zI_leT, zI_leF, zI_eqT, zI_eqF, zL_ltT, zL_ltF, zL_leT, zL_leF, zL_eqT, zL_eqF, nleT, nleF, or_self, or_false, false_or, true_or, or_true, not_true_eq_false, not_false_eq_true, ↓reduceIte, Option.bind_some, Bool.false_eq_true, decide_true, decide_false]
  rw [q, show d - 1 + dYr y + cum y m = dYr y + cum y m + d - 1 by omega]
