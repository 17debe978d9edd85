/-! the calendar: days ahead of years and months; what the class and the reference make of them -/
def dYr (y : Int) : Int := 365 * y + (y + 3) / 4
def dInM (y m : Int) : Int := if m = 2 then (if y % 4 = 0 then 29 else 28) else if m = 4 ∨ m = 6 ∨ m = 9 ∨ m = 11 then 30 else 31
def cumN (k : Int) : Int := if k ≤ 0 then 0 else if k = 1 then 31 else if k = 2 then 59 else if k = 3 then 90 else if k = 4 then 120 else if k = 5 then 151 else if k = 6 then 181 else if k = 7 then 212 else if k = 8 then 243 else if k = 9 then 273 else if k = 10 then 304 else if k = 11 then 334 else 365
def cum (y m : Int) : Int := cumN (m - 1) + (if y % 4 = 0 ∧ 2 < m then 1 else 0)
theorem aDy_cum {k : Int} (h1 : 0 ≤ k) (h2 : k ≤ 12) : aDy k.toNat = zI (cumN k) := by
  have h : k = 0 ∨ k = 1 ∨ k = 2 ∨ k = 3 ∨ k = 4 ∨ k = 5 ∨ k = 6 ∨ k = 7 ∨ k = 8 ∨ k = 9 ∨ k = 10 ∨ k = 11 ∨ k = 12 := by omega
  rcases h with rfl | rfl | rfl | rfl | rfl | rfl | rfl | rfl | rfl | rfl | rfl | rfl | rfl <;> rfl
theorem cumN_rng (k : Int) : 0 ≤ cumN k ∧ cumN k ≤ 365 := by unfold cumN; grind (splits := 40)
theorem cum_rng (y m : Int) : 0 ≤ cum y m ∧ cum y m ≤ 366 := by have := cumN_rng (m - 1); unfold cum; grind (splits := 20)
theorem cum_succ {y m : Int} (h1 : 1 ≤ m) (h2 : m ≤ 12) : cum y (m + 1) = cum y m + dInM y m := by
  unfold cum dInM cumN
  grind (splits := 60)
theorem dInM_rng (y m : Int) : 28 ≤ dInM y m ∧ dInM y m ≤ 31 := by unfold dInM; grind
theorem cum_mono {y : Int} : ∀ (j : Nat) (m : Int), 1 ≤ m → m + j ≤ 13 → cum y m ≤ cum y (m + j)
  | 0, m, _, _ => by simp
  | j + 1, m, h1, h2 => by
    have h := cum_mono (y := y) j m h1 (by omega)
    have e := cum_succ (y := y) (m := m + j) (by omega) (by omega)
    have r := dInM_rng y (m + j)
    rw [show m + ((j + 1 : Nat) : Int) = m + j + 1 by omega, e]
    omega
theorem cum_le {y a b : Int} (h1 : 1 ≤ a) (h2 : a ≤ b) (h3 : b ≤ 13) : cum y a ≤ cum y b := by
  have h := cum_mono (y := y) (b - a).toNat a h1 (by omega)
  rwa [show a + ((b - a).toNat : Int) = b by omega] at h
theorem dYr_succ {y : Int} : dYr (y + 1) = dYr y + (if y % 4 = 0 then 366 else 365) := by
  unfold dYr
  split <;> omega
theorem cum_13 (y : Int) : cum y 13 = (if y % 4 = 0 then 366 else 365) := by unfold cum cumN; grind (splits := 40)
theorem cum_1 (y : Int) : cum y 1 = 0 := by unfold cum cumN; grind (splits := 40)
def yS (d : Int) : Int := if d % 1461 < 366 then d / 1461 * 4 else d / 1461 * 4 + 1 + (d % 1461 - 366) / 365
theorem yS_spec {d : Int} (h1 : 0 ≤ d) (h2 : d < 36525) : 0 ≤ yS d ∧ yS d ≤ 99 ∧ dYr (yS d) ≤ d ∧ d < dYr (yS d + 1) := by
  unfold yS dYr
  split <;> omega
def rS (d : Int) : Int := d - dYr (yS d)
theorem rS_rng {d : Int} (h1 : 0 ≤ d) (h2 : d < 36525) : 0 ≤ rS d ∧ rS d < cum (yS d) 13 := by
  obtain ⟨_, _, h3, h4⟩ := yS_spec h1 h2
  rw [dYr_succ] at h4
  rw [cum_13]
  unfold rS
  omega
theorem mS_ex {y r : Int} (h1 : 0 ≤ r) (h2 : r < cum y 13) : ∃ m : Int, 1 ≤ m ∧ m ≤ 12 ∧ cum y m ≤ r ∧ r < cum y (m + 1) := by
  have key : ∀ j : Nat, j ≤ 12 → r < cum y (1 + j) → ∃ m : Int, 1 ≤ m ∧ m ≤ 12 ∧ cum y m ≤ r ∧ r < cum y (m + 1) := by
    intro j
    induction j with
    | zero => intro _ h; rw [show (1 : Int) + ((0 : Nat) : Int) = 1 by omega, cum_1] at h; omega
    | succ j ih =>
      intro hj h
      by_cases hc : r < cum y (1 + j)
      · exact ih (by omega) hc
      · exact ⟨1 + j, by omega, by omega, by omega, by rwa [show (1 : Int) + ((j + 1 : Nat) : Int) = 1 + j + 1 by omega] at h⟩
  exact key 12 (by omega) h2
noncomputable def mS (d : Int) : Int := if h : 0 ≤ rS d ∧ rS d < cum (yS d) 13 then (mS_ex h.1 h.2).choose else 1
theorem mS_spec {d : Int} (h1 : 0 ≤ d) (h2 : d < 36525) : 1 ≤ mS d ∧ mS d ≤ 12 ∧ cum (yS d) (mS d) ≤ rS d ∧ rS d < cum (yS d) (mS d + 1) := by
  have h := rS_rng h1 h2
  unfold mS
  rw [dif_pos h]
  exact (mS_ex h.1 h.2).choose_spec
noncomputable def ddS (d : Int) : Int := rS d - cum (yS d) (mS d) + 1
theorem ddS_rng {d : Int} (h1 : 0 ≤ d) (h2 : d < 36525) : 1 ≤ ddS d ∧ ddS d ≤ dInM (yS d) (mS d) := by
  obtain ⟨a, b, c, e⟩ := mS_spec h1 h2
  rw [cum_succ a b] at e
  unfold ddS
  omega
def okD (y m d : Int) : Prop := 0 ≤ y ∧ y ≤ 99 ∧ 1 ≤ m ∧ m ≤ 12 ∧ 1 ≤ d ∧ d ≤ dInM y m
theorem X1_hasMinute_v (N : Nat) {x : Int} (h1 : -2147483648 ≤ x) (h2 : x < 2147483648) : f_X1_hasMinute N (zI x) = some (decide (0 ≤ x ∧ x ≤ 52595999)) := by
  simp (maxSteps := 400000) (disch := omega) only [zI_lit, zI_neg, zI_add, zI_sub, zI_mul, zI_div, zI_tn, zI_toL, zL_lit, zL_neg, zL_add, zL_sub, zL_mul, zL_div, zL_toI, zI_lt, zI_le, zI_eq, zL_lt, zL_le, zL_eq, f_X1_hasMinute]
  grind
theorem X6_isIn_v (N : Nat) {a b c : Int} (ha : -9223372036854775808 ≤ a ∧ a < 9223372036854775808) (hb : -9223372036854775808 ≤ b ∧ b < 9223372036854775808) (hc : -9223372036854775808 ≤ c ∧ c < 9223372036854775808) : f_X6_isIn N (zL a) (zL b) (zL c) = some (decide (b ≤ a ∧ a ≤ c)) := by
  simp (maxSteps := 400000) (disch := omega) only [zI_lit, zI_neg, zI_add, zI_sub, zI_mul, zI_div, zI_tn, zI_toL, zL_lit, zL_neg, zL_add, zL_sub, zL_mul, zL_div, zL_toI, zI_lt, zI_le, zI_eq, zL_lt, zL_le, zL_eq, f_X6_isIn]
  grind
theorem X6_isMinute_v (N : Nat) {x : Int} (h1 : -2147483648 ≤ x) (h2 : x < 2147483648) : f_X6_isMinute N (zI x).toInt64 = some (decide (0 ≤ x ∧ x ≤ 52595999)) := by
  rw [f_X6_isMinute, zI_toL h1 h2, show (0 : Int64) = zL 0 from rfl, show (52595999 : Int64) = zL 52595999 from rfl, X6_isIn_v N (by omega) (by omega) (by omega)]
  rfl
theorem X1_yearOf_v (N : Nat) {d : Int} (h1 : 0 ≤ d) (h2 : d < 36525) : f_X1_yearOf N (zI d) = some (zI (yS d)) := by
  have e : d - d / 1461 * 1461 = d % 1461 := by omega
  simp (maxSteps := 400000) (disch := omega) only [zI_lit, zI_neg, zI_add, zI_sub, zI_mul, zI_div, zI_tn, zI_toL, zL_lit, zL_neg, zL_add, zL_sub, zL_mul, zL_div, zL_toI, zI_lt, zI_le, zI_eq, zL_lt, zL_le, zL_eq, f_X1_yearOf, e]
  unfold yS
  grind
theorem X1_dayNumber_v (N : Nat) {y m d : Int} (hy : -2147483648 ≤ y ∧ y < 2147483648) (hm : -2147483648 ≤ m ∧ m < 2147483647) (hd : -2147483648 ≤ d ∧ d < 2147483648) :
    (okD y m d → f_X1_dayNumber N (zI y) (zI m) (zI d) = some (zI (dYr y + cum y m + d - 1))) ∧ (¬ okD y m d → f_X1_dayNumber N (zI y) (zI m) (zI d) = some (zI (-1))) := by
  by_cases hok : 0 ≤ y ∧ y ≤ 99 ∧ 1 ≤ m ∧ m ≤ 12
  · obtain ⟨a1, a2, a3, a4⟩ := hok
    have r1 := cumN_rng m
    have r2 := cumN_rng (m - 1)
    have e1 := cum_succ (y := y) a3 a4
    have hcm : cum y m = cumN (m - 1) + (if y % 4 = 0 ∧ 2 < m then 1 else 0) := rfl
    have hcm1 : cum y (m + 1) = cumN m + (if y % 4 = 0 ∧ 2 < m + 1 then 1 else 0) := by unfold cum; rw [show m + 1 - 1 = m by omega]
    have e5 : dYr y = 365 * y + (y + 3) / 4 := rfl
    unfold okD
    rw [f_X1_dayNumber]
    by_cases hl : y % 4 = 0
    · rcases (show m < 2 ∨ m = 2 ∨ 2 < m by omega) with h2 | h2 | h2
      · rw [if_neg (by omega)] at hcm hcm1
        by_cases h7 : d < 1
        · exact ⟨fun h => by omega, fun _ => by simp (maxSteps := 400000) (disch := omega) only [zI_lit, zI_neg, zI_add, zI_sub, zI_mul, zI_div, zI_tn, zI_toL, zL_lit, zL_neg, zL_add, zL_sub, zL_mul, zL_div, zL_toI, zI_ltT, zI_ltF, zI_leT, zI_leF, zI_eqT, zI_eqF, zL_ltT, zL_ltF, zL_leT, zL_leF, zL_eqT, zL_eqF, nleT, nleF, or_self, or_false, false_or, true_or, or_true, not_true_eq_false, not_false_eq_true, ↓reduceIte, Option.bind_some, Bool.false_eq_true, decide_true, decide_false, aDy_cum]⟩
        · by_cases h8 : dInM y m < d
          · exact ⟨fun h => by omega, fun _ => by simp (maxSteps := 400000) (disch := omega) only [zI_lit, zI_neg, zI_add, zI_sub, zI_mul, zI_div, zI_tn, zI_toL, zL_lit, zL_neg, zL_add, zL_sub, zL_mul, zL_div, zL_toI, zI_ltT, zI_ltF, zI_leT, zI_leF, zI_eqT, zI_eqF, zL_ltT, zL_ltF, zL_leT, zL_leF, zL_eqT, zL_eqF, nleT, nleF, or_self, or_false, false_or, true_or, or_true, not_true_eq_false, not_false_eq_true, ↓reduceIte, Option.bind_some, Bool.false_eq_true, decide_true, decide_false, aDy_cum]⟩
          · refine ⟨fun _ => ?_, fun h => by omega⟩
            simp (maxSteps := 400000) (disch := omega) only [zI_lit, zI_neg, zI_add, zI_sub, zI_mul, zI_div, zI_tn, zI_toL, zL_lit, zL_neg, zL_add, zL_sub, zL_mul, zL_div, zL_toI, zI_ltT, zI_ltF, zI_leT, zI_leF, zI_eqT, zI_eqF, zL_ltT, zL_ltF, zL_leT, zL_leF, zL_eqT, zL_eqF, nleT, nleF, or_self, or_false, false_or, true_or, or_true, not_true_eq_false, not_false_eq_true, ↓reduceIte, Option.bind_some, Bool.false_eq_true, decide_true, decide_false, aDy_cum]
            congr 2
            omega
      · rw [if_neg (by omega)] at hcm
        rw [if_pos (by omega)] at hcm1
        by_cases h7 : d < 1
        · exact ⟨fun h => by omega, fun _ => by simp (maxSteps := 400000) (disch := omega) only [zI_lit, zI_neg, zI_add, zI_sub, zI_mul, zI_div, zI_tn, zI_toL, zL_lit, zL_neg, zL_add, zL_sub, zL_mul, zL_div, zL_toI, zI_ltT, zI_ltF, zI_leT, zI_leF, zI_eqT, zI_eqF, zL_ltT, zL_ltF, zL_leT, zL_leF, zL_eqT, zL_eqF, nleT, nleF, or_self, or_false, false_or, true_or, or_true, not_true_eq_false, not_false_eq_true, ↓reduceIte, Option.bind_some, Bool.false_eq_true, decide_true, decide_false, aDy_cum]⟩
        · by_cases h8 : dInM y m < d
          · exact ⟨fun h => by omega, fun _ => by simp (maxSteps := 400000) (disch := omega) only [zI_lit, zI_neg, zI_add, zI_sub, zI_mul, zI_div, zI_tn, zI_toL, zL_lit, zL_neg, zL_add, zL_sub, zL_mul, zL_div, zL_toI, zI_ltT, zI_ltF, zI_leT, zI_leF, zI_eqT, zI_eqF, zL_ltT, zL_ltF, zL_leT, zL_leF, zL_eqT, zL_eqF, nleT, nleF, or_self, or_false, false_or, true_or, or_true, not_true_eq_false, not_false_eq_true, ↓reduceIte, Option.bind_some, Bool.false_eq_true, decide_true, decide_false, aDy_cum]⟩
          · refine ⟨fun _ => ?_, fun h => by omega⟩
            simp (maxSteps := 400000) (disch := omega) only [zI_lit, zI_neg, zI_add, zI_sub, zI_mul, zI_div, zI_tn, zI_toL, zL_lit, zL_neg, zL_add, zL_sub, zL_mul, zL_div, zL_toI, zI_ltT, zI_ltF, zI_leT, zI_leF, zI_eqT, zI_eqF, zL_ltT, zL_ltF, zL_leT, zL_leF, zL_eqT, zL_eqF, nleT, nleF, or_self, or_false, false_or, true_or, or_true, not_true_eq_false, not_false_eq_true, ↓reduceIte, Option.bind_some, Bool.false_eq_true, decide_true, decide_false, aDy_cum]
            congr 2
            omega
      · rw [if_pos (by omega)] at hcm hcm1
        by_cases h7 : d < 1
        · exact ⟨fun h => by omega, fun _ => by simp (maxSteps := 400000) (disch := omega) only [zI_lit, zI_neg, zI_add, zI_sub, zI_mul, zI_div, zI_tn, zI_toL, zL_lit, zL_neg, zL_add, zL_sub, zL_mul, zL_div, zL_toI, zI_ltT, zI_ltF, zI_leT, zI_leF, zI_eqT, zI_eqF, zL_ltT, zL_ltF, zL_leT, zL_leF, zL_eqT, zL_eqF, nleT, nleF, or_self, or_false, false_or, true_or, or_true, not_true_eq_false, not_false_eq_true, ↓reduceIte, Option.bind_some, Bool.false_eq_true, decide_true, decide_false, aDy_cum]⟩
        · by_cases h8 : dInM y m < d
          · exact ⟨fun h => by omega, fun _ => by simp (maxSteps := 400000) (disch := omega) only [zI_lit, zI_neg, zI_add, zI_sub, zI_mul, zI_div, zI_tn, zI_toL, zL_lit, zL_neg, zL_add, zL_sub, zL_mul, zL_div, zL_toI, zI_ltT, zI_ltF, zI_leT, zI_leF, zI_eqT, zI_eqF, zL_ltT, zL_ltF, zL_leT, zL_leF, zL_eqT, zL_eqF, nleT, nleF, or_self, or_false, false_or, true_or, or_true, not_true_eq_false, not_false_eq_true, ↓reduceIte, Option.bind_some, Bool.false_eq_true, decide_true, decide_false, aDy_cum]⟩
          · refine ⟨fun _ => ?_, fun h => by omega⟩
            simp (maxSteps := 400000) (disch := omega) only [zI_lit, zI_neg, zI_add, zI_sub, zI_mul, zI_div, zI_tn, zI_toL, zL_lit, zL_neg, zL_add, zL_sub, zL_mul, zL_div, zL_toI, zI_ltT, zI_ltF, zI_leT, zI_leF, zI_eqT, zI_eqF, zL_ltT, zL_ltF, zL_leT, zL_leF, zL_eqT, zL_eqF, nleT, nleF, or_self, or_false, false_or, true_or, or_true, not_true_eq_false, not_false_eq_true, ↓reduceIte, Option.bind_some, Bool.false_eq_true, decide_true, decide_false, aDy_cum]
            congr 2
            omega
    · rw [if_neg (by omega)] at hcm hcm1
      by_cases h7 : d < 1
      · exact ⟨fun h => by omega, fun _ => by simp (maxSteps := 400000) (disch := omega) only [zI_lit, zI_neg, zI_add, zI_sub, zI_mul, zI_div, zI_tn, zI_toL, zL_lit, zL_neg, zL_add, zL_sub, zL_mul, zL_div, zL_toI, zI_ltT, zI_ltF, zI_leT, zI_leF, zI_eqT, zI_eqF, zL_ltT, zL_ltF, zL_leT, zL_leF, zL_eqT, zL_eqF, nleT, nleF, or_self, or_false, false_or, true_or, or_true, not_true_eq_false, not_false_eq_true, ↓reduceIte, Option.bind_some, Bool.false_eq_true, decide_true, decide_false, aDy_cum]⟩
      · by_cases h8 : dInM y m < d
        · exact ⟨fun h => by omega, fun _ => by simp (maxSteps := 400000) (disch := omega) only [zI_lit, zI_neg, zI_add, zI_sub, zI_mul, zI_div, zI_tn, zI_toL, zL_lit, zL_neg, zL_add, zL_sub, zL_mul, zL_div, zL_toI, zI_ltT, zI_ltF, zI_leT, zI_leF, zI_eqT, zI_eqF, zL_ltT, zL_ltF, zL_leT, zL_leF, zL_eqT, zL_eqF, nleT, nleF, or_self, or_false, false_or, true_or, or_true, not_true_eq_false, not_false_eq_true, ↓reduceIte, Option.bind_some, Bool.false_eq_true, decide_true, decide_false, aDy_cum]⟩
        · refine ⟨fun _ => ?_, fun h => by omega⟩
          simp (maxSteps := 400000) (disch := omega) only [zI_lit, zI_neg, zI_add, zI_sub, zI_mul, zI_div, zI_tn, zI_toL, zL_lit, zL_neg, zL_add, zL_sub, zL_mul, zL_div, zL_toI, zI_ltT, zI_ltF, zI_leT, zI_leF, zI_eqT, zI_eqF, zL_ltT, zL_ltF, zL_leT, zL_leF, zL_eqT, zL_eqF, nleT, nleF, or_self, or_false, false_or, true_or, or_true, not_true_eq_false, not_false_eq_true, ↓reduceIte, Option.bind_some, Bool.false_eq_true, decide_true, decide_false, aDy_cum]
          congr 2
          omega
  · have hn : ¬ okD y m d := fun h => hok ⟨h.1, h.2.1, h.2.2.1, h.2.2.2.1⟩
    refine ⟨fun h => absurd h hn, fun _ => ?_⟩
    rw [f_X1_dayNumber]
    by_cases h1 : y < 0
    · simp (maxSteps := 400000) (disch := omega) only [zI_lit, zI_neg, zI_add, zI_sub, zI_mul, zI_div, zI_tn, zI_toL, zL_lit, zL_neg, zL_add, zL_sub, zL_mul, zL_div, zL_toI, zI_ltT, zI_ltF, zI_leT, zI_leF, zI_eqT, zI_eqF, zL_ltT, zL_ltF, zL_leT, zL_leF, zL_eqT, zL_eqF, nleT, nleF, or_self, or_false, false_or, true_or, or_true, not_true_eq_false, not_false_eq_true, ↓reduceIte, Option.bind_some, Bool.false_eq_true, decide_true, decide_false]
    by_cases h2 : 99 < y
    · simp (maxSteps := 400000) (disch := omega) only [zI_lit, zI_neg, zI_add, zI_sub, zI_mul, zI_div, zI_tn, zI_toL, zL_lit, zL_neg, zL_add, zL_sub, zL_mul, zL_div, zL_toI, zI_ltT, zI_ltF, zI_leT, zI_leF, zI_eqT, zI_eqF, zL_ltT, zL_ltF, zL_leT, zL_leF, zL_eqT, zL_eqF, nleT, nleF, or_self, or_false, false_or, true_or, or_true, not_true_eq_false, not_false_eq_true, ↓reduceIte, Option.bind_some, Bool.false_eq_true, decide_true, decide_false]
    by_cases h3 : m < 1
    · simp (maxSteps := 400000) (disch := omega) only [zI_lit, zI_neg, zI_add, zI_sub, zI_mul, zI_div, zI_tn, zI_toL, zL_lit, zL_neg, zL_add, zL_sub, zL_mul, zL_div, zL_toI, zI_ltT, zI_ltF, zI_leT, zI_leF, zI_eqT, zI_eqF, zL_ltT, zL_ltF, zL_leT, zL_leF, zL_eqT, zL_eqF, nleT, nleF, or_self, or_false, false_or, true_or, or_true, not_true_eq_false, not_false_eq_true, ↓reduceIte, Option.bind_some, Bool.false_eq_true, decide_true, decide_false]
    simp (maxSteps := 400000) (disch := omega) only [zI_lit, zI_neg, zI_add, zI_sub, zI_mul, zI_div, zI_tn, zI_toL, zL_lit, zL_neg, zL_add, zL_sub, zL_mul, zL_div, zL_toI, zI_ltT, zI_ltF, zI_leT, zI_leF, zI_eqT, zI_eqF, zL_ltT, zL_ltF, zL_leT, zL_leF, zL_eqT, zL_eqF, nleT, nleF, or_self, or_false, false_or, true_or, or_true, not_true_eq_false, not_false_eq_true, ↓reduceIte, Option.bind_some, Bool.false_eq_true, decide_true, decide_false]
