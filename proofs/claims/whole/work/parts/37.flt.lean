/-! the fault of a minute's bits, by both -/
theorem ifP {c p : Prop} [Decidable c] {α : Type} {x y : α} (e : c = p) (h : p) : (if c then x else y) = x := if_pos (e.mpr h)
theorem ifN {c p : Prop} [Decidable c] {α : Type} {x y : α} (e : c = p) (h : ¬ p) : (if c then x else y) = y := if_neg (fun z => h (e.mp z))
theorem ifF {c : Prop} [Decidable c] {α : Type} {x y : α} (e : c = False) : (if c then x else y) = y := if_neg (fun z => (e.mp z).elim)
theorem ifb0 {α : Type} {x y : α} : (if false = true then x else y) = y := rfl
theorem ifb1 {α : Type} {x y : α} : (if true = true then x else y) = x := rfl
theorem oi_s (u : Ob) (k : Nat) (x : Int32) : (oi u k x).1 k = x := va_up_self u.1 k x
theorem oi_n (u : Ob) {k j : Nat} (x : Int32) (h : j ≠ k) : (oi u k x).1 j = u.1 j := va_up_ne u.1 x h
theorem ol_s (u : Ob) (k : Nat) (x : Int64) : (ol u k x).2.1 k = x := va_up_self u.2.1 k x
theorem ol_n (u : Ob) {k j : Nat} (x : Int64) (h : j ≠ k) : (ol u k x).2.1 j = u.2.1 j := va_up_ne u.2.1 x h
theorem oa_s (u : Ob) (k : Nat) (x : Nat → Int32) : (oa u k x).2.2.1 k = x := va_up_self u.2.2.1 k x
theorem oa_n (u : Ob) {k j : Nat} (x : Nat → Int32) (h : j ≠ k) : (oa u k x).2.2.1 j = u.2.2.1 j := va_up_ne u.2.2.1 x h
theorem oj_s (u : Ob) (k : Nat) (x : Nat → Int64) : (oj u k x).2.2.2 k = x := va_up_self u.2.2.2 k x
theorem oj_n (u : Ob) {k j : Nat} (x : Nat → Int64) (h : j ≠ k) : (oj u k x).2.2.2 j = u.2.2.2 j := va_up_ne u.2.2.2 x h
theorem zI_m1 {x : Int} (h1 : -2147483648 ≤ x) (h2 : x < 2147483648) : (zI x = -1) = (x = -1) := by
  rw [show ((-1 : Int32)) = zI (-1) from rfl, zI_eq h1 h2 (by omega) (by omega)]
theorem zL_m1 {x : Int} (h1 : -9223372036854775808 ≤ x) (h2 : x < 9223372036854775808) : (zL x = -1) = (x = -1) := by
  rw [show ((-1 : Int64)) = zL (-1) from rfl, zL_eq h1 h2 (by omega) (by omega)]
theorem zI_suc (k : Nat) : zI (k : Int) + 1 = zI ((k + 1 : Nat) : Int) := by rw [zI_lit, zI_add]; rfl
theorem zI_ad0 (k : Int) : zI k + 0 = zI k := by rw [zI_lit, zI_add]; congr 1; exact Int.add_zero k
theorem and_rng (a : Int32) {m : Nat} (hm : m < 2147483648) : 0 ≤ (a &&& nI m).toInt ∧ (a &&& nI m).toInt ≤ m := by
  have h1 : (a &&& nI m).toBitVec.toNat ≤ m := by
    rw [Int32.toBitVec_and, BitVec.toNat_and]
    have h2 : (nI m).toBitVec.toNat = m := by
      show (BitVec.ofNat 32 m).toNat = m
      rw [BitVec.toNat_ofNat, Nat.mod_eq_of_lt (by omega)]
    rw [h2]
    exact Nat.and_le_right
  have h3 : (a &&& nI m).toInt = ((a &&& nI m).toBitVec.toNat : Int) := by
    show (a &&& nI m).toBitVec.toInt = _
    exact BitVec.toInt_eq_toNat_of_lt (by omega)
  omega
def fv (x : Int64) (s : Int32) (m : Nat) : Int := ((jushr x s).toInt32 &&& nI m).toInt
theorem fv_rng (x : Int64) (s : Int32) {m : Nat} (hm : m < 2147483648) : 0 ≤ fv x s m ∧ fv x s m ≤ m := and_rng _ hm
def nv (x : Int64) (s s4 : Int32) (m : Nat) : Int := if 9 < fv x s 15 ∨ 9 < fv x s4 m then -1 else 10 * fv x s4 m + fv x s 15
theorem nv_rng (x : Int64) (s s4 : Int32) {m : Nat} (hm : m < 2147483648) : -1 ≤ nv x s s4 m ∧ nv x s s4 m ≤ 99 := by
  have h1 := fv_rng x s (m := 15) (by omega)
  have h2 := fv_rng x s4 hm
  unfold nv
  grind
theorem X2_numberAt_v (N : Nat) (x : Int64) {s s4 w : Int32} {m : Nat} (hm : m < 2147483648) (hw : ((1 : Int32) <<< (w &&& 31)) - 1 = nI m) (hs : s + 4 = s4) : f_X2_numberAt N x s w = some (zI (nv x s s4 m)) := by
  have e1 : (jushr x s).toInt32 &&& (15 : Int32) = zI (fv x s 15) := zI_self ((jushr x s).toInt32 &&& nI 15)
  have e2 : (jushr x s4).toInt32 &&& nI m = zI (fv x s4 m) := zI_self ((jushr x s4).toInt32 &&& nI m)
  have r1 := fv_rng x s (m := 15) (by omega)
  have r2 := fv_rng x s4 hm
  rw [f_X2_numberAt, hs, hw, e1, e2]
  unfold nv
  by_cases h1 : 9 < fv x s 15
  · rw [if_pos (Or.inl h1)]
    simp (maxSteps := 400000) (disch := omega) only [zI_lit, zI_neg, zI_add, zI_sub, zI_mul, zI_div, zI_tn, zI_toL, zL_lit, zL_neg, zL_add, zL_sub, zL_mul, zL_div, zL_toI, zI_ltT, zI_ltF, zI_leT, zI_leF, zI_eqT, zI_eqF, zL_ltT, zL_ltF, zL_leT, zL_leF, zL_eqT, zL_eqF, nleT, nleF, or_self, or_false, false_or, true_or, or_true, not_true_eq_false, not_false_eq_true, ↓reduceIte, Option.bind_some, Bool.false_eq_true, decide_true, decide_false]
  · by_cases h2 : 9 < fv x s4 m
    · rw [if_pos (Or.inr h2)]
      simp (maxSteps := 400000) (disch := omega) only [zI_lit, zI_neg, zI_add, zI_sub, zI_mul, zI_div, zI_tn, zI_toL, zL_lit, zL_neg, zL_add, zL_sub, zL_mul, zL_div, zL_toI, zI_ltT, zI_ltF, zI_leT, zI_leF, zI_eqT, zI_eqF, zL_ltT, zL_ltF, zL_leT, zL_leF, zL_eqT, zL_eqF, nleT, nleF, or_self, or_false, false_or, true_or, or_true, not_true_eq_false, not_false_eq_true, ↓reduceIte, Option.bind_some, Bool.false_eq_true, decide_true, decide_false]
    · rw [if_neg (show ¬ (9 < fv x s 15 ∨ 9 < fv x s4 m) from fun z => z.elim h1 h2)]
      simp (maxSteps := 400000) (disch := omega) only [zI_lit, zI_neg, zI_add, zI_sub, zI_mul, zI_div, zI_tn, zI_toL, zL_lit, zL_neg, zL_add, zL_sub, zL_mul, zL_div, zL_toI, zI_ltT, zI_ltF, zI_leT, zI_leF, zI_eqT, zI_eqF, zL_ltT, zL_ltF, zL_leT, zL_leF, zL_eqT, zL_eqF, nleT, nleF, or_self, or_false, false_or, true_or, or_true, not_true_eq_false, not_false_eq_true, ↓reduceIte, Option.bind_some, Bool.false_eq_true, decide_true, decide_false]
def mv (n : Int) : Int := if n = -1 then 999 else n
theorem X6_valueOf_v (N : Nat) (x : Int64) {s s4 w : Int32} {m : Nat} (hm : m < 2147483648) (hw : ((1 : Int32) <<< (w &&& 31)) - 1 = nI m) (hs : s + 4 = s4) : f_X6_valueOf N x s w = some (zI (mv (nv x s s4 m))) := by
  have e0 : ((1 : Int32) <<< ((4 : Int32) &&& 31)) - 1 = nI 15 := by decide +kernel
  have e1 : (jushr x s).toInt32 &&& nI 15 = zI (fv x s 15) := zI_self ((jushr x s).toInt32 &&& nI 15)
  have e2 : (jushr x s4).toInt32 &&& nI m = zI (fv x s4 m) := zI_self ((jushr x s4).toInt32 &&& nI m)
  have r1 := fv_rng x s (m := 15) (by omega)
  have r2 := fv_rng x s4 hm
  rw [f_X6_valueOf, f_X6_ones, f_X6_ones, hs, hw, e0, e1, e2]
  unfold nv mv
  by_cases h1 : 9 < fv x s 15
  · rw [if_pos (Or.inl h1), if_pos rfl]
    simp (maxSteps := 400000) (disch := omega) only [zI_lit, zI_neg, zI_add, zI_sub, zI_mul, zI_div, zI_tn, zI_toL, zL_lit, zL_neg, zL_add, zL_sub, zL_mul, zL_div, zL_toI, zI_ltT, zI_ltF, zI_leT, zI_leF, zI_eqT, zI_eqF, zL_ltT, zL_ltF, zL_leT, zL_leF, zL_eqT, zL_eqF, nleT, nleF, or_self, or_false, false_or, true_or, or_true, not_true_eq_false, not_false_eq_true, ↓reduceIte, Option.bind_some, Bool.false_eq_true, decide_true, decide_false]
  · by_cases h2 : 9 < fv x s4 m
    · rw [if_pos (Or.inr h2), if_pos rfl]
      simp (maxSteps := 400000) (disch := omega) only [zI_lit, zI_neg, zI_add, zI_sub, zI_mul, zI_div, zI_tn, zI_toL, zL_lit, zL_neg, zL_add, zL_sub, zL_mul, zL_div, zL_toI, zI_ltT, zI_ltF, zI_leT, zI_leF, zI_eqT, zI_eqF, zL_ltT, zL_ltF, zL_leT, zL_leF, zL_eqT, zL_eqF, nleT, nleF, or_self, or_false, false_or, true_or, or_true, not_true_eq_false, not_false_eq_true, ↓reduceIte, Option.bind_some, Bool.false_eq_true, decide_true, decide_false]
    · rw [if_neg (show ¬ (9 < fv x s 15 ∨ 9 < fv x s4 m) from fun z => z.elim h1 h2), if_neg (show ¬ (10 * fv x s4 m + fv x s 15 = -1) by omega)]
      simp (maxSteps := 400000) (disch := omega) only [zI_lit, zI_neg, zI_add, zI_sub, zI_mul, zI_div, zI_tn, zI_toL, zL_lit, zL_neg, zL_add, zL_sub, zL_mul, zL_div, zL_toI, zI_ltT, zI_ltF, zI_leT, zI_leF, zI_eqT, zI_eqF, zL_ltT, zL_ltF, zL_leT, zL_leF, zL_eqT, zL_eqF, nleT, nleF, or_self, or_false, false_or, true_or, or_true, not_true_eq_false, not_false_eq_true, ↓reduceIte, Option.bind_some, Bool.false_eq_true, decide_true, decide_false]
def yV (x : Int64) : Int := nv x (zI 50) (zI 54) 15
def moV (x : Int64) : Int := nv x (zI 45) (zI 49) 1
def dV (x : Int64) : Int := nv x (zI 36) (zI 40) 3
def hV (x : Int64) : Int := nv x (zI 29) (zI 33) 3
def miV (x : Int64) : Int := nv x (zI 21) (zI 25) 7
def wV (x : Int64) : Int := fv x (zI 42) 7
theorem V_rng (x : Int64) : (-1 ≤ yV x ∧ yV x ≤ 99) ∧ (-1 ≤ moV x ∧ moV x ≤ 99) ∧ (-1 ≤ dV x ∧ dV x ≤ 99) ∧ (-1 ≤ hV x ∧ hV x ≤ 99) ∧ (-1 ≤ miV x ∧ miV x ≤ 99) ∧ (0 ≤ wV x ∧ wV x ≤ 7) :=
  ⟨nv_rng x _ _ (by omega), nv_rng x _ _ (by omega), nv_rng x _ _ (by omega), nv_rng x _ _ (by omega), nv_rng x _ _ (by omega), fv_rng x _ (by omega)⟩
abbrev okV (x : Int64) : Prop := 0 ≤ yV x ∧ yV x ≤ 99 ∧ 1 ≤ moV x ∧ moV x ≤ 12 ∧ 1 ≤ dV x ∧ dV x ≤ dInM (yV x) (moV x)
def daV (x : Int64) : Int := dYr (yV x) + cum (yV x) (moV x) + dV x - 1
theorem daV_rng {x : Int64} (h : okV x) : 0 ≤ daV x ∧ daV x < 36525 := by
  obtain ⟨a1, a2, a3, a4, a5, a6⟩ := h
  have h1 := cum_succ (y := yV x) a3 a4
  have h2 := cum_le (y := yV x) (a := moV x + 1) (b := 13) (by omega) (by omega) (by omega)
  have h3 := cum_13 (yV x)
  have h4 := cum_rng (yV x) (moV x)
  unfold daV dYr
  grind
theorem X2_minuteIn_v (N : Nat) (x : Int64) : f_X2_minuteIn N x = some (zI (if miV x ≤ 59 then miV x else -1)) := by
  have h := X2_numberAt_v N x (s := zI 21) (s4 := zI 25) (w := zI 3) (m := 7) (by omega) (by decide +kernel) (by decide +kernel)
  have r := (V_rng x).2.2.2.2.1
  rw [f_X2_minuteIn]
  by_cases h1 : miV x ≤ 59
  · rw [if_pos h1]
    unfold miV at *
    simp (maxSteps := 400000) (disch := omega) only [zI_lit, zI_neg, zI_add, zI_sub, zI_mul, zI_div, zI_tn, zI_toL, zL_lit, zL_neg, zL_add, zL_sub, zL_mul, zL_div, zL_toI, zI_ltT, zI_ltF, zI_leT, zI_leF, zI_eqT, zI_eqF, zL_ltT, zL_ltF, zL_leT, zL_leF, zL_eqT, zL_eqF, nleT, nleF, or_self, or_false, false_or, true_or, or_true, not_true_eq_false, not_false_eq_true, ↓reduceIte, Option.bind_some, Bool.false_eq_true, decide_true, decide_false, h]
  · rw [if_neg h1]
    unfold miV at *
    simp (maxSteps := 400000) (disch := omega) only [zI_lit, zI_neg, zI_add, zI_sub, zI_mul, zI_div, zI_tn, zI_toL, zL_lit, zL_neg, zL_add, zL_sub, zL_mul, zL_div, zL_toI, zI_ltT, zI_ltF, zI_leT, zI_leF, zI_eqT, zI_eqF, zL_ltT, zL_ltF, zL_leT, zL_leF, zL_eqT, zL_eqF, nleT, nleF, or_self, or_false, false_or, true_or, or_true, not_true_eq_false, not_false_eq_true, ↓reduceIte, Option.bind_some, Bool.false_eq_true, decide_true, decide_false, h]
theorem X2_hourIn_v (N : Nat) (x : Int64) : f_X2_hourIn N x = some (zI (if hV x ≤ 23 then hV x else -1)) := by
  have h := X2_numberAt_v N x (s := zI 29) (s4 := zI 33) (w := zI 2) (m := 3) (by omega) (by decide +kernel) (by decide +kernel)
  have r := (V_rng x).2.2.2.1
  rw [f_X2_hourIn]
  by_cases h1 : hV x ≤ 23
  · rw [if_pos h1]
    unfold hV at *
    simp (maxSteps := 400000) (disch := omega) only [zI_lit, zI_neg, zI_add, zI_sub, zI_mul, zI_div, zI_tn, zI_toL, zL_lit, zL_neg, zL_add, zL_sub, zL_mul, zL_div, zL_toI, zI_ltT, zI_ltF, zI_leT, zI_leF, zI_eqT, zI_eqF, zL_ltT, zL_ltF, zL_leT, zL_leF, zL_eqT, zL_eqF, nleT, nleF, or_self, or_false, false_or, true_or, or_true, not_true_eq_false, not_false_eq_true, ↓reduceIte, Option.bind_some, Bool.false_eq_true, decide_true, decide_false, h]
  · rw [if_neg h1]
    unfold hV at *
    simp (maxSteps := 400000) (disch := omega) only [zI_lit, zI_neg, zI_add, zI_sub, zI_mul, zI_div, zI_tn, zI_toL, zL_lit, zL_neg, zL_add, zL_sub, zL_mul, zL_div, zL_toI, zI_ltT, zI_ltF, zI_leT, zI_leF, zI_eqT, zI_eqF, zL_ltT, zL_ltF, zL_leT, zL_leF, zL_eqT, zL_eqF, nleT, nleF, or_self, or_false, false_or, true_or, or_true, not_true_eq_false, not_false_eq_true, ↓reduceIte, Option.bind_some, Bool.false_eq_true, decide_true, decide_false, h]
theorem X2_dayIn_v (N : Nat) (x : Int64) : f_X2_dayIn N x = some (zI (if okV x then daV x else -1)) := by
  have h1 := X2_numberAt_v N x (s := zI 50) (s4 := zI 54) (w := zI 4) (m := 15) (by omega) (by decide +kernel) (by decide +kernel)
  have h2 := X2_numberAt_v N x (s := zI 45) (s4 := zI 49) (w := zI 1) (m := 1) (by omega) (by decide +kernel) (by decide +kernel)
  have h3 := X2_numberAt_v N x (s := zI 36) (s4 := zI 40) (w := zI 2) (m := 3) (by omega) (by decide +kernel) (by decide +kernel)
  obtain ⟨r1, r2, r3, r4, r5, r6⟩ := V_rng x
  have d := X1_dayNumber_v N (y := yV x) (m := moV x) (d := dV x) (by omega) (by omega) (by omega)
  rw [f_X2_dayIn]
  by_cases hk : okV x
  · rw [if_pos hk]
    have d1 := d.1 hk
    unfold daV yV moV dV at *
    simp (maxSteps := 400000) (disch := omega) only [zI_lit, zI_neg, zI_add, zI_sub, zI_mul, zI_div, zI_tn, zI_toL, zL_lit, zL_neg, zL_add, zL_sub, zL_mul, zL_div, zL_toI, zI_ltT, zI_ltF, zI_leT, zI_leF, zI_eqT, zI_eqF, zL_ltT, zL_ltF, zL_leT, zL_leF, zL_eqT, zL_eqF, nleT, nleF, or_self, or_false, false_or, true_or, or_true, not_true_eq_false, not_false_eq_true, ↓reduceIte, Option.bind_some, Bool.false_eq_true, decide_true, decide_false, h1, h2, h3, d1]
  · rw [if_neg hk]
    have d1 := d.2 hk
    unfold yV moV dV at *
    simp (maxSteps := 400000) (disch := omega) only [zI_lit, zI_neg, zI_add, zI_sub, zI_mul, zI_div, zI_tn, zI_toL, zL_lit, zL_neg, zL_add, zL_sub, zL_mul, zL_div, zL_toI, zI_ltT, zI_ltF, zI_leT, zI_leF, zI_eqT, zI_eqF, zL_ltT, zL_ltF, zL_leT, zL_leF, zL_eqT, zL_eqF, nleT, nleF, or_self, or_false, false_or, true_or, or_true, not_true_eq_false, not_false_eq_true, ↓reduceIte, Option.bind_some, Bool.false_eq_true, decide_true, decide_false, h1, h2, h3, d1]
theorem X2_hasWeekdayOf_v (N : Nat) (x : Int64) {d : Int} (h1 : 0 ≤ d) (h2 : d < 36525) : f_X2_hasWeekdayOf N x (zI d) = some (decide (wV x = (d + 5) % 7 + 1)) := by
  have e2 : (jushr x 42).toInt32 &&& (7 : Int32) = zI (wV x) := zI_self ((jushr x 42).toInt32 &&& nI 7)
  have r6 := (V_rng x).2.2.2.2.2
  rw [f_X2_hasWeekdayOf, X1_weekdayOf_v N h1 h2, e2, Option.bind_some]
  by_cases h : wV x = (d + 5) % 7 + 1
  · rw [decide_eq_true h]
    simp (maxSteps := 400000) (disch := omega) only [zI_lit, zI_neg, zI_add, zI_sub, zI_mul, zI_div, zI_tn, zI_toL, zL_lit, zL_neg, zL_add, zL_sub, zL_mul, zL_div, zL_toI, zI_ltT, zI_ltF, zI_leT, zI_leF, zI_eqT, zI_eqF, zL_ltT, zL_ltF, zL_leT, zL_leF, zL_eqT, zL_eqF, nleT, nleF, or_self, or_false, false_or, true_or, or_true, not_true_eq_false, not_false_eq_true, ↓reduceIte, Option.bind_some, Bool.false_eq_true, decide_true, decide_false]
  · rw [decide_eq_false h]
    simp (maxSteps := 400000) (disch := omega) only [zI_lit, zI_neg, zI_add, zI_sub, zI_mul, zI_div, zI_tn, zI_toL, zL_lit, zL_neg, zL_add, zL_sub, zL_mul, zL_div, zL_toI, zI_ltT, zI_ltF, zI_leT, zI_leF, zI_eqT, zI_eqF, zL_ltT, zL_ltF, zL_leT, zL_leF, zL_eqT, zL_eqF, nleT, nleF, or_self, or_false, false_or, true_or, or_true, not_true_eq_false, not_false_eq_true, ↓reduceIte, Option.bind_some, Bool.false_eq_true, decide_true, decide_false]
def fltT (x : Int64) : Int := if miV x = -1 ∨ 59 < miV x ∨ hV x = -1 ∨ 23 < hV x ∨ ¬ okV x then 6 else if wV x = (daV x + 5) % 7 + 1 then 0 else 7
def fltB (x : Int64) : Int := if lb x 0 = true ∨ lb x 20 = false then 2 else if oddB x 21 8 = true then 3 else if oddB x 29 7 = true then 4 else if oddB x 36 23 = true then 5 else fltT x
def fltS (x d : Int64) : Int := if d &&& 576460752302899201 = 0 then fltB x else 1
def numV (x : Int64) : Int := 1440 * daV x + 60 * hV x + miV x
theorem fltB_0 {x : Int64} (h : fltB x = 0) : okV x ∧ 0 ≤ hV x ∧ hV x ≤ 23 ∧ 0 ≤ miV x ∧ miV x ≤ 59 ∧ wV x = (daV x + 5) % 7 + 1 := by
  obtain ⟨r1, r2, r3, r4, r5, r6⟩ := V_rng x
  unfold fltB fltT at h
  grind (splits := 20)
theorem numV_rng {x : Int64} (h : fltB x = 0) : 0 ≤ numV x ∧ numV x < 52596000 := by
  obtain ⟨a1, a2, a3, a4, a5, a6⟩ := fltB_0 h
  have := daV_rng a1
  unfold numV
  omega
theorem fltT_cases (x : Int64) : fltT x = 6 ∨ fltT x = 0 ∨ fltT x = 7 := by unfold fltT; grind
theorem fltB_rng (x : Int64) : 0 ≤ fltB x ∧ fltB x ≤ 7 ∧ fltB x ≠ 1 := by
  have := fltT_cases x
  unfold fltB
  grind
theorem X2_faultOf_t (N : Nat) (x d : Int64) (n : Nat) : l_X2_faultOf_36 N x d (n + 1) (zI 3) = some (zI (fltT x)) := by
  obtain ⟨r1, r2, r3, r4, r5, r6⟩ := V_rng x
  have m := X2_minuteIn_v N x
  have hh := X2_hourIn_v N x
  have dd := X2_dayIn_v N x
  rw [l_X2_faultOf_36]
  unfold fltT
  by_cases a : miV x = -1 ∨ 59 < miV x
  · rw [show (if miV x ≤ 59 then miV x else -1) = -1 by grind] at m
    rw [if_pos (show miV x = -1 ∨ 59 < miV x ∨ hV x = -1 ∨ 23 < hV x ∨ ¬ okV x from a.elim Or.inl (fun h => Or.inr (Or.inl h)))]
    simp (maxSteps := 400000) (disch := omega) only [zI_lit, zI_neg, zI_add, zI_sub, zI_mul, zI_div, zI_tn, zI_toL, zL_lit, zL_neg, zL_add, zL_sub, zL_mul, zL_div, zL_toI, zI_ltT, zI_ltF, zI_leT, zI_leF, zI_eqT, zI_eqF, zL_ltT, zL_ltF, zL_leT, zL_leF, zL_eqT, zL_eqF, nleT, nleF, or_self, or_false, false_or, true_or, or_true, not_true_eq_false, not_false_eq_true, ↓reduceIte, Option.bind_some, Bool.false_eq_true, decide_true, decide_false, m, hh, dd]
  · rw [if_pos (show miV x ≤ 59 by omega)] at m
    by_cases b : hV x = -1 ∨ 23 < hV x
    · rw [show (if hV x ≤ 23 then hV x else -1) = -1 by grind] at hh
      rw [if_pos (show miV x = -1 ∨ 59 < miV x ∨ hV x = -1 ∨ 23 < hV x ∨ ¬ okV x from Or.inr (Or.inr (b.elim Or.inl (fun h => Or.inr (Or.inl h)))))]
      simp (maxSteps := 400000) (disch := omega) only [zI_lit, zI_neg, zI_add, zI_sub, zI_mul, zI_div, zI_tn, zI_toL, zL_lit, zL_neg, zL_add, zL_sub, zL_mul, zL_div, zL_toI, zI_ltT, zI_ltF, zI_leT, zI_leF, zI_eqT, zI_eqF, zL_ltT, zL_ltF, zL_leT, zL_leF, zL_eqT, zL_eqF, nleT, nleF, or_self, or_false, false_or, true_or, or_true, not_true_eq_false, not_false_eq_true, ↓reduceIte, Option.bind_some, Bool.false_eq_true, decide_true, decide_false, m, hh, dd]
    · rw [if_pos (show hV x ≤ 23 by omega)] at hh
      by_cases c : okV x
      · have rr := daV_rng c
        have w := X2_hasWeekdayOf_v N x rr.1 rr.2
        rw [if_pos c] at dd
        rw [if_neg (show ¬ (miV x = -1 ∨ 59 < miV x ∨ hV x = -1 ∨ 23 < hV x ∨ ¬ okV x) from fun z => by rcases z with z | z | z | z | z; exact a (Or.inl z); exact a (Or.inr z); exact b (Or.inl z); exact b (Or.inr z); exact z c)]
        by_cases e : wV x = (daV x + 5) % 7 + 1
        · rw [decide_eq_true e] at w
          rw [if_pos e]
          simp (maxSteps := 400000) (disch := omega) only [zI_lit, zI_neg, zI_add, zI_sub, zI_mul, zI_div, zI_tn, zI_toL, zL_lit, zL_neg, zL_add, zL_sub, zL_mul, zL_div, zL_toI, zI_ltT, zI_ltF, zI_leT, zI_leF, zI_eqT, zI_eqF, zL_ltT, zL_ltF, zL_leT, zL_leF, zL_eqT, zL_eqF, nleT, nleF, or_self, or_false, false_or, true_or, or_true, not_true_eq_false, not_false_eq_true, ↓reduceIte, Option.bind_some, Bool.false_eq_true, decide_true, decide_false, m, hh, dd, w]
        · rw [decide_eq_false e] at w
          rw [if_neg e]
          simp (maxSteps := 400000) (disch := omega) only [zI_lit, zI_neg, zI_add, zI_sub, zI_mul, zI_div, zI_tn, zI_toL, zL_lit, zL_neg, zL_add, zL_sub, zL_mul, zL_div, zL_toI, zI_ltT, zI_ltF, zI_leT, zI_leF, zI_eqT, zI_eqF, zL_ltT, zL_ltF, zL_leT, zL_leF, zL_eqT, zL_eqF, nleT, nleF, or_self, or_false, false_or, true_or, or_true, not_true_eq_false, not_false_eq_true, ↓reduceIte, Option.bind_some, Bool.false_eq_true, decide_true, decide_false, m, hh, dd, w]
      · rw [if_neg c] at dd
        rw [if_pos (show miV x = -1 ∨ 59 < miV x ∨ hV x = -1 ∨ 23 < hV x ∨ ¬ okV x from Or.inr (Or.inr (Or.inr (Or.inr c))))]
        simp (maxSteps := 400000) (disch := omega) only [zI_lit, zI_neg, zI_add, zI_sub, zI_mul, zI_div, zI_tn, zI_toL, zL_lit, zL_neg, zL_add, zL_sub, zL_mul, zL_div, zL_toI, zI_ltT, zI_ltF, zI_leT, zI_leF, zI_eqT, zI_eqF, zL_ltT, zL_ltF, zL_leT, zL_leF, zL_eqT, zL_eqF, nleT, nleF, or_self, or_false, false_or, true_or, or_true, not_true_eq_false, not_false_eq_true, ↓reduceIte, Option.bind_some, Bool.false_eq_true, decide_true, decide_false, m, hh, dd]
theorem X2_faultOf_s (N : Nat) (x d : Int64) (n : Nat) {b c : Int} (hb : b = 0 ∨ b = 1 ∨ b = 2) (hc : b + 1 = c) : l_X2_faultOf_36 N x d (n + 1) (zI b) = if oddB x (bS b) (bN b) = true then some (zI (3 + b)) else l_X2_faultOf_36 N x d n (zI c) := by
  have o := X2_isOdd_v N x hb
  rw [l_X2_faultOf_36]
  subst hc
  cases h2 : oddB x (bS b) (bN b) <;> rw [h2] at o
  · rw [ifb0]
    simp (maxSteps := 400000) (disch := omega) only [zI_lit, zI_neg, zI_add, zI_sub, zI_mul, zI_div, zI_tn, zI_toL, zL_lit, zL_neg, zL_add, zL_sub, zL_mul, zL_div, zL_toI, zI_ltT, zI_ltF, zI_leT, zI_leF, zI_eqT, zI_eqF, zL_ltT, zL_ltF, zL_leT, zL_leF, zL_eqT, zL_eqF, nleT, nleF, or_self, or_false, false_or, true_or, or_true, not_true_eq_false, not_false_eq_true, ↓reduceIte, Option.bind_some, Bool.false_eq_true, decide_true, decide_false, o]
  · rw [ifb1]
    simp (maxSteps := 400000) (disch := omega) only [zI_lit, zI_neg, zI_add, zI_sub, zI_mul, zI_div, zI_tn, zI_toL, zL_lit, zL_neg, zL_add, zL_sub, zL_mul, zL_div, zL_toI, zI_ltT, zI_ltF, zI_leT, zI_leF, zI_eqT, zI_eqF, zL_ltT, zL_ltF, zL_leT, zL_leF, zL_eqT, zL_eqF, nleT, nleF, or_self, or_false, false_or, true_or, or_true, not_true_eq_false, not_false_eq_true, ↓reduceIte, Option.bind_some, Bool.false_eq_true, decide_true, decide_false, o]
theorem X2_faultOf_v {N : Nat} (hN : 700 ≤ N) (x d : Int64) : f_X2_faultOf N x d = some (zI (fltS x d)) := by
  obtain ⟨n, rfl⟩ : ∃ k, N = k + 1 + 1 + 1 + 1 := ⟨N - 4, by omega⟩
  have b20 : ((jushr x 20) &&& (1 : Int64) = 0) = (lb x 20 = false) := jb_0 x (n := 20) (by decide)
  rw [f_X2_faultOf]
  unfold fltS
  by_cases h : d &&& 576460752302899201 = 0
  · rw [if_pos h, if_pos h, show (0 : Int32) = zI 0 from rfl, X2_faultOf_s _ x d _ (c := 1) (by omega) (by omega), X2_faultOf_s _ x d _ (c := 2) (by omega) (by omega), X2_faultOf_s _ x d _ (c := 3) (by omega) (by omega), X2_faultOf_t]
    rw [show bS 0 = 21 from rfl, show bN 0 = 8 from rfl, show bS 1 = 29 from rfl, show bN 1 = 7 from rfl, show bS 2 = 36 from rfl, show bN 2 = 23 from rfl]
    simp only [and1 x, b20]
    unfold fltB
    cases lb x 0 <;> cases lb x 20 <;> cases oddB x 21 8 <;> cases oddB x 29 7 <;> cases oddB x 36 23 <;> simp <;> rfl
  · rw [if_neg h, if_neg h]
    rfl
/-- a model's state but for what the search for a way leaves in it -/
def Sc (u v : Ob) : Prop := (∀ k, k ≠ 8 → v.1 k = u.1 k) ∧ (∀ k, k ≠ 19 → v.2.1 k = u.2.1 k) ∧ v.2.2 = u.2.2
theorem Sc_rfl (u : Ob) : Sc u u := ⟨fun _ _ => rfl, fun _ _ => rfl, rfl⟩
theorem Sc_trans {u v w : Ob} (h1 : Sc u v) (h2 : Sc v w) : Sc u w := ⟨fun k hk => (h2.1 k hk).trans (h1.1 k hk), fun k hk => (h2.2.1 k hk).trans (h1.2.1 k hk), h2.2.2.trans h1.2.2⟩
theorem Sc_8 (u : Ob) (x : Int32) : Sc u (oi u 8 x) := ⟨fun k hk => va_up_ne _ _ hk, fun _ _ => rfl, rfl⟩
theorem Sc_19 (u : Ob) (x : Int64) : Sc u (ol u 19 x) := ⟨fun _ _ => rfl, fun k hk => ol_n u x hk, rfl⟩
theorem mv_ok {n : Int} (h : n ≠ -1) : mv n = n := if_neg h
theorem mv_bad : mv (-1) = 999 := if_pos rfl
theorem isd_v (x : Int64) : (2000 ≤ 2000 + mv (yV x) ∧ 2000 + mv (yV x) ≤ 2099 ∧ 1 ≤ mv (moV x) ∧ mv (moV x) ≤ 12 ∧ 1 ≤ mv (dV x) ∧ mv (dV x) ≤ dInM (2000 + mv (yV x) - 2000) (mv (moV x))) ↔ okV x := by
  obtain ⟨r1, r2, r3, r4, r5, r6⟩ := V_rng x
  have r := dInM_rng (2000 + mv (yV x) - 2000) (mv (moV x))
  by_cases h1 : yV x = -1
  · rw [h1, mv_bad]; omega
  · rw [mv_ok h1] at *
    rw [show 2000 + yV x - 2000 = yV x by omega] at *
    by_cases h2 : moV x = -1
    · rw [h2, mv_bad]; omega
    · rw [mv_ok h2] at *
      by_cases h3 : dV x = -1
      · rw [h3, mv_bad]; omega
      · rw [mv_ok h3] at *
        omega
theorem X6_faultOf_v {N : Nat} (hN : 700 ≤ N) (x d : Int64) (u : Ob) : ∃ v, f_X6_faultOf N x d u = some (zI (fltS x d), v) ∧ Sc u v ∧ v.2.1 = u.2.1 ∧ (fltS x d = 0 → v.1 8 = zI (numV x)) := by
  obtain ⟨r1, r2, r3, r4, r5, r6⟩ := V_rng x
  have p0 : f_X6_has N x (zI 0) = some (lb x 0) := X6_has_v N x (k := 0) (by omega) (by omega)
  have p20 : f_X6_has N x (zI 20) = some (lb x 20) := X6_has_v N x (k := 20) (by omega) (by omega)
  have o0 : f_X6_isOdd N x (zI 21) (zI 28) = some (oddB x 21 8) := X6_isOdd_v hN x (a := 21) (b := 28) (by omega) (by omega) (by omega)
  have o1 : f_X6_isOdd N x (zI 29) (zI 35) = some (oddB x 29 7) := X6_isOdd_v hN x (a := 29) (b := 35) (by omega) (by omega) (by omega)
  have o2 : f_X6_isOdd N x (zI 36) (zI 58) = some (oddB x 36 23) := X6_isOdd_v hN x (a := 36) (b := 58) (by omega) (by omega) (by omega)
  have y : f_X6_valueOf N x (zI 50) (zI 4) = some (zI (mv (yV x))) := X6_valueOf_v N x (s := zI 50) (s4 := zI 54) (w := zI 4) (m := 15) (by omega) (by decide +kernel) (by decide +kernel)
  have mo : f_X6_valueOf N x (zI 45) (zI 1) = some (zI (mv (moV x))) := X6_valueOf_v N x (s := zI 45) (s4 := zI 49) (w := zI 1) (m := 1) (by omega) (by decide +kernel) (by decide +kernel)
  have dd : f_X6_valueOf N x (zI 36) (zI 2) = some (zI (mv (dV x))) := X6_valueOf_v N x (s := zI 36) (s4 := zI 40) (w := zI 2) (m := 3) (by omega) (by decide +kernel) (by decide +kernel)
  have hh : f_X6_valueOf N x (zI 29) (zI 2) = some (zI (mv (hV x))) := X6_valueOf_v N x (s := zI 29) (s4 := zI 33) (w := zI 2) (m := 3) (by omega) (by decide +kernel) (by decide +kernel)
  have mi : f_X6_valueOf N x (zI 21) (zI 3) = some (zI (mv (miV x))) := X6_valueOf_v N x (s := zI 21) (s4 := zI 25) (w := zI 3) (m := 7) (by omega) (by decide +kernel) (by decide +kernel)
  have wv : f_X6_ones N x (zI 42) (zI 3) = some (zI (wV x)) := by
    rw [f_X6_ones, show ((1 : Int32) <<< (zI 3 &&& 31)) - 1 = nI 7 by decide +kernel]
    exact congrArg some (zI_self ((jushr x (zI 42)).toInt32 &&& nI 7))
  have isd := X6_isDay_v N (y := 2000 + mv (yV x)) (m := mv (moV x)) (d := mv (dV x)) (by unfold mv; grind) (by unfold mv; grind) (by unfold mv; grind)
  have isd : f_X6_isDay N (zI (2000 + mv (yV x))) (zI (mv (moV x))) (zI (mv (dV x))) = some (decide (okV x)) := isd.trans (congrArg some (decide_eq_decide.mpr (isd_v x)))
  rw [f_X6_faultOf]
  unfold fltS
  by_cases h : d &&& 576460752302899201 = 0
  · rw [if_pos h, if_pos h]
    unfold fltB
    cases a0 : lb x 0
    · cases a1 : lb x 20
      · exact ⟨u, by rw [a0] at p0; rw [a1] at p20; simp (maxSteps := 400000) (disch := omega) only [zI_lit, zI_neg, zI_add, zI_sub, zI_mul, zI_div, zI_tn, zI_toL, zL_lit, zL_neg, zL_add, zL_sub, zL_mul, zL_div, zL_toI, zI_ltT, zI_ltF, zI_leT, zI_leF, zI_eqT, zI_eqF, zL_ltT, zL_ltF, zL_leT, zL_leF, zL_eqT, zL_eqF, nleT, nleF, or_self, or_false, false_or, true_or, or_true, not_true_eq_false, not_false_eq_true, ↓reduceIte, Option.bind_some, Bool.false_eq_true, decide_true, decide_false, p0, p20], Sc_rfl u, rfl, fun h => by simp at h⟩
      · rw [a0] at p0
        rw [a1] at p20
        cases a2 : oddB x 21 8
        · rw [a2] at o0
          cases a3 : oddB x 29 7
          · rw [a3] at o1
            cases a4 : oddB x 36 23
            · rw [a4] at o2
              rw [if_neg (by simp), if_neg (by simp), if_neg (by simp), if_neg (by simp)]
              unfold fltT
              by_cases b1 : miV x = -1 ∨ 59 < miV x
              · have g : 59 < mv (miV x) := by unfold mv; grind
                have g2 : mv (miV x) < 1000 := by unfold mv; grind
                rw [if_pos (show miV x = -1 ∨ 59 < miV x ∨ hV x = -1 ∨ 23 < hV x ∨ ¬ okV x from b1.elim Or.inl (fun h => Or.inr (Or.inl h)))]
                exact ⟨u, by simp (maxSteps := 400000) (disch := omega) only [zI_lit, zI_neg, zI_add, zI_sub, zI_mul, zI_div, zI_tn, zI_toL, zL_lit, zL_neg, zL_add, zL_sub, zL_mul, zL_div, zL_toI, zI_ltT, zI_ltF, zI_leT, zI_leF, zI_eqT, zI_eqF, zL_ltT, zL_ltF, zL_leT, zL_leF, zL_eqT, zL_eqF, nleT, nleF, or_self, or_false, false_or, true_or, or_true, not_true_eq_false, not_false_eq_true, ↓reduceIte, Option.bind_some, Bool.false_eq_true, decide_true, decide_false, p0, p20, o0, o1, o2, y, mo, dd, hh, mi], Sc_rfl u, rfl, fun h => by omega⟩
              · have g : mv (miV x) = miV x := mv_ok (by omega)
                rw [g] at mi
                by_cases b2 : hV x = -1 ∨ 23 < hV x
                · have g : 23 < mv (hV x) := by unfold mv; grind
                  have g2 : mv (hV x) < 1000 := by unfold mv; grind
                  rw [if_pos (show miV x = -1 ∨ 59 < miV x ∨ hV x = -1 ∨ 23 < hV x ∨ ¬ okV x from Or.inr (Or.inr (b2.elim Or.inl (fun h => Or.inr (Or.inl h)))))]
                  exact ⟨u, by simp (maxSteps := 400000) (disch := omega) only [zI_lit, zI_neg, zI_add, zI_sub, zI_mul, zI_div, zI_tn, zI_toL, zL_lit, zL_neg, zL_add, zL_sub, zL_mul, zL_div, zL_toI, zI_ltT, zI_ltF, zI_leT, zI_leF, zI_eqT, zI_eqF, zL_ltT, zL_ltF, zL_leT, zL_leF, zL_eqT, zL_eqF, nleT, nleF, or_self, or_false, false_or, true_or, or_true, not_true_eq_false, not_false_eq_true, ↓reduceIte, Option.bind_some, Bool.false_eq_true, decide_true, decide_false, p0, p20, o0, o1, o2, y, mo, dd, hh, mi], Sc_rfl u, rfl, fun h => by omega⟩
                · have g : mv (hV x) = hV x := mv_ok (by omega)
                  rw [g] at hh
                  by_cases c : okV x
                  · obtain ⟨c1, c2, c3, c4, c5, c6⟩ := id c
                    rw [decide_eq_true c, mv_ok (by omega), mv_ok (show moV x ≠ -1 by omega), mv_ok (show dV x ≠ -1 by omega)] at isd
                    rw [mv_ok (by omega)] at y mo dd
                    have nf := X6_numberFor_v hN c (hV x) (miV x)
                    rw [show 1440 * (dYr (yV x) + cum (yV x) (moV x) + dV x - 1) + 60 * hV x + miV x = numV x from rfl] at nf
                    have dr := daV_rng c
                    have nr : 0 ≤ numV x ∧ numV x < 52596000 := by unfold numV; omega
                    have pw := X6_partOf_v hN nr.1 nr.2 (w := 5) (by omega) (by omega)
                    rw [show partS (numV x) 5 = (daV x + 5) % 7 + 1 by
                      show (numV x / 1440 + 5) % 7 + 1 = _
                      rw [show numV x / 1440 = daV x by unfold numV; omega]] at pw
                    rw [if_neg (show ¬ (miV x = -1 ∨ 59 < miV x ∨ hV x = -1 ∨ 23 < hV x ∨ ¬ okV x) from fun z => by rcases z with z | z | z | z | z; exact b1 (Or.inl z); exact b1 (Or.inr z); exact b2 (Or.inl z); exact b2 (Or.inr z); exact z c)]
                    by_cases e : wV x = (daV x + 5) % 7 + 1
                    · rw [if_pos e]
                      exact ⟨oi u 8 (zI (numV x)), by simp (maxSteps := 400000) (disch := omega) only [zI_lit, zI_neg, zI_add, zI_sub, zI_mul, zI_div, zI_tn, zI_toL, zL_lit, zL_neg, zL_add, zL_sub, zL_mul, zL_div, zL_toI, zI_ltT, zI_ltF, zI_leT, zI_leF, zI_eqT, zI_eqF, zL_ltT, zL_ltF, zL_leT, zL_leF, zL_eqT, zL_eqF, nleT, nleF, or_self, or_false, false_or, true_or, or_true, not_true_eq_false, not_false_eq_true, ↓reduceIte, Option.bind_some, Bool.false_eq_true, decide_true, decide_false, p0, p20, o0, o1, o2, y, mo, dd, hh, mi, isd, nf, wv, pw], Sc_8 u _, rfl, fun _ => oi_s u 8 _⟩
                    · rw [if_neg e]
                      exact ⟨oi u 8 (zI (numV x)), by simp (maxSteps := 400000) (disch := omega) only [zI_lit, zI_neg, zI_add, zI_sub, zI_mul, zI_div, zI_tn, zI_toL, zL_lit, zL_neg, zL_add, zL_sub, zL_mul, zL_div, zL_toI, zI_ltT, zI_ltF, zI_leT, zI_leF, zI_eqT, zI_eqF, zL_ltT, zL_ltF, zL_leT, zL_leF, zL_eqT, zL_eqF, nleT, nleF, or_self, or_false, false_or, true_or, or_true, not_true_eq_false, not_false_eq_true, ↓reduceIte, Option.bind_some, Bool.false_eq_true, decide_true, decide_false, p0, p20, o0, o1, o2, y, mo, dd, hh, mi, isd, nf, wv, pw], Sc_8 u _, rfl, fun h => by omega⟩
                  · rw [decide_eq_false c] at isd
                    have q1 : -1 ≤ mv (yV x) ∧ mv (yV x) ≤ 999 := by unfold mv; grind
                    rw [if_pos (show miV x = -1 ∨ 59 < miV x ∨ hV x = -1 ∨ 23 < hV x ∨ ¬ okV x from Or.inr (Or.inr (Or.inr (Or.inr c))))]
                    exact ⟨u, by simp (maxSteps := 400000) (disch := omega) only [zI_lit, zI_neg, zI_add, zI_sub, zI_mul, zI_div, zI_tn, zI_toL, zL_lit, zL_neg, zL_add, zL_sub, zL_mul, zL_div, zL_toI, zI_ltT, zI_ltF, zI_leT, zI_leF, zI_eqT, zI_eqF, zL_ltT, zL_ltF, zL_leT, zL_leF, zL_eqT, zL_eqF, nleT, nleF, or_self, or_false, false_or, true_or, or_true, not_true_eq_false, not_false_eq_true, ↓reduceIte, Option.bind_some, Bool.false_eq_true, decide_true, decide_false, p0, p20, o0, o1, o2, y, mo, dd, hh, mi, isd], Sc_rfl u, rfl, fun h => by omega⟩
            · rw [a4] at o2
              exact ⟨u, by simp (maxSteps := 400000) (disch := omega) only [zI_lit, zI_neg, zI_add, zI_sub, zI_mul, zI_div, zI_tn, zI_toL, zL_lit, zL_neg, zL_add, zL_sub, zL_mul, zL_div, zL_toI, zI_ltT, zI_ltF, zI_leT, zI_leF, zI_eqT, zI_eqF, zL_ltT, zL_ltF, zL_leT, zL_leF, zL_eqT, zL_eqF, nleT, nleF, or_self, or_false, false_or, true_or, or_true, not_true_eq_false, not_false_eq_true, ↓reduceIte, Option.bind_some, Bool.false_eq_true, decide_true, decide_false, p0, p20, o0, o1, o2, Bool.true_eq_false], Sc_rfl u, rfl, fun h => by simp at h⟩
          · rw [a3] at o1
            exact ⟨u, by simp (maxSteps := 400000) (disch := omega) only [zI_lit, zI_neg, zI_add, zI_sub, zI_mul, zI_div, zI_tn, zI_toL, zL_lit, zL_neg, zL_add, zL_sub, zL_mul, zL_div, zL_toI, zI_ltT, zI_ltF, zI_leT, zI_leF, zI_eqT, zI_eqF, zL_ltT, zL_ltF, zL_leT, zL_leF, zL_eqT, zL_eqF, nleT, nleF, or_self, or_false, false_or, true_or, or_true, not_true_eq_false, not_false_eq_true, ↓reduceIte, Option.bind_some, Bool.false_eq_true, decide_true, decide_false, p0, p20, o0, o1, Bool.true_eq_false], Sc_rfl u, rfl, fun h => by simp at h⟩
        · rw [a2] at o0
          exact ⟨u, by simp (maxSteps := 400000) (disch := omega) only [zI_lit, zI_neg, zI_add, zI_sub, zI_mul, zI_div, zI_tn, zI_toL, zL_lit, zL_neg, zL_add, zL_sub, zL_mul, zL_div, zL_toI, zI_ltT, zI_ltF, zI_leT, zI_leF, zI_eqT, zI_eqF, zL_ltT, zL_ltF, zL_leT, zL_leF, zL_eqT, zL_eqF, nleT, nleF, or_self, or_false, false_or, true_or, or_true, not_true_eq_false, not_false_eq_true, ↓reduceIte, Option.bind_some, Bool.false_eq_true, decide_true, decide_false, p0, p20, o0, Bool.true_eq_false], Sc_rfl u, rfl, fun h => by simp at h⟩
    · rw [a0] at p0
      exact ⟨u, by simp (maxSteps := 400000) (disch := omega) only [zI_lit, zI_neg, zI_add, zI_sub, zI_mul, zI_div, zI_tn, zI_toL, zL_lit, zL_neg, zL_add, zL_sub, zL_mul, zL_div, zL_toI, zI_ltT, zI_ltF, zI_leT, zI_leF, zI_eqT, zI_eqF, zL_ltT, zL_ltF, zL_leT, zL_leF, zL_eqT, zL_eqF, nleT, nleF, or_self, or_false, false_or, true_or, or_true, not_true_eq_false, not_false_eq_true, ↓reduceIte, Option.bind_some, Bool.false_eq_true, decide_true, decide_false, p0, true_or], Sc_rfl u, rfl, fun h => by simp at h⟩
  · rw [if_neg h, if_neg h]
    exact ⟨u, rfl, Sc_rfl u, rfl, fun h => by omega⟩
