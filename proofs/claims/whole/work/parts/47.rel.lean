/-! a receiver and a row of the reference -/
def stOk (st : Nat → Int) : Prop := (10 ≤ st 0 ∧ st 0 ≤ 200) ∧ (2 ≤ st 1 ∧ st 1 ≤ 5) ∧ (3 ≤ st 2 ∧ st 2 ≤ 8) ∧ (0 ≤ st 3 ∧ st 3 ≤ 3) ∧ (-500 ≤ st 4 ∧ st 4 ≤ 500)
def RS (u : Ob) (a : Nat → Int64) (st : Nat → Int) : Prop := stOk st ∧ ∀ i, i < 5 → u.2.2.1 0 i = zI (st i) ∧ a i = zL (st i)
def RK (u : Ob) (a : Nat → Int64) (pos mark bef ign : Int) : Prop := (u.1 1 = zI bef ∧ a 7 = zL bef) ∧ (u.1 2 = zI mark ∧ a 6 = zL mark) ∧ (u.1 3 = zI ign ∧ a 11 = zL ign) ∧ (u.1 4 = zI pos ∧ a 5 = zL pos) ∧ -1 ≤ pos ∧ -1 ≤ mark ∧ mark ≤ bef ∧ bef ≤ 2000000000 ∧ (mark = -1 → pos = -1)
def RC (u : Ob) (a : Nat → Int64) (pos len : Int) : Prop := pos ≠ -1 → (u.1 5 = zI len ∧ a 8 = zL len) ∧ (len = 60 ∨ len = 61) ∧ pos ≤ len - 2 ∧ ∀ i : Nat, i < 64 → lb (u.2.1 6) i = lb (a 14) i ∧ lb (u.2.1 7) i = lb (a 15) i ∧ (pos < i ∨ 59 ≤ i → lb (a 14) i = false ∧ lb (a 15) i = false)
def RF (u : Ob) (a : Nat → Int64) (F : Nat) (W : Int) : Prop := FrC u a F ∧ (F : Int) ≤ W ∧ a 12 = zL F
def RT (u : Ob) (a : Nat → Int64) (told votd : Int) : Prop := (u.1 12 = zI told ∧ a 9 = zL told) ∧ (u.1 13 = zI votd ∧ a 10 = zL votd) ∧ -1 ≤ told ∧ told ≤ 52596010 ∧ 0 ≤ votd ∧ votd ≤ 8
def RX (u : Ob) (a : Nat → Int64) (X : Nat) (xm xt : Nat → Int) : Prop := (u.1 16 = zI X ∧ a 13 = zL X) ∧ X ≤ 8 ∧ ∀ k, k < X → (u.2.2.1 14 k = zI (xm k) ∧ a (32 + 2 * k) = zL (xm k)) ∧ (u.2.2.1 15 k = zI (xt k) ∧ a (33 + 2 * k) = zL (xt k)) ∧ 0 ≤ xm k ∧ xm k ≤ 52596010 ∧ -100000 ≤ xt k ∧ xt k ≤ 2000000000
def RI (pos mark : Int) (X : Nat) (xt : Nat → Int) : Prop := (1 ≤ X → (pos = -1 → xt 0 ≤ mark) ∧ (pos ≠ -1 → xt 0 ≤ mark - 800 * pos)) ∧ (2 ≤ X → xt 1 < xt 0)
def RR (u : Ob) (a : Nat → Int64) : Prop := ∃ (st : Nat → Int) (pos mark bef ign len : Int) (F : Nat) (told votd : Int) (X : Nat) (xm xt : Nat → Int), RS u a st ∧ RK u a pos mark bef ign ∧ RC u a pos len ∧ RF u a F (st 2) ∧ RT u a told votd ∧ RX u a X xm xt ∧ RI pos mark X xt
theorem RS_up {u v : Ob} {a b : Nat → Int64} {st : Nat → Int} (h : RS u a st) (h1 : v.2.2.1 0 = u.2.2.1 0) (h2 : ∀ i, i < 5 → b i = a i) : RS v b st := ⟨h.1, fun i hi => by rw [h1, h2 i hi]; exact h.2 i hi⟩
theorem RC_up {u v : Ob} {a b : Nat → Int64} {pos len : Int} (h : RC u a pos len) (h1 : v.1 5 = u.1 5) (h2 : v.2.1 = u.2.1) (h3 : b 8 = a 8) (h4 : b 14 = a 14) (h5 : b 15 = a 15) : RC v b pos len := fun hp => by rw [h1, h2, h3, h4, h5]; exact h hp
theorem RF_up {u v : Ob} {a b : Nat → Int64} {F : Nat} {W : Int} (h : RF u a F W) (h1 : v.1 11 = u.1 11) (h2 : v.2.2.2 = u.2.2.2) (h3 : v.2.2.1 10 = u.2.2.1 10) (h4 : ∀ k, 16 ≤ k → k < 32 → b k = a k) (h5 : b 12 = a 12) : RF v b F W := by
  obtain ⟨⟨f1, f2, f3⟩, g, k⟩ := h
  refine ⟨⟨by rw [h1]; exact f1, f2, fun k hk => ?_⟩, g, by rw [h5]; exact k⟩
  rw [h2, h3, h4 _ (by omega) (by omega), h4 _ (by omega) (by omega)]
  exact f3 k hk
theorem RT_up {u v : Ob} {a b : Nat → Int64} {told votd : Int} (h : RT u a told votd) (h1 : v.1 12 = u.1 12) (h2 : v.1 13 = u.1 13) (h3 : b 9 = a 9) (h4 : b 10 = a 10) : RT v b told votd := by
  unfold RT
  rw [h1, h2, h3, h4]
  exact h
theorem RX_up {u v : Ob} {a b : Nat → Int64} {X : Nat} {xm xt : Nat → Int} (h : RX u a X xm xt) (h1 : v.1 16 = u.1 16) (h2 : v.2.2.1 14 = u.2.2.1 14) (h3 : v.2.2.1 15 = u.2.2.1 15) (h4 : b 13 = a 13) (h5 : ∀ k, 32 ≤ k → k < 48 → b k = a k) : RX v b X xm xt := by
  obtain ⟨g1, g2, g3⟩ := h
  refine ⟨by rw [h1, h4]; exact g1, g2, fun k hk => ?_⟩
  rw [h2, h3, h5 _ (by omega) (by omega), h5 _ (by omega) (by omega)]
  exact g3 k hk
/-- a row of the reference's, and what a pulse asks of it -/
theorem X4_secs_v (N : Nat) {w : Ob} {mark t : Int} (h2 : w.1 2 = zI mark) (h3 : -1 ≤ mark) (h4 : mark < t) (h5 : t ≤ 2000000000) : f_X4_secondsSinceMark N (zI t) w = some (zI (if mark = -1 then 0 else (t - mark + 500) / 1000)) := by
  rw [f_X4_secondsSinceMark, h2]
  by_cases g : mark = -1
  · rw [ifP (zI_m1 (by omega) (by omega)) g, if_pos g]
    rfl
  · rw [ifN (zI_m1 (by omega) (by omega)) g, if_neg g]
    simp (maxSteps := 400000) (disch := omega) only [zI_lit, zI_neg, zI_add, zI_sub, zI_mul, zI_div, zI_tn, zI_toL, zL_lit, zL_neg, zL_add, zL_sub, zL_mul, zL_div, zL_toI, zI_lt, zI_le, zI_eq, zL_lt, zL_le, zL_eq]
def ignP (mark tol t L : Int) : Prop := L < 30 ∨ (mark ≠ -1 ∧ (t - mark + 500) / 1000 ≤ 10 ∧ ((t - mark + 500) / 1000 = 0 ∨ t - mark - 1000 * ((t - mark + 500) / 1000) < -tol ∨ tol < t - mark - 1000 * ((t - mark + 500) / 1000)))
theorem X4_ign_v (N : Nat) {w : Ob} {mark t L tol : Int} (h2 : w.1 2 = zI mark) (h3 : -1 ≤ mark) (h4 : mark < t) (h5 : t ≤ 2000000000) (h6 : w.2.2.1 0 0 = zI tol) (t1 : 0 ≤ tol) (t2 : tol ≤ 200) (l1 : 0 ≤ L) (l2 : L ≤ 9999) :
    (ignP mark tol t L → f_X4_isToBeIgnored N (zI t) (zI L) w = some true) ∧ (¬ ignP mark tol t L → f_X4_isToBeIgnored N (zI t) (zI L) w = some false) := by
  have s := X4_secs_v N h2 h3 h4 h5
  unfold ignP
  generalize hK : (t - mark + 500) / 1000 = K at *
  have z0 : w.2.2.1 0 ((0 : Int32).toNatClampNeg) = zI tol := h6
  have c30 : ((30 : Int32) ≤ zI L) = (30 ≤ L) := by rw [zI_lit, zI_le (by omega) (by omega) (by omega) (by omega)]
  rw [f_X4_isToBeIgnored, s, h2, z0]
  by_cases g : L < 30
  · rw [ifN c30 (by omega)]
    exact ⟨fun _ => rfl, fun h => absurd (Or.inl g) h⟩
  · rw [ifP c30 (by omega), Option.bind_some]
    by_cases gm : mark = -1
    · rw [ifP (zI_m1 (by omega) (by omega)) gm]
      exact ⟨fun h => by omega, fun _ => rfl⟩
    · rw [ifN (zI_m1 (by omega) (by omega)) gm, if_neg gm]
      have K0 : 0 ≤ K := by omega
      have K1 : K ≤ 2000001 := by omega
      have c1 : (zI K ≤ 10) = (K ≤ 10) := by rw [zI_lit, zI_le (by omega) (by omega) (by omega) (by omega)]
      have c2 : (zI K = 0) = (K = 0) := by rw [zI_lit, zI_eq (by omega) (by omega) (by omega) (by omega)]
      have eE : zI t - zI mark - 1000 * zI K = zI (t - mark - 1000 * K) := by simp (maxSteps := 400000) (disch := omega) only [zI_lit, zI_neg, zI_add, zI_sub, zI_mul, zI_div, zI_tn, zI_toL, zL_lit, zL_neg, zL_add, zL_sub, zL_mul, zL_div, zL_toI, zI_lt, zI_le, zI_eq, zL_lt, zL_le, zL_eq]
      rw [eE]
      generalize hE : t - mark - 1000 * K = E at *
      have eN : (0 : Int32) - zI E = zI (-E) := by rw [zI_lit, zI_sub]; congr 1; omega
      have c3 : ((0 : Int32) ≤ zI E) = (0 ≤ E) := by rw [zI_lit, zI_le (by omega) (by omega) (by omega) (by omega)]
      have c4 : (zI E ≤ zI tol) = (E ≤ tol) := by rw [zI_le (by omega) (by omega) (by omega) (by omega)]
      have c5 : (zI (-E) ≤ zI tol) = (-E ≤ tol) := by rw [zI_le (by omega) (by omega) (by omega) (by omega)]
      by_cases k1 : K ≤ 10
      · rw [ifP c1 k1]
        by_cases k2 : K = 0
        · rw [ifP c2 k2]
          exact ⟨fun _ => rfl, fun h => absurd (Or.inr ⟨gm, k1, Or.inl k2⟩) h⟩
        · rw [ifN c2 k2]
          by_cases e0 : 0 ≤ E
          · rw [ifP c3 e0]
            by_cases e1 : E ≤ tol
            · rw [ifP c4 e1]
              exact ⟨fun h => by omega, fun _ => rfl⟩
            · rw [ifN c4 e1]
              exact ⟨fun _ => rfl, fun h => by omega⟩
          · rw [ifN c3 e0, eN]
            by_cases e1 : -E ≤ tol
            · rw [ifP c5 e1]
              exact ⟨fun h => by omega, fun _ => rfl⟩
            · rw [ifN c5 e1]
              exact ⟨fun _ => rfl, fun h => by omega⟩
      · rw [ifN c1 k1]
        exact ⟨fun h => by omega, fun _ => rfl⟩
/-- the reference, to where a pulse is taken -/
theorem X6_tp_ign {N : Nat} {mo : Ob} {mark t L tol : Int} (h2 : mo.2.2.2 0 6 = zL mark) (h3 : -1 ≤ mark) (h4 : mark < t) (h5 : t ≤ 2000000000) (h6 : mo.2.2.2 0 0 = zL tol) (t1 : 0 ≤ tol) (t2 : tol ≤ 200) (l1 : 0 ≤ L) (l2 : L ≤ 9999) :
    (ignP mark tol t L → f_X6_takesPulse N (zL t) (zI L) mo = some (0, oj mo 0 (vp_updL (vp_updL (mo.2.2.2 0) 7 (zL t)) 11 (mo.2.2.2 0 11 + 1)))) ∧
    (¬ ignP mark tol t L → mark = -1 → f_X6_takesPulse N (zL t) (zI L) mo = some (1, oj mo 0 (vp_updL (vp_updL (mo.2.2.2 0) 7 (zL t)) 6 (zL t)))) ∧
    (¬ ignP mark tol t L → mark ≠ -1 → f_X6_takesPulse N (zL t) (zI L) mo = k_X6_takesPulse_148 N (zL t) (zI L) (zI (bitL L)) (zL (t - mark)) (zL ((t - mark + 500) / 1000)) (oj mo 0 (vp_updL (mo.2.2.2 0) 7 (zL t)))) := by
  generalize ha : mo.2.2.2 0 = a at *
  have ig : f_X6_ignores N (oj mo 0 (vp_updL a 7 (zL t))) = some (0, oj mo 0 (vp_updL (vp_updL a 7 (zL t)) 11 (a 11 + 1))) := by
    rw [f_X6_ignores, oj_s, oj_oj, show (11 : Int32).toNatClampNeg = 11 from rfl, vp_n a _ (show 11 ≠ 7 by decide)]
  have c30 : ((30 : Int32) ≤ zI L) = (30 ≤ L) := by rw [zI_lit, zI_le (by omega) (by omega) (by omega) (by omega)]
  have eL : (zI L).toInt64 = zL L := zI_toL (by omega) (by omega)
  have i1 : f_X6_isIn N (zL L) (zL 60) (zL 140) = some (decide (60 ≤ L ∧ L ≤ 140)) := X6_isIn_v N (by omega) (by omega) (by omega)
  have i2 : f_X6_isIn N (zL L) (zL 160) (zL 240) = some (decide (160 ≤ L ∧ L ≤ 240)) := X6_isIn_v N (by omega) (by omega) (by omega)
  have r6 : (vp_updL a 7 (zL t)) 6 = zL mark := by rw [vp_n _ _ (by decide)]; exact h2
  have r0 : (vp_updL a 7 (zL t)) 0 = zL tol := by rw [vp_n _ _ (by decide)]; exact h6
  have kb : 30 ≤ L → f_X6_takesPulse N (zL t) (zI L) mo = k_X6_takesPulse_56 N (zL t) (zI L) (zI (bitL L)) (oj mo 0 (vp_updL a 7 (zL t))) := by
    intro g
    rw [f_X6_takesPulse, ifP c30 g, eL, ha, show (7 : Int32).toNatClampNeg = 7 from rfl, show (60 : Int64) = zL 60 from rfl, show (140 : Int64) = zL 140 from rfl, show (160 : Int64) = zL 160 from rfl, show (240 : Int64) = zL 240 from rfl, i1, i2, Option.bind_some, Option.bind_some]
    unfold bitL
    by_cases g1 : 60 ≤ L ∧ L ≤ 140
    · rw [decide_eq_true g1, if_pos rfl, if_pos g1]
      rfl
    · rw [decide_eq_false g1, if_neg (by decide), if_neg g1]
      by_cases g2 : 160 ≤ L ∧ L ≤ 240
      · rw [decide_eq_true g2, if_pos rfl, if_pos g2]
        rfl
      · rw [decide_eq_false g2, if_neg (by decide), if_neg g2]
        rfl
  have hk : k_X6_takesPulse_56 N (zL t) (zI L) (zI (bitL L)) (oj mo 0 (vp_updL a 7 (zL t))) = (if zL mark = -1 then some (1, oj mo 0 (vp_updL (vp_updL a 7 (zL t)) 6 (zL t))) else (if 10 < (zL t - zL mark + 500) / 1000 then k_X6_takesPulse_148 N (zL t) (zI L) (zI (bitL L)) (zL t - zL mark) ((zL t - zL mark + 500) / 1000) (oj mo 0 (vp_updL a 7 (zL t))) else (if (zL t - zL mark + 500) / 1000 < 1 then some (0, oj mo 0 (vp_updL (vp_updL a 7 (zL t)) 11 (a 11 + 1))) else ((f_X6_sizeOf N (zL t - zL mark - 1000 * ((zL t - zL mark + 500) / 1000))).bind fun q29 => (if q29 ≤ zL tol then k_X6_takesPulse_148 N (zL t) (zI L) (zI (bitL L)) (zL t - zL mark) ((zL t - zL mark + 500) / 1000) (oj mo 0 (vp_updL a 7 (zL t))) else some (0, oj mo 0 (vp_updL (vp_updL a 7 (zL t)) 11 (a 11 + 1)))))))) := by
    rw [k_X6_takesPulse_56, ig, Option.bind_some, oj_s, oj_oj, show (6 : Int32).toNatClampNeg = 6 from rfl, show (0 : Int32).toNatClampNeg = 0 from rfl, r6, r0]
  unfold ignP
  refine ⟨fun h => ?_, fun h hm => ?_, fun h hm => ?_⟩
  · by_cases g : L < 30
    · rw [f_X6_takesPulse, ifN c30 (by omega), ha, show (7 : Int32).toNatClampNeg = 7 from rfl, ig]
      rfl
    · obtain ⟨m1, m2, m3⟩ : mark ≠ -1 ∧ (t - mark + 500) / 1000 ≤ 10 ∧ ((t - mark + 500) / 1000 = 0 ∨ t - mark - 1000 * ((t - mark + 500) / 1000) < -tol ∨ tol < t - mark - 1000 * ((t - mark + 500) / 1000)) := by
        rcases h with h | h
        · exact absurd h g
        · exact h
      rw [kb (by omega), hk]
      by_cases k2 : (t - mark + 500) / 1000 = 0
      · simp (maxSteps := 400000) (disch := omega) only [zI_lit, zI_neg, zI_add, zI_sub, zI_mul, zI_div, zI_tn, zI_toL, zL_lit, zL_neg, zL_add, zL_sub, zL_mul, zL_div, zL_toI, zI_ltT, zI_ltF, zI_leT, zI_leF, zI_eqT, zI_eqF, zL_ltT, zL_ltF, zL_leT, zL_leF, zL_eqT, zL_eqF, nleT, nleF, or_self, or_false, false_or, true_or, or_true, not_true_eq_false, not_false_eq_true, ↓reduceIte, Option.bind_some, Bool.false_eq_true, decide_true, decide_false, zL_m1]
      · unfold f_X6_sizeOf
        by_cases e0 : t - mark - 1000 * ((t - mark + 500) / 1000) < 0
        · simp (maxSteps := 400000) (disch := omega) only [zI_lit, zI_neg, zI_add, zI_sub, zI_mul, zI_div, zI_tn, zI_toL, zL_lit, zL_neg, zL_add, zL_sub, zL_mul, zL_div, zL_toI, zI_ltT, zI_ltF, zI_leT, zI_leF, zI_eqT, zI_eqF, zL_ltT, zL_ltF, zL_leT, zL_leF, zL_eqT, zL_eqF, nleT, nleF, or_self, or_false, false_or, true_or, or_true, not_true_eq_false, not_false_eq_true, ↓reduceIte, Option.bind_some, Bool.false_eq_true, decide_true, decide_false, zL_m1]
        · simp (maxSteps := 400000) (disch := omega) only [zI_lit, zI_neg, zI_add, zI_sub, zI_mul, zI_div, zI_tn, zI_toL, zL_lit, zL_neg, zL_add, zL_sub, zL_mul, zL_div, zL_toI, zI_ltT, zI_ltF, zI_leT, zI_leF, zI_eqT, zI_eqF, zL_ltT, zL_ltF, zL_leT, zL_leF, zL_eqT, zL_eqF, nleT, nleF, or_self, or_false, false_or, true_or, or_true, not_true_eq_false, not_false_eq_true, ↓reduceIte, Option.bind_some, Bool.false_eq_true, decide_true, decide_false, zL_m1]
  · rw [kb (by omega), hk, ifP (zL_m1 (by omega) (by omega)) hm]
  · rw [kb (by omega), hk]
    by_cases k1 : 10 < (t - mark + 500) / 1000
    · simp (maxSteps := 400000) (disch := omega) only [zI_lit, zI_neg, zI_add, zI_sub, zI_mul, zI_div, zI_tn, zI_toL, zL_lit, zL_neg, zL_add, zL_sub, zL_mul, zL_div, zL_toI, zI_ltT, zI_ltF, zI_leT, zI_leF, zI_eqT, zI_eqF, zL_ltT, zL_ltF, zL_leT, zL_leF, zL_eqT, zL_eqF, nleT, nleF, or_self, or_false, false_or, true_or, or_true, not_true_eq_false, not_false_eq_true, ↓reduceIte, Option.bind_some, Bool.false_eq_true, decide_true, decide_false, zL_m1]
    · unfold f_X6_sizeOf
      by_cases e0 : t - mark - 1000 * ((t - mark + 500) / 1000) < 0
      · simp (maxSteps := 400000) (disch := omega) only [zI_lit, zI_neg, zI_add, zI_sub, zI_mul, zI_div, zI_tn, zI_toL, zL_lit, zL_neg, zL_add, zL_sub, zL_mul, zL_div, zL_toI, zI_ltT, zI_ltF, zI_leT, zI_leF, zI_eqT, zI_eqF, zL_ltT, zL_ltF, zL_leT, zL_leF, zL_eqT, zL_eqF, nleT, nleF, or_self, or_false, false_or, true_or, or_true, not_true_eq_false, not_false_eq_true, ↓reduceIte, Option.bind_some, Bool.false_eq_true, decide_true, decide_false, zL_m1]
      · simp (maxSteps := 400000) (disch := omega) only [zI_lit, zI_neg, zI_add, zI_sub, zI_mul, zI_div, zI_tn, zI_toL, zL_lit, zL_neg, zL_add, zL_sub, zL_mul, zL_div, zL_toI, zI_ltT, zI_ltF, zI_leT, zI_leF, zI_eqT, zI_eqF, zL_ltT, zL_ltF, zL_leT, zL_leF, zL_eqT, zL_eqF, nleT, nleF, or_self, or_false, false_or, true_or, or_true, not_true_eq_false, not_false_eq_true, ↓reduceIte, Option.bind_some, Bool.false_eq_true, decide_true, decide_false, zL_m1]
