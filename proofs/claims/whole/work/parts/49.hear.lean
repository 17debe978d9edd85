/-! a minute heard, a setting changed, a receiver copied -/
theorem start_v {u mo : Ob} (N : Nat) (hR : RR u (mo.2.2.2 0)) : ∃ S : Int, 0 ≤ S ∧ S ≤ 2000062000 ∧ f_X4_hearingStart N u = some (zI S) ∧ f_X6_beginOfHearing N mo = some (zL S) := by
  generalize ha : mo.2.2.2 0 = a at hR
  obtain ⟨st, pos, mark, bef, ign, len, F, told, votd, X, xm, xt, hS, hK, hC, hF, hT, hX, hI⟩ := hR
  obtain ⟨⟨kb1, kb2⟩, ⟨km1, km2⟩, ⟨kg1, kg2⟩, ⟨kp1, kp2⟩, p1, p2, p3, p4, p5⟩ := id hK
  have pb : pos ≤ 59 := by
    by_cases pe : pos = -1
    · omega
    · obtain ⟨_, c3, c4, _⟩ := hC pe
      omega
  have h4 : f_X4_hearingStart N u = (if zI mark = -1 then some 0 else (if zI pos = -1 then some (zI mark + 2000) else some (zI mark + 1000 * (u.1 5 - zI pos)))) := by
    rw [f_X4_hearingStart, km1, kp1]
  have h6 : f_X6_beginOfHearing N mo = (if zL mark = -1 then some 0 else (if zL pos = -1 then some (zL mark + 2000) else some (zL mark + 1000 * (a 8 - zL pos)))) := by
    rw [f_X6_beginOfHearing, ha, show (6 : Int32).toNatClampNeg = 6 from rfl, show (5 : Int32).toNatClampNeg = 5 from rfl, show (8 : Int32).toNatClampNeg = 8 from rfl, km2, kp2]
  have r1 : (zI mark = -1) = (mark = -1) := zI_m1 (by omega) (by omega)
  have r2 : (zL mark = -1) = (mark = -1) := zL_m1 (by omega) (by omega)
  have r3 : (zI pos = -1) = (pos = -1) := zI_m1 (by omega) (by omega)
  have r4 : (zL pos = -1) = (pos = -1) := zL_m1 (by omega) (by omega)
  by_cases g1 : mark = -1
  · exact ⟨0, by omega, by omega, by rw [h4, ifP r1 g1]; rfl, by rw [h6, ifP r2 g1]; rfl⟩
  · rw [ifN r1 g1] at h4
    rw [ifN r2 g1] at h6
    by_cases g2 : pos = -1
    · rw [ifP r3 g2] at h4
      rw [ifP r4 g2] at h6
      exact ⟨mark + 2000, by omega, by omega, by rw [h4, zI_lit, zI_add], by rw [h6, zL_lit, zL_add]⟩
    · rw [ifN r3 g2] at h4
      rw [ifN r4 g2] at h6
      obtain ⟨⟨c1, c2⟩, c3, c4, _⟩ := hC g2
      exact ⟨mark + 1000 * (len - pos), by omega, by omega, by rw [h4, c1, zI_sub, zI_lit, zI_mul, zI_add], by rw [h6, c2, zL_sub, zL_lit, zL_mul, zL_add]⟩
theorem canHear_v {u mo : Ob} (N : Nat) {S : Int} (S0 : 0 ≤ S) (S1 : S ≤ 2000062000) (h4 : f_X4_hearingStart N u = some (zI S)) (h6 : f_X6_beginOfHearing N mo = some (zL S)) : f_X4_canHear N u = some (decide (S + 58000 ≤ 2000000000)) ∧ f_X6_canHear N mo = some (decide (S + 58000 ≤ 2000000000)) := by
  rw [f_X4_canHear, f_X6_canHear, h4, h6, Option.bind_some, Option.bind_some]
  by_cases g : S + 58000 ≤ 2000000000
  · rw [decide_eq_true g]
    constructor <;> simp (maxSteps := 400000) (disch := omega) only [zI_lit, zI_neg, zI_add, zI_sub, zI_mul, zI_div, zI_tn, zI_toL, zL_lit, zL_neg, zL_add, zL_sub, zL_mul, zL_div, zL_toI, zI_ltT, zI_ltF, zI_leT, zI_leF, zI_eqT, zI_eqF, zL_ltT, zL_ltF, zL_leT, zL_leF, zL_eqT, zL_eqF, nleT, nleF, or_self, or_false, false_or, true_or, or_true, not_true_eq_false, not_false_eq_true, ↓reduceIte, Option.bind_some, Bool.false_eq_true, decide_true, decide_false]
  · rw [decide_eq_false g]
    constructor <;> simp (maxSteps := 400000) (disch := omega) only [zI_lit, zI_neg, zI_add, zI_sub, zI_mul, zI_div, zI_tn, zI_toL, zL_lit, zL_neg, zL_add, zL_sub, zL_mul, zL_div, zL_toI, zI_ltT, zI_ltF, zI_leT, zI_leF, zI_eqT, zI_eqF, zL_ltT, zL_ltF, zL_leT, zL_leF, zL_eqT, zL_eqF, nleT, nleF, or_self, or_false, false_or, true_or, or_true, not_true_eq_false, not_false_eq_true, ↓reduceIte, Option.bind_some, Bool.false_eq_true, decide_true, decide_false]
theorem RR_bef {u : Ob} {a : Nat → Int64} (h : RR u a) : ∃ bef : Int, u.1 1 = zI bef ∧ a 7 = zL bef ∧ -1 ≤ bef ∧ bef ≤ 2000000000 := by
  obtain ⟨st, pos, mark, bef, ign, len, F, told, votd, X, xm, xt, hS, hK, hC, hF, hT, hX, hI⟩ := h
  obtain ⟨⟨kb1, kb2⟩, ⟨km1, km2⟩, ⟨kg1, kg2⟩, ⟨kp1, kp2⟩, p1, p2, p3, p4, p5⟩ := hK
  exact ⟨bef, kb1, kb2, by omega, p4⟩
theorem hear_l {N : Nat} (hN : 700 ≤ N) (x1 y1 : Int32) (x2 y2 : Bool) (lost bits : Int64) {S : Int} (S0 : 0 ≤ S) (S1 : S + 58000 ≤ 2000000000) : ∀ (j s n m taken : Nat) (u b mo : Ob), s + j = 59 → j < n → j < m → taken ≤ s → RR u (mo.2.2.2 0) →
    ∃ (r : Nat) (u' b' mo' : Ob), l_X4_hearMinute_19 N x1 x2 lost n bits (zI S) (zI taken) (zI s) u b = some (zI r, u', b') ∧ l_X6_hears_19 N y1 y2 lost m (zL S) bits (zI taken) (zI s) mo = some (zI r, mo') ∧ Sd mo mo' ∧ RR u' (mo'.2.2.2 0) := by
  intro j
  induction j with
  | zero =>
    intro s n m taken u b mo hs hn hm ht hR
    obtain ⟨n, rfl⟩ : ∃ k, n = k + 1 := ⟨n - 1, by omega⟩
    obtain ⟨m, rfl⟩ : ∃ k, m = k + 1 := ⟨m - 1, by omega⟩
    refine ⟨taken, u, b, mo, ?_, ?_, Sd_rfl mo, hR⟩
    · rw [l_X4_hearMinute_19, if_pos (show (58 : Int32) < zI (s : Int) by rw [zI_lit, zI_lt (by omega) (by omega) (by omega) (by omega)]; omega)]
    · rw [l_X6_hears_19, if_pos (show (59 : Int32) ≤ zI (s : Int) by rw [zI_lit, zI_le (by omega) (by omega) (by omega) (by omega)]; omega)]
  | succ j ih =>
    intro s n m taken u b mo hs hn hm ht hR
    obtain ⟨n, rfl⟩ : ∃ k, n = k + 1 := ⟨n - 1, by omega⟩
    obtain ⟨m, rfl⟩ : ∃ k, m = k + 1 := ⟨m - 1, by omega⟩
    obtain ⟨bef, kb1, kb2, kb3, kb4⟩ := RR_bef hR
    have hl : ((jushr lost (zI s)) &&& (1 : Int64) = 0) = (lb lost s = false) := jb_0 lost (n := s) (by omega)
    have hb : ((jushr bits (zI s)) &&& (1 : Int64) = 0) = (lb bits s = false) := jb_0 bits (n := s) (by omega)
    have hhl : f_X6_has N lost (zI s) = some (lb lost s) := X6_has_v N lost (k := s) (by omega) (by omega)
    have hhb : f_X6_has N bits (zI s) = some (lb bits s) := X6_has_v N bits (k := s) (by omega) (by omega)
    have zt : zI S + 1000 * zI (s : Int) = zI (S + 1000 * s) := by simp (maxSteps := 400000) (disch := omega) only [zI_lit, zI_neg, zI_add, zI_sub, zI_mul, zI_div, zI_tn, zI_toL, zL_lit, zL_neg, zL_add, zL_sub, zL_mul, zL_div, zL_toI, zI_lt, zI_le, zI_eq, zL_lt, zL_le, zL_eq]
    have ztl : zL S + 1000 * (zI (s : Int)).toInt64 = zL (S + 1000 * s) := by
      rw [zI_toL (by omega) (by omega), zL_lit, zL_mul, zL_add]
    have c58 : ((58 : Int32) < zI (s : Int)) = False := by simp (maxSteps := 400000) (disch := omega) only [zI_lit, zI_neg, zI_add, zI_sub, zI_mul, zI_div, zI_tn, zI_toL, zL_lit, zL_neg, zL_add, zL_sub, zL_mul, zL_div, zL_toI, zI_ltT, zI_ltF, zI_leT, zI_leF, zI_eqT, zI_eqF, zL_ltT, zL_ltF, zL_leT, zL_leF, zL_eqT, zL_eqF, nleT, nleF, or_self, or_false, false_or, true_or, or_true, not_true_eq_false, not_false_eq_true, ↓reduceIte, Option.bind_some, Bool.false_eq_true, decide_true, decide_false]
    have c59 : ((59 : Int32) ≤ zI (s : Int)) = False := by simp (maxSteps := 400000) (disch := omega) only [zI_lit, zI_neg, zI_add, zI_sub, zI_mul, zI_div, zI_tn, zI_toL, zL_lit, zL_neg, zL_add, zL_sub, zL_mul, zL_div, zL_toI, zI_ltT, zI_ltF, zI_leT, zI_leF, zI_eqT, zI_eqF, zL_ltT, zL_ltF, zL_leT, zL_leF, zL_eqT, zL_eqF, nleT, nleF, or_self, or_false, false_or, true_or, or_true, not_true_eq_false, not_false_eq_true, ↓reduceIte, Option.bind_some, Bool.false_eq_true, decide_true, decide_false]
    have cb : (zI (S + 1000 * s) ≤ zI bef) = (S + 1000 * s ≤ bef) := zI_le (by omega) (by omega) (by omega) (by omega)
    have cbl : (zL bef < zL (S + 1000 * s)) = (bef < S + 1000 * s) := zL_lt (by omega) (by omega) (by omega) (by omega)
    have e4 : l_X4_hearMinute_19 N x1 x2 lost (n + 1) bits (zI S) (zI taken) (zI s) u b = (if lb lost s = true then l_X4_hearMinute_19 N x1 x2 lost n bits (zI S) (zI taken) (zI ((s + 1 : Nat) : Int)) u b else (if S + 1000 * s ≤ bef then l_X4_hearMinute_19 N x1 x2 lost n bits (zI S) (zI taken) (zI ((s + 1 : Nat) : Int)) u b else ((f_X4_takePulse N (zI (S + 1000 * s)) (zI (if lb bits s = true then 200 else 100)) u b).bind fun q12 => (if q12.1 = 0 then l_X4_hearMinute_19 N x1 x2 lost n bits (zI S) (zI taken) (zI ((s + 1 : Nat) : Int)) q12.2.1 q12.2.2 else l_X4_hearMinute_19 N x1 x2 lost n bits (zI S) (zI ((taken + 1 : Nat) : Int)) (zI ((s + 1 : Nat) : Int)) q12.2.1 q12.2.2)))) := by
      rw [l_X4_hearMinute_19, ifF c58, zt, kb1, zI_suc s, zI_suc taken]
      cases h1 : lb bits s
      · rw [ifP hb h1]
        cases h2 : lb lost s
        · rw [ifP hl h2]
          simp only [↓reduceIte, Bool.false_eq_true]
          by_cases g : S + 1000 * s ≤ bef
          · rw [ifP cb g, if_pos g]
          · rw [ifN cb g, if_neg g]
            rfl
        · rw [ifN hl (by rw [h2]; decide)]
          simp only [↓reduceIte, Bool.false_eq_true]
      · rw [ifN hb (by rw [h1]; decide)]
        cases h2 : lb lost s
        · rw [ifP hl h2]
          simp only [↓reduceIte, Bool.false_eq_true]
          by_cases g : S + 1000 * s ≤ bef
          · rw [ifP cb g, if_pos g]
          · rw [ifN cb g, if_neg g]
            rfl
        · rw [ifN hl (by rw [h2]; decide)]
          simp only [↓reduceIte, Bool.false_eq_true]
    have e6 : l_X6_hears_19 N y1 y2 lost (m + 1) (zL S) bits (zI taken) (zI s) mo = (if lb lost s = true then l_X6_hears_19 N y1 y2 lost m (zL S) bits (zI taken) (zI ((s + 1 : Nat) : Int)) mo else (if S + 1000 * s ≤ bef then l_X6_hears_19 N y1 y2 lost m (zL S) bits (zI taken) (zI ((s + 1 : Nat) : Int)) mo else ((f_X6_takesPulse N (zL (S + 1000 * s)) (zI (if lb bits s = true then 200 else 100)) mo).bind fun q12 => (if q12.1 = 0 then l_X6_hears_19 N y1 y2 lost m (zL S) bits (zI taken) (zI ((s + 1 : Nat) : Int)) q12.2 else l_X6_hears_19 N y1 y2 lost m (zL S) bits (zI ((taken + 1 : Nat) : Int)) (zI ((s + 1 : Nat) : Int)) q12.2)))) := by
      rw [l_X6_hears_19, ifF c59, hhl, hhb, ztl, show (7 : Int32).toNatClampNeg = 7 from rfl, kb2, zI_suc s, zI_suc taken, zI_ad0, Option.bind_some, Option.bind_some]
      cases h2 : lb lost s
      · simp only [↓reduceIte, Bool.false_eq_true]
        by_cases g : S + 1000 * s ≤ bef
        · rw [ifN cbl (by omega), if_pos g]
        · rw [ifP cbl (by omega), if_neg g]
          cases h1 : lb bits s
          · simp only [↓reduceIte, Bool.false_eq_true]
            rfl
          · simp only [↓reduceIte, Bool.false_eq_true]
            rfl
      · simp only [↓reduceIte, Bool.false_eq_true]
    rw [e4, e6]
    by_cases g1 : lb lost s = true
    · rw [if_pos g1, if_pos g1]
      exact ih (s + 1) n m taken u b mo (by omega) (by omega) (by omega) (by omega) hR
    · rw [if_neg g1, if_neg g1]
      by_cases g2 : S + 1000 * s ≤ bef
      · rw [if_pos g2, if_pos g2]
        exact ih (s + 1) n m taken u b mo (by omega) (by omega) (by omega) (by omega) hR
      · rw [if_neg g2, if_neg g2]
        obtain ⟨r, u', b', mo', t1, t2, t3, t4, t5, t6, t7, t8⟩ := takePulse_v hN b hR (t := S + 1000 * s) (L := if lb bits s = true then 200 else 100) (by rw [kb1, zI_lt (by omega) (by omega) (by omega) (by omega)]; omega) (by omega) (by omega) (by split <;> omega) (by split <;> omega)
        have cr : (zI r = 0) = (r = 0) := by rw [zI_lit, zI_eq (by omega) (by omega) (by omega) (by omega)]
        rw [t1, t2, Option.bind_some, Option.bind_some]
        by_cases g3 : r = 0
        · obtain ⟨r2, u2, b2, m2, q1, q2, q3, q4⟩ := ih (s + 1) n m taken u' b' mo' (by omega) (by omega) (by omega) (by omega) t4
          refine ⟨r2, u2, b2, m2, ?_, ?_, Sd_tr t3 q3, q4⟩
          · show (if zI r = 0 then _ else _) = _
            rw [ifP cr g3]
            exact q1
          · show (if zI r = 0 then _ else _) = _
            rw [ifP cr g3]
            exact q2
        · obtain ⟨r2, u2, b2, m2, q1, q2, q3, q4⟩ := ih (s + 1) n m (taken + 1) u' b' mo' (by omega) (by omega) (by omega) (by omega) t4
          refine ⟨r2, u2, b2, m2, ?_, ?_, Sd_tr t3 q3, q4⟩
          · show (if zI r = 0 then _ else _) = _
            rw [ifN cr g3]
            exact q1
          · show (if zI r = 0 then _ else _) = _
            rw [ifN cr g3]
            exact q2
theorem hear_v {N : Nat} (hN : 700 ≤ N) {u mo : Ob} (b : Ob) (hR : RR u (mo.2.2.2 0)) {x : Int} (x0 : 0 ≤ x) (x1 : x ≤ 52595999) (leap : Bool) (lost : Int64) (hc : f_X4_canHear N u = some true) : ∃ (r : Nat) (u' b' mo' : Ob), f_X4_hearMinute N (zI x) leap lost u b = some (zI r, u', b') ∧ f_X6_hears N (zI x) leap lost mo = some (zI r, mo') ∧ Sd mo mo' ∧ RR u' (mo'.2.2.2 0) := by
  obtain ⟨S, S0, S1, h4, h6⟩ := start_v N hR
  have c := (canHear_v N S0 S1 h4 h6).1
  rw [c] at hc
  have hc2 : S + 58000 ≤ 2000000000 := of_decide_eq_true (Option.some.inj hc)
  obtain ⟨r, u', b', mo', q1, q2, q3, q4⟩ := hear_l hN (zI x) (zI x) leap leap lost (codeS x leap) S0 hc2 59 0 N N 0 u b mo (by omega) (by omega) (by omega) (by omega) hR
  refine ⟨r, u', b', mo', ?_, ?_, q3, q4⟩
  · rw [f_X4_hearMinute, X2_encode_v hN x0 (by omega), Option.bind_some, h4, Option.bind_some]
    exact q1
  · rw [f_X6_hears, h6, Option.bind_some, X6_codeOf_v hN x0 (by omega), Option.bind_some]
    exact q2
def loS (i : Int) : Int := if i = 0 then 10 else if i = 1 then 2 else if i = 2 then 3 else if i = 3 then 0 else -500
def hiS (i : Int) : Int := if i = 0 then 200 else if i = 1 then 5 else if i = 2 then 8 else if i = 3 then 3 else 500
theorem change_v (N : Nat) {u mo : Ob} (hR : RR u (mo.2.2.2 0)) {i : Nat} {v : Int} (hi : i < 5) (v1 : loS i ≤ v) (v2 : v ≤ hiS i) : ∃ (o : Int) (u' : Ob) (a' : Nat → Int64), f_X4_change N (zI i) (zI v) u = some u' ∧ f_X6_sets N (zI i) (zI v) mo = some (zI o, oj mo 0 a') ∧ RR u' a' ∧ u.2.2.1 0 i = zI o := by
  generalize ha : mo.2.2.2 0 = a at hR
  obtain ⟨st, pos, mark, bef, ign, len, F, told, votd, X, xm, xt, hS, hK, hC, hF, hT, hX, hI⟩ := hR
  have hb : -500 ≤ v ∧ v ≤ 500 := by
    unfold loS at v1
    unfold hiS at v2
    grind
  have sok : stOk (fun k => if k = i then v else st k) := by
    have := hS.1
    unfold stOk at this ⊢
    unfold loS at v1
    unfold hiS at v2
    rcases (show i = 0 ∨ i = 1 ∨ i = 2 ∨ i = 3 ∨ i = 4 by omega) with rfl | rfl | rfl | rfl | rfl <;> simp at v1 v2 ⊢ <;> omega
  obtain ⟨⟨f1, f2, f3⟩, f4, f5⟩ := id hF
  have so := hS.1
  unfold stOk at so
  have z1 : (zI (i : Int)).toNatClampNeg = i := zI_tnN (by omega)
  have zv : (zI v).toInt64 = zL v := zI_toL (by omega) (by omega)
  have c1 : (zI (i : Int) < 0 ∨ 5 ≤ i) = False := by simp (maxSteps := 400000) (disch := omega) only [zI_lit, zI_neg, zI_add, zI_sub, zI_mul, zI_div, zI_tn, zI_toL, zL_lit, zL_neg, zL_add, zL_sub, zL_mul, zL_div, zL_toI, zI_ltT, zI_ltF, zI_leT, zI_leF, zI_eqT, zI_eqF, zL_ltT, zL_ltF, zL_leT, zL_leF, zL_eqT, zL_eqF, nleT, nleF, or_self, or_false, false_or, true_or, or_true, not_true_eq_false, not_false_eq_true, ↓reduceIte, Option.bind_some, Bool.false_eq_true, decide_true, decide_false]
  have c2 : (zI (i : Int) < 0 ∨ 48 ≤ i) = False := by simp (maxSteps := 400000) (disch := omega) only [zI_lit, zI_neg, zI_add, zI_sub, zI_mul, zI_div, zI_tn, zI_toL, zL_lit, zL_neg, zL_add, zL_sub, zL_mul, zL_div, zL_toI, zI_ltT, zI_ltF, zI_leT, zI_leF, zI_eqT, zI_eqF, zL_ltT, zL_ltF, zL_leT, zL_leF, zL_eqT, zL_eqF, nleT, nleF, or_self, or_false, false_or, true_or, or_true, not_true_eq_false, not_false_eq_true, ↓reduceIte, Option.bind_some, Bool.false_eq_true, decide_true, decide_false]
  have W2 : ∀ k, k < 5 → upd (u.2.2.1 0) i (zI v) k = zI ((fun k => if k = i then v else st k) k) ∧ vp_updL a i (zL v) k = zL ((fun k => if k = i then v else st k) k) := by
    intro k hk
    unfold upd vp_updL
    show (if k = i then zI v else _) = zI (if k = i then v else st k) ∧ (if k = i then zL v else _) = zL (if k = i then v else st k)
    by_cases e : k = i
    · rw [if_pos e, if_pos e, if_pos e]
      exact ⟨rfl, rfl⟩
    · rw [if_neg e, if_neg e, if_neg e]
      exact hS.2 k hk
  have al : ∀ k, 5 ≤ k → vp_updL a i (zL v) k = a k := fun k hk => vp_n _ _ (by omega)
  obtain ⟨W', hW'⟩ : ∃ W' : Nat, (if 2 = i then v else st 2) = W' := ⟨(if 2 = i then v else st 2).toNat, by
    have := sok.2.2.1
    have h2 : 3 ≤ (if 2 = i then v else st 2) := this.1
    omega⟩
  have hW8 : 3 ≤ W' ∧ W' ≤ 8 := by
    have h2 : 3 ≤ (if 2 = i then v else st 2) ∧ (if 2 = i then v else st 2) ≤ 8 := sok.2.2.1
    rw [hW'] at h2
    omega
  have w2 := W2 2 (by omega)
  have w2a : upd (u.2.2.1 0) i (zI v) 2 = zI W' := w2.1.trans (congrArg zI hW')
  have w2b : vp_updL a i (zL v) 2 = zL W' := w2.2.trans (congrArg zL hW')
  have e4 : f_X4_change N (zI i) (zI v) u = (if zI (F : Int) ≤ zI (W' : Int) then some (oa u 0 (upd (u.2.2.1 0) i (zI v))) else some (oi (oa u 0 (upd (u.2.2.1 0) i (zI v))) 11 (zI W'))) := by
    rw [f_X4_change, z1, ifF c1, show (2 : Int32).toNatClampNeg = 2 from rfl, w2a, f1]
  have e6 : f_X6_sets N (zI i) (zI v) mo = (if zL (F : Int) ≤ zL (W' : Int) then some (zI (st i), oj mo 0 (vp_updL a i (zL v))) else some (zI (st i), oj mo 0 (vp_updL (vp_updL a i (zL v)) 12 (zL W')))) := by
    rw [f_X6_sets, z1, ifF c2, ifF c2, show (2 : Int32).toNatClampNeg = 2 from rfl, show (12 : Int32).toNatClampNeg = 12 from rfl, ha, zv, w2b, al 12 (by omega), f5, oj_oj, (hS.2 i hi).2, zL_toI]
  have q1 : (zI (F : Int) ≤ zI (W' : Int)) = (F ≤ W') := by rw [zI_le (by omega) (by omega) (by omega) (by omega)]; exact propext (by omega)
  have q2 : (zL (F : Int) ≤ zL (W' : Int)) = (F ≤ W') := by rw [zL_le (by omega) (by omega) (by omega) (by omega)]; exact propext (by omega)
  by_cases g : F ≤ W'
  · rw [ifP q1 g] at e4
    rw [ifP q2 g] at e6
    refine ⟨st i, _, _, e4, e6, ⟨(fun k => if k = i then v else st k), pos, mark, bef, ign, len, F, told, votd, X, xm, xt, ⟨sok, fun k hk => ?_⟩, ?_, RC_up hC rfl rfl (al 8 (by omega)) (al 14 (by omega)) (al 15 (by omega)), ⟨⟨f1, f2, fun k hk => ?_⟩, ?_, ?_⟩, RT_up hT rfl rfl (al 9 (by omega)) (al 10 (by omega)), RX_up hX rfl (oa_n u _ (by decide)) (oa_n u _ (by decide)) (al 13 (by omega)) (fun k h1 h2 => al k (by omega)), hI⟩, (hS.2 i hi).1⟩
    · rw [oa_s]
      exact W2 k hk
    · unfold RK
      rw [al 7 (by omega), al 6 (by omega), al 11 (by omega), al 5 (by omega)]
      exact hK
    · rw [al _ (by omega), al _ (by omega), oa_n u _ (by decide)]
      exact f3 k hk
    · show (F : Int) ≤ (if 2 = i then v else st 2)
      rw [hW']
      omega
    · rw [al 12 (by omega)]
      exact f5
  · rw [ifN q1 g] at e4
    rw [ifN q2 g] at e6
    have al2 : ∀ k, 5 ≤ k → k ≠ 12 → vp_updL (vp_updL a i (zL v)) 12 (zL (W' : Int)) k = a k := fun k hk h => by rw [vp_n _ _ h, al k hk]
    refine ⟨st i, _, _, e4, e6, ⟨(fun k => if k = i then v else st k), pos, mark, bef, ign, len, W', told, votd, X, xm, xt, ⟨sok, fun k hk => ?_⟩, ?_, RC_up hC (oi_n _ _ (by decide)) rfl (al2 8 (by omega) (by omega)) (al2 14 (by omega) (by omega)) (al2 15 (by omega) (by omega)), ⟨⟨oi_s _ 11 _, by omega, fun k hk => ?_⟩, ?_, ?_⟩, RT_up hT (oi_n _ _ (by decide)) (oi_n _ _ (by decide)) (al2 9 (by omega) (by omega)) (al2 10 (by omega) (by omega)), RX_up hX (oi_n _ _ (by decide)) (oa_n u _ (by decide)) (oa_n u _ (by decide)) (al2 13 (by omega) (by omega)) (fun k h1 h2 => al2 k (by omega) (by omega)), hI⟩, (hS.2 i hi).1⟩
    · rw [vp_n _ _ (by omega)]
      show (oa u 0 (upd (u.2.2.1 0) i (zI v))).2.2.1 0 k = _ ∧ _
      rw [oa_s]
      exact W2 k hk
    · unfold RK
      rw [al2 7 (by omega) (by omega), al2 6 (by omega) (by omega), al2 11 (by omega) (by omega), al2 5 (by omega) (by omega), oi_n _ _ (by decide), oi_n _ _ (by decide), oi_n _ _ (by decide), oi_n _ _ (by decide)]
      exact hK
    · rw [al2 _ (by omega) (by omega), al2 _ (by omega) (by omega)]
      show u.2.2.2 8 k = _ ∧ u.2.2.2 9 k = _ ∧ (oa u 0 (upd (u.2.2.1 0) i (zI v))).2.2.1 10 k = _
      rw [oa_n u _ (by decide)]
      exact f3 k (by omega)
    · show (W' : Int) ≤ (if 2 = i then v else st 2)
      rw [hW']
      omega
    · exact vp_s _ _ _
