/-! the relation of the two runs -/
def byR (x y : Int32) : Prop := ∃ z : Int, 0 ≤ z ∧ z ≤ 255 ∧ y = zI z ∧ x = zI (if z < 128 then z else z - 256)
def RU (u0 : Ob) (u2 : Nat → Ob) (mo : Ob) : Prop := ∃ e c : Nat, e < 8 ∧ c ≤ 8 ∧ u0.1 4 = zI e ∧ u0.1 5 = zI c ∧ mo.1 6 = zI c ∧ ∀ i, i < c → RR (u2 (3 + (e + 8 - c + i) % 8)) (fun k => mo.2.2.2 3 (48 * i + k))
def RV (u0 : Ob) (u2 : Nat → Ob) (mo : Ob) : Prop := ∀ j, j < 2 → ∃ f : Nat, f ≤ 1 ∧ u0.2.2.1 7 j = zI f ∧ mo.2.2.1 5 j = zI f ∧ (f = 1 → RR (u2 (11 + j)) (fun k => mo.2.2.2 4 (48 * j + k)))
def RB (u1 mo : Ob) : Prop := ∃ n : Nat, n ≤ 600 ∧ u1.1 1 = zI n ∧ mo.1 10 = zI n ∧ u1.1 6 = mo.1 17 ∧ ∀ k, k < n → byR (u1.2.2.1 0 k) (mo.2.2.1 9 k)
def RW (u0 mo : Ob) : Prop := ∃ n : Nat, n ≤ 18 ∧ u0.1 10 = zI n ∧ mo.1 21 = zI n ∧ ∀ k, k < n → u0.2.2.1 9 k = mo.2.2.1 20 k
def a00 (k : Nat) : Int64 := if k = 0 then 100 else if k = 1 then 3 else if k = 2 then 5 else if k = 5 ∨ k = 6 ∨ k = 7 ∨ k = 9 then -1 else 0
def Rel (c : Cst) (mo : Ob) : Prop := RR (c.2.2.1 0) (mo.2.2.2 0) ∧ RR (c.2.2.1 1) a00 ∧ RU c.1 c.2.2.1 mo ∧ RV c.1 c.2.2.1 mo ∧ RB c.2.1 mo ∧ RW c.1 mo
theorem RU_up {u0 v0 : Ob} {u2 v2 : Nat → Ob} {mo m : Ob} (h : RU u0 u2 mo) (h1 : v0.1 4 = u0.1 4) (h2 : v0.1 5 = u0.1 5) (h3 : ∀ i, i < 8 → v2 (3 + i) = u2 (3 + i)) (h4 : m.1 6 = mo.1 6) (h5 : m.2.2.2 3 = mo.2.2.2 3) : RU v0 v2 m := by
  obtain ⟨e, c, e1, c1, a, b, d, f⟩ := h
  refine ⟨e, c, e1, c1, by rw [h1]; exact a, by rw [h2]; exact b, by rw [h4]; exact d, fun i hi => ?_⟩
  rw [h3 _ (by omega), h5]
  exact f i hi
theorem RV_up {u0 v0 : Ob} {u2 v2 : Nat → Ob} {mo m : Ob} (h : RV u0 u2 mo) (h1 : v0.2.2.1 7 = u0.2.2.1 7) (h3 : ∀ i, i < 2 → v2 (11 + i) = u2 (11 + i)) (h4 : m.2.2.1 5 = mo.2.2.1 5) (h5 : m.2.2.2 4 = mo.2.2.2 4) : RV v0 v2 m := by
  intro j hj
  rw [h1, h4, h3 j hj, h5]
  exact h j hj
theorem RB_up {u1 v1 mo m : Ob} (h : RB u1 mo) (h1 : v1.1 1 = u1.1 1) (h2 : v1.1 6 = u1.1 6) (h3 : v1.2.2.1 0 = u1.2.2.1 0) (h4 : m.1 10 = mo.1 10) (h5 : m.1 17 = mo.1 17) (h6 : m.2.2.1 9 = mo.2.2.1 9) : RB v1 m := by
  unfold RB
  rw [h1, h2, h3, h4, h5, h6]
  exact h
theorem RW_up {u0 v0 mo m : Ob} (h : RW u0 mo) (h1 : v0.1 10 = u0.1 10) (h2 : v0.2.2.1 9 = u0.2.2.1 9) (h3 : m.1 21 = mo.1 21) (h4 : m.2.2.1 20 = mo.2.2.1 20) : RW v0 m := by
  unfold RW
  rw [h1, h2, h3, h4]
  exact h
theorem Rel_m {c : Cst} {mo m : Ob} (h : Rel c mo) (h1 : ∀ k, k ≠ 7 → k ≠ 8 → m.1 k = mo.1 k) (h2 : m.2.2 = mo.2.2) : Rel c m := by
  obtain ⟨r1, r2, r3, r4, r5, r6⟩ := h
  have e1 : m.2.2.1 = mo.2.2.1 := congrArg Prod.fst h2
  have e2 : m.2.2.2 = mo.2.2.2 := congrArg Prod.snd h2
  exact ⟨by rw [e2]; exact r1, r2, RU_up r3 rfl rfl (fun _ _ => rfl) (h1 6 (by decide) (by decide)) (by rw [e2]), RV_up r4 rfl (fun _ _ => rfl) (by rw [e1]) (by rw [e2]), RB_up r5 rfl rfl rfl (h1 10 (by decide) (by decide)) (h1 17 (by decide) (by decide)) (by rw [e1]), RW_up r6 rfl rfl (h1 21 (by decide) (by decide)) (by rw [e1])⟩
theorem Rel_7 {c : Cst} {mo : Ob} (h : Rel c mo) (x : Int32) : Rel c (oi mo 7 x) := Rel_m h (fun k k7 _ => oi_n mo x k7) rfl
theorem Rel_pr {u0 u1 : Ob} {u2 u3 u3' : Nat → Ob} {mo m v : Ob} (h : Rel (u0, u1, u2, u3) mo) (hv : RR v (m.2.2.2 0)) (hs : Sd mo m) : Rel (u0, u1, va_up u2 0 v, u3') m := by
  obtain ⟨r1, r2, r3, r4, r5, r6⟩ := h
  obtain ⟨s1, s2, s3, s4⟩ := hs
  refine ⟨?_, ?_, RU_up r3 rfl rfl (fun i hi => va_up_ne _ _ (by omega)) (s1 6 (by decide)) (s4 3 (by decide)), RV_up r4 rfl (fun i hi => va_up_ne _ _ (by omega)) (by rw [s3]) (s4 4 (by decide)), RB_up r5 rfl rfl rfl (s1 10 (by decide)) (s1 17 (by decide)) (by rw [s3]), RW_up r6 rfl rfl (s1 21 (by decide)) (by rw [s3])⟩
  · show RR (va_up u2 0 v 0) _
    rw [va_up_self]
    exact hv
  · show RR (va_up u2 0 v 1) _
    rw [va_up_ne _ _ (by decide)]
    exact r2
theorem Rel_sc {u0 u1 : Ob} {u2 u3 u3' : Nat → Ob} {mo m : Ob} (h : Rel (u0, u1, u2, u3) mo) (hs : Sc mo m) : Rel (u0, u1, u2, u3') m := by
  have := Rel_pr (u3' := u3') h (v := u2 0) (by rw [hs.2.2]; exact h.1) (Sd_Sc hs)
  rw [va_up_id] at this
  exact this
theorem remember_v {N : Nat} (hN : 700 ≤ N) {u0 u1 : Ob} {u2 u3 : Nat → Ob} {mo : Ob} (h : Rel (u0, u1, u2, u3) mo) : ∃ (v0 : Ob) (v2 : Nat → Ob) (m : Ob), f_X5_remember N u0 u1 u2 u3 = some (v0, u1, v2, u3) ∧ f_X6_keeps N mo = some m ∧ Rel (v0, u1, v2, u3) m ∧ (∀ j, j < 3 ∨ 11 ≤ j → v2 j = u2 j) ∧ (∀ k, k ≠ 6 → m.1 k = mo.1 k) ∧ (∀ k, k ≠ 3 → m.2.2.2 k = mo.2.2.2 k) ∧ m.2.1 = mo.2.1 ∧ m.2.2.1 = mo.2.2.1 ∧ v0.2.2.1 = u0.2.2.1 := by
  obtain ⟨r1, r2, ⟨e, c, e8, c8, h4, h5, h6, hu⟩, r4, r5, r6⟩ := h
  have h4 : u0.1 4 = zI e := h4
  have h5 : u0.1 5 = zI c := h5
  obtain ⟨b, b1, b2, b3⟩ := keeps_v hN c8 mo h6
  obtain ⟨v, v1, v2⟩ := X4_copyFrom_v N (u2 (3 + e)) (u2 0)
  have ce : (zI (e : Int) < 0 ∨ 8 ≤ (zI (e : Int)).toNatClampNeg) = False := by
    rw [zI_tnN (by omega)]
    simp (maxSteps := 400000) (disch := omega) only [zI_lit, zI_neg, zI_add, zI_sub, zI_mul, zI_div, zI_tn, zI_toL, zL_lit, zL_neg, zL_add, zL_sub, zL_mul, zL_div, zL_toI, zI_ltT, zI_ltF, zI_leT, zI_leF, zI_eqT, zI_eqF, zL_ltT, zL_ltF, zL_leT, zL_leF, zL_eqT, zL_eqF, nleT, nleF, or_self, or_false, false_or, true_or, or_true, not_true_eq_false, not_false_eq_true, ↓reduceIte, Option.bind_some, Bool.false_eq_true, decide_true, decide_false]
  have ze : zI (e : Int) + 1 - (zI (e : Int) + 1) / 8 * 8 = zI (((e + 1) % 8 : Nat) : Int) := by
    simp (maxSteps := 400000) (disch := omega) only [zI_lit, zI_neg, zI_add, zI_sub, zI_mul, zI_div, zI_tn, zI_toL, zL_lit, zL_neg, zL_add, zL_sub, zL_mul, zL_div, zL_toI, zI_lt, zI_le, zI_eq, zL_lt, zL_le, zL_eq]
    congr 1
    omega
  have cc : ((8 : Int32) ≤ zI (c : Int)) = (c = 8) := by
    rw [zI_lit, zI_le (by omega) (by omega) (by omega) (by omega)]
    exact propext (by omega)
  have hf : f_X5_remember N u0 u1 u2 u3 = some ((if c = 8 then oi u0 4 (zI (((e + 1) % 8 : Nat) : Int)) else oi (oi u0 4 (zI (((e + 1) % 8 : Nat) : Int))) 5 (zI ((c + 1 : Nat) : Int))), u1, va_up (va_up u2 (3 + e) v) 0 (u2 0), u3) := by
    rw [f_X5_remember, h4, ifF ce, zI_tnN (by omega), v1, Option.bind_some, ze, h5, zI_suc]
    by_cases g : c = 8
    · rw [ifP cc g, if_pos g]
    · rw [ifN cc g, if_neg g]
  have w0 : (va_up (va_up u2 (3 + e) v) 0 (u2 0)) 0 = u2 0 := va_up_self _ _ _
  have w1 : ∀ j, j ≠ 0 → j ≠ 3 + e → (va_up (va_up u2 (3 + e) v) 0 (u2 0)) j = u2 j := fun j j0 je => by rw [va_up_ne _ _ j0, va_up_ne _ _ je]
  have w2 : (va_up (va_up u2 (3 + e) v) 0 (u2 0)) (3 + e) = v := by rw [va_up_ne _ _ (by omega), va_up_self]
  generalize va_up (va_up u2 (3 + e) v) 0 (u2 0) = w at *
  refine ⟨_, w, _, hf, b1, ⟨?_, ?_, ?_, ?_, ?_, ?_⟩, fun j hj => ?_, fun k hk => oi_n _ _ hk, fun k hk => oj_n mo _ hk, rfl, rfl, ?_⟩
  · show RR (w 0) ((oj mo 3 b).2.2.2 0)
    rw [w0, oj_n _ _ (by decide)]
    exact r1
  · show RR (w 1) a00
    rw [w1 1 (by decide) (by omega)]
    exact r2
  · refine ⟨(e + 1) % 8, (if c = 8 then 8 else c + 1), by omega, by split <;> omega, ?_, ?_, oi_s _ 6 _, fun i hi => ?_⟩
    · show (if c = 8 then oi u0 4 (zI (((e + 1) % 8 : Nat) : Int)) else oi (oi u0 4 (zI (((e + 1) % 8 : Nat) : Int))) 5 (zI ((c + 1 : Nat) : Int))).1 4 = _
      by_cases g : c = 8
      · rw [if_pos g, oi_s]
      · rw [if_neg g, oi_n _ _ (by decide), oi_s]
    · show (if c = 8 then oi u0 4 (zI (((e + 1) % 8 : Nat) : Int)) else oi (oi u0 4 (zI (((e + 1) % 8 : Nat) : Int))) 5 (zI ((c + 1 : Nat) : Int))).1 5 = _
      by_cases g : c = 8
      · rw [if_pos g, if_pos g, oi_n _ _ (by decide), h5, g]
      · rw [if_neg g, if_neg g, oi_s]
    · show RR (w _) (fun k => (oj mo 3 b).2.2.2 3 (48 * i + k))
      rw [oj_s]
      by_cases g : c = 8
      · rw [if_pos g] at hi b2 b3 ⊢
        rw [g] at hu
        by_cases gi : i < 7
        · rw [show 3 + ((e + 1) % 8 + 8 - 8 + i) % 8 = 3 + (e + 8 - 8 + (i + 1)) % 8 by omega, w1 _ (by omega) (by omega)]
          refine RR_row (fun k hk => ?_) (hu (i + 1) (by omega))
          show b (48 * i + k) = mo.2.2.2 3 (48 * (i + 1) + k)
          have := b2 i k gi hk
          rw [if_pos g] at this
          exact this
        · rw [show 3 + ((e + 1) % 8 + 8 - 8 + i) % 8 = 3 + e by omega, w2]
          refine RR_cp v2 (fun k hk => ?_) r1
          rw [show i = 7 by omega]
          exact b3 k hk
      · rw [if_neg g] at hi b2 b3 ⊢
        by_cases gi : i < c
        · rw [show 3 + ((e + 1) % 8 + 8 - (c + 1) + i) % 8 = 3 + (e + 8 - c + i) % 8 by omega, w1 _ (by omega) (by omega)]
          refine RR_row (fun k hk => ?_) (hu i gi)
          show b (48 * i + k) = mo.2.2.2 3 (48 * i + k)
          have := b2 i k gi hk
          rw [if_neg g] at this
          exact this
        · rw [show 3 + ((e + 1) % 8 + 8 - (c + 1) + i) % 8 = 3 + e by omega, w2]
          refine RR_cp v2 (fun k hk => ?_) r1
          rw [show i = c by omega]
          exact b3 k hk
  · refine RV_up r4 ?_ (fun i hi => w1 _ (by omega) (by omega)) rfl (oj_n mo _ (by decide))
    split <;> rfl
  · exact RB_up r5 rfl rfl rfl (oi_n _ _ (by decide)) (oi_n _ _ (by decide)) rfl
  · refine RW_up r6 ?_ ?_ (oi_n _ _ (by decide)) rfl
    · show (if c = 8 then oi u0 4 (zI (((e + 1) % 8 : Nat) : Int)) else oi (oi u0 4 (zI (((e + 1) % 8 : Nat) : Int))) 5 (zI ((c + 1 : Nat) : Int))).1 10 = _
      by_cases g : c = 8
      · rw [if_pos g, oi_n _ _ (by decide)]
      · rw [if_neg g, oi_n _ _ (by decide), oi_n _ _ (by decide)]
    · show (if c = 8 then oi u0 4 (zI (((e + 1) % 8 : Nat) : Int)) else oi (oi u0 4 (zI (((e + 1) % 8 : Nat) : Int))) 5 (zI ((c + 1 : Nat) : Int))).2.2.1 9 = _
      split <;> rfl
  · by_cases g : j = 0
    · rw [g, w0]
    · exact w1 j g (by omega)
  · split <;> rfl
