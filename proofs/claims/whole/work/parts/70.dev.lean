/-! deviation -/
theorem fin_7 : ∀ k : Fin 7, (match FP.Core.val32 (FP.Core.l2f (zL ((k.val : Int) + 1))) with | .fin _ c _ => decide (c ≠ 0) | _ => false) = true := by decide +kernel
theorem quo_nan {f : FP.Core.Fmt} {x y : FP.Core.Datum} (hx : x ≠ .nan) (hy : (match y with | .fin _ c _ => decide (c ≠ 0) | _ => false) = true) : FP.Core.quotient f x y ≠ .nan := by
  cases y with
  | nan => simp at hy
  | inf s => simp at hy
  | fin t d r =>
    have hd : d ≠ 0 := by simpa using hy
    cases x with
    | nan => exact absurd rfl hx
    | inf s =>
      intro h
      simp [FP.Core.quotient] at h
    | fin s c q =>
      show (if d = 0 then (if c = 0 then FP.Core.Datum.nan else .inf (s != t)) else FP.Core.roundRatio f (s != t) c d (q - r)) ≠ .nan
      rw [if_neg hd]
      exact FP.Core.roundRatio_ne_nan _ _ _ _ _
theorem fd_n (S : Int64) {k : Nat} (h1 : 1 ≤ k) (h2 : k ≤ 7) : FP.Core.val32 (FP.fdiv (FP.l2f S) (FP.l2f (zL k))) ≠ .nan := by
  show FP.Core.val32 (FP.Core.fdiv (FP.Core.l2f S) (FP.Core.l2f (zL k))) ≠ .nan
  rw [FP.Core.val32_fdiv]
  refine quo_nan ?_ ?_
  · rw [FP.Core.val32_l2f]
    exact FP.Core.roundRatio_ne_nan _ _ _ _ _
  · have := fin_7 ⟨k - 1, by omega⟩
    rw [show (((⟨k - 1, by omega⟩ : Fin 7).val : Int) + 1) = (k : Int) by show ((k - 1 : Nat) : Int) + 1 = k; omega] at this
    exact this
theorem i2f_l2f {k : Nat} (h : k < 2147483648) : FP.i2f (zI k) = FP.l2f (zL k) := by
  show UInt32.ofNat (FP.Core.fromInt FP.Core.b32 (zI (k : Int)).toInt) = UInt32.ofNat (FP.Core.fromInt FP.Core.b32 (zL (k : Int)).toInt)
  rw [zI_toInt (by omega) (by omega), zL_toInt (by omega) (by omega)]
theorem n32_of {r : UInt32} (h : FP.Core.val32 r ≠ .nan) : r &&& 0x7fffffff ≤ 0x7f800000 := by
  have h1 := (FP.Core.ne_nan32 r).mp h
  rw [UInt32.le_iff_toNat_le, UInt32.toNat_and]
  have h2 : r.toNat &&& (0x7fffffff : UInt32).toNat = r.toNat % 2 ^ 31 := Nat.and_two_pow_sub_one_eq_mod _ 31
  rw [h2]
  exact h1
theorem n64_of {r : UInt64} (h : FP.Core.val64 r ≠ .nan) : vf_n64 r := by
  have h1 := (FP.Core.ne_nan r).mp h
  unfold vf_n64
  rw [UInt64.le_iff_toNat_le, UInt64.toNat_and]
  have h2 : r.toNat &&& (0x7fffffffffffffff : UInt64).toNat = r.toNat % 2 ^ 63 := Nat.and_two_pow_sub_one_eq_mod _ 63
  rw [h2]
  exact h1
theorem f2d_n {r : UInt32} (h : FP.Core.val32 r ≠ .nan) : vf_n64 (FP.f2d r) ∧ FP.dcmp (FP.f2d r) (FP.f2d r) = some .eq := by
  have h1 : FP.fIsNaN r = false := (FP.Core.notNaN_iff32 r).mpr h
  have h2 : FP.dIsNaN (FP.f2d r) = false := (FP.f2d_nan r).trans h1
  have h3 : FP.Core.val64 (FP.f2d r) ≠ .nan := (FP.Core.notNaN_iff (FP.f2d r)).mp h2
  exact ⟨n64_of h3, FP.Core.dcmp_self h3⟩
theorem dev_l {N : Nat} {u0 u1 : Ob} {u2 u3 : Nat → Ob} {X k : Nat} {xm xt : Nat → Int} (hX1 : X = k + 1) (hk1 : 1 ≤ k) (hk : k ≤ 7) {a : Nat → Int64} (hX : RX (u2 0) a X xm xt) : ∀ (j i n m : Nat) (S : Int64) (mo : Ob), mo.2.2.2 0 = a → 1 ≤ i → i + j = X → j < n → j < m →
    ∃ S' : Int64, l_X5_deviation_31 N n (zI k) S (zI i) u0 u1 u2 u3 = some (.inr (FP.fdiv (FP.l2f S') (FP.l2f (zL k))), u0, u1, u2, u3) ∧ l_X6_deviation_36 N m S (zI i) mo = some (FP.fdiv (FP.l2f S') (FP.l2f (zL k)), mo) := by
  obtain ⟨⟨y1, y2⟩, y3, y4⟩ := hX
  intro j
  induction j with
  | zero =>
    intro i n m S mo hm hi hj hn hn2
    obtain ⟨n, rfl⟩ : ∃ k, n = k + 1 := ⟨n - 1, by omega⟩
    obtain ⟨m, rfl⟩ : ∃ k, m = k + 1 := ⟨m - 1, by omega⟩
    have nn := fd_n S hk1 hk
    have bb := n32_of nn
    refine ⟨S, ?_, ?_⟩
    · rw [l_X5_deviation_31, if_pos (show zI (k : Int) < zI (i : Int) by rw [zI_lt (by omega) (by omega) (by omega) (by omega)]; omega), i2f_l2f (by omega), if_neg (not_not_intro bb)]
    · have zs : a 13 - 1 = zL k := by
        rw [y2, zL_lit, zL_sub]
        congr 1
        omega
      have cl : (a 13 ≤ (zI (i : Int)).toInt64) := by
        rw [y2, zI_toL (by omega) (by omega), zL_le (by omega) (by omega) (by omega) (by omega)]
        omega
      rw [l_X6_deviation_36, hm, show (13 : Int32).toNatClampNeg = 13 from rfl, if_pos cl, zs, if_neg (not_not_intro bb)]
  | succ j ih =>
    intro i n m S mo hm hi hj hn hn2
    obtain ⟨n, rfl⟩ : ∃ k, n = k + 1 := ⟨n - 1, by omega⟩
    obtain ⟨m, rfl⟩ : ∃ k, m = k + 1 := ⟨m - 1, by omega⟩
    obtain ⟨⟨a1, a2⟩, ⟨a3, a4⟩, a5, a6, a7, a8⟩ := y4 0 (by omega)
    obtain ⟨⟨b1, b2⟩, ⟨b3, b4⟩, b5, b6, b7, b8⟩ := y4 i (by omega)
    have a2 : a 32 = zL (xm 0) := a2
    have a4 : a 33 = zL (xt 0) := a4
    have d1 : (zI (i : Int) < 0 ∨ 8 ≤ (zI (i : Int)).toNatClampNeg) = False := by
      rw [zI_tnN (by omega)]
      simp (maxSteps := 400000) (disch := omega) only [zI_lit, zI_neg, zI_add, zI_sub, zI_mul, zI_div, zI_tn, zI_toL, zL_lit, zL_neg, zL_add, zL_sub, zL_mul, zL_div, zL_toI, zI_ltT, zI_ltF, zI_leT, zI_leF, zI_eqT, zI_eqF, zL_ltT, zL_ltF, zL_leT, zL_leF, zL_eqT, zL_eqF, nleT, nleF, or_self, or_false, false_or, true_or, or_true, not_true_eq_false, not_false_eq_true, ↓reduceIte, Option.bind_some, Bool.false_eq_true, decide_true, decide_false]
    have t1 : f_X4_timeSinceFix N (zI i) (u2 0) = some (zL (xt 0 - xt i)) := by
      rw [f_X4_timeSinceFix, ifF d1, show (0 : Int32).toNatClampNeg = 0 from rfl, zI_tnN (by omega), a3, b3, zI_toL (by omega) (by omega), zI_toL (by omega) (by omega), zL_sub]
    have t2 : f_X4_minutesSinceFix N (zI i) (u2 0) = some (zL (60000 * (xm 0 - xm i))) := by
      rw [f_X4_minutesSinceFix, ifF d1, show (0 : Int32).toNatClampNeg = 0 from rfl, zI_tnN (by omega), a1, b1, zI_sub, zI_toL (by omega) (by omega), zL_lit, zL_mul]
    have z1 : (32 : Int32) + 2 * zI (i : Int) = zI ((32 + 2 * i : Nat) : Int) := by simp (maxSteps := 400000) (disch := omega) only [zI_lit, zI_neg, zI_add, zI_sub, zI_mul, zI_div, zI_tn, zI_toL, zL_lit, zL_neg, zL_add, zL_sub, zL_mul, zL_div, zL_toI, zI_lt, zI_le, zI_eq, zL_lt, zL_le, zL_eq]; rfl
    have z2 : zI ((32 + 2 * i : Nat) : Int) + 1 = zI ((33 + 2 * i : Nat) : Int) := by
      rw [zI_suc, show 32 + 2 * i + 1 = 33 + 2 * i by omega]
    have d2 : (zI ((32 + 2 * i : Nat) : Int) < 0 ∨ 48 ≤ (zI ((32 + 2 * i : Nat) : Int)).toNatClampNeg) = False := by
      rw [zI_tnN (by omega)]
      simp (maxSteps := 400000) (disch := omega) only [zI_lit, zI_neg, zI_add, zI_sub, zI_mul, zI_div, zI_tn, zI_toL, zL_lit, zL_neg, zL_add, zL_sub, zL_mul, zL_div, zL_toI, zI_ltT, zI_ltF, zI_leT, zI_leF, zI_eqT, zI_eqF, zL_ltT, zL_ltF, zL_leT, zL_leF, zL_eqT, zL_eqF, nleT, nleF, or_self, or_false, false_or, true_or, or_true, not_true_eq_false, not_false_eq_true, ↓reduceIte, Option.bind_some, Bool.false_eq_true, decide_true, decide_false]
    have d3 : (zI ((33 + 2 * i : Nat) : Int) < 0 ∨ 48 ≤ (zI ((33 + 2 * i : Nat) : Int)).toNatClampNeg) = False := by
      rw [zI_tnN (by omega)]
      simp (maxSteps := 400000) (disch := omega) only [zI_lit, zI_neg, zI_add, zI_sub, zI_mul, zI_div, zI_tn, zI_toL, zL_lit, zL_neg, zL_add, zL_sub, zL_mul, zL_div, zL_toI, zI_ltT, zI_ltF, zI_leT, zI_leF, zI_eqT, zI_eqF, zL_ltT, zL_ltF, zL_leT, zL_leF, zL_eqT, zL_eqF, nleT, nleF, or_self, or_false, false_or, true_or, or_true, not_true_eq_false, not_false_eq_true, ↓reduceIte, Option.bind_some, Bool.false_eq_true, decide_true, decide_false]
    generalize hD : 60000 * (xm 0 - xm i) - (xt 0 - xt i) = D
    have hDr : -9000000000000 ≤ D ∧ D ≤ 9000000000000 := by omega
    have sz : f_X6_sizeOf N (60000 * (a (32 + 2 * i) - a 32) - (a (33 + 2 * i) - a 33)) = some (if 0 < zL D then zL D else -zL D) := by
      have e : (60000 : Int64) * (a (32 + 2 * i) - a 32) - (a (33 + 2 * i) - a 33) = zL (-D) := by
        rw [a2, a4, b2, b4, zL_lit, zL_sub, zL_sub, zL_mul, zL_sub]
        congr 1
        omega
      rw [e, f_X6_sizeOf]
      have c1 : ((0 : Int64) ≤ zL (-D)) = (0 ≤ -D) := by rw [zL_lit, zL_le (by omega) (by omega) (by omega) (by omega)]
      have c2 : ((0 : Int64) < zL D) = (0 < D) := by rw [zL_lit, zL_lt (by omega) (by omega) (by omega) (by omega)]
      by_cases g : 0 < D
      · rw [ifN c1 (by omega), ifP c2 g, zL_neg]
        congr 2
        omega
      · rw [ifP c1 (by omega), ifN c2 g, zL_neg]
    obtain ⟨S', s1, s2⟩ := ih (i + 1) n m (S + if 0 < zL D then zL D else -zL D) mo hm (by omega) (by omega) (by omega) (by omega)
    refine ⟨S', ?_, ?_⟩
    · rw [l_X5_deviation_31, if_neg (show ¬ zI (k : Int) < zI (i : Int) by rw [zI_lt (by omega) (by omega) (by omega) (by omega)]; omega), if_neg (show ¬ (8 : Int32) ≤ zI (i : Int) by rw [zI_lit, zI_le (by omega) (by omega) (by omega) (by omega)]; omega), t2, Option.bind_some, t1, Option.bind_some, zL_sub, hD, zI_suc]
      exact s1
    · have cl : ¬ (a 13 ≤ (zI (i : Int)).toInt64) := by
        rw [y2, zI_toL (by omega) (by omega), zL_le (by omega) (by omega) (by omega) (by omega)]
        omega
      rw [l_X6_deviation_36, hm, show (13 : Int32).toNatClampNeg = 13 from rfl, if_neg cl, z1, z2, ifF d2, ifF d3, zI_tnN (by omega), zI_tnN (by omega), show (32 : Int32).toNatClampNeg = 32 from rfl, show (33 : Int32).toNatClampNeg = 33 from rfl, sz, Option.bind_some, zI_suc]
      exact s2
theorem st_deviation {N : Nat} (hN : 700 ≤ N) : S_deviation Rel N := by
  intro u0 u1 u2 u3 mo h
  obtain ⟨st, pos, mark, bef, ign, len, F, told, votd, X, xm, xt, hS, hK, hC, hF, hT, hX, hI⟩ := id h.1
  have hX : RX (u2 0) (mo.2.2.2 0) X xm xt := hX
  obtain ⟨⟨y1, y2⟩, y3, y4⟩ := id hX
  have e5 := f_X5_deviation.eq_1 N u0 u1 u2 u3
  have e6 := f_X6_deviation.eq_1 N mo
  have zs : zI (X : Int) - 1 = zI ((X : Int) - 1) := by rw [zI_lit, zI_sub]
  have c1 : ((1 : Int32) ≤ zI ((X : Int) - 1)) = (2 ≤ X) := by
    rw [zI_lit, zI_le (by omega) (by omega) (by omega) (by omega)]
    exact propext (by omega)
  have c2 : ((2 : Int64) ≤ zL (X : Int)) = (2 ≤ X) := by
    rw [zL_lit, zL_le (by omega) (by omega) (by omega) (by omega)]
    exact propext (by omega)
  rw [y1, zs] at e5
  rw [show (13 : Int32).toNatClampNeg = 13 from rfl, y2] at e6
  by_cases g : 2 ≤ X
  · rw [ifP c1 g] at e5
    rw [ifP c2 g] at e6
    obtain ⟨k, hk⟩ : ∃ k, X = k + 1 := ⟨X - 1, by omega⟩
    have zk : zI ((X : Int) - 1) = zI (k : Int) := by
      congr 1
      omega
    rw [zk] at e5
    obtain ⟨S', s1, s2⟩ := dev_l (N := N) (u0 := u0) (u1 := u1) (u2 := u2) (u3 := u3) hk (by omega) (by omega) hX (X - 1) 1 N N 0 (oi mo 7 0) rfl (by omega) (by omega) (by omega) (by omega)
    have nn := fd_n S' (k := k) (by omega) (by omega)
    refine ⟨_, _, _, e5.trans s1, e6.trans s2, ⟨oi_s mo 7 0, rfl⟩, Rel_7 h 0, fun r hr => ?_⟩
    have hr : FP.fdiv (FP.l2f S') (FP.l2f (zL k)) = r := Sum.inr.inj hr
    rw [← hr]
    exact f2d_n nn
  · rw [ifN c1 g] at e5
    rw [ifN c2 g] at e6
    exact ⟨_, _, _, e5, e6, Or.inl ⟨rfl, oi_s mo 7 1⟩, Rel_7 h 1, fun r hr => by have hr : (Sum.inl 3 : Nat ⊕ UInt32) = Sum.inr r := hr; cases hr⟩
theorem steps_v {N : Nat} (hN : 700 ≤ N) : Steps Rel N := ⟨st_append hN, st_load hN, st_errorPosition N, st_count hN, st_part hN, st_number hN, st_code hN, st_pulse hN, st_hear hN, st_bit N, st_frame hN, st_frameBit N, st_votes hN, st_favourite hN, st_block hN, st_assembled hN, st_dissenting hN, st_weakest hN, st_fix N, st_clock N, st_deviation hN, st_estimate N, st_set hN, st_discipline hN, st_forget hN, st_writeTime hN, st_writtenByte N, st_undo hN, st_save hN, st_restore hN⟩
