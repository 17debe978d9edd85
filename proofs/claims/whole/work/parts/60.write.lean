/-! the time written -/
def WC (u0 mo v0 m : Ob) (n : Nat) : Prop := (v0.1 10 = zI n ∧ m.1 21 = zI n ∧ ∀ k, k < n → v0.2.2.1 9 k = m.2.2.1 20 k) ∧ (∀ k, k ≠ 10 → v0.1 k = u0.1 k) ∧ (∀ k, k ≠ 9 → v0.2.2.1 k = u0.2.2.1 k) ∧ (∀ k, k ≠ 21 → m.1 k = mo.1 k) ∧ (∀ k, k ≠ 20 → m.2.2.1 k = mo.2.2.1 k) ∧ m.2.2.2 = mo.2.2.2
theorem chr_fin : ∀ c : Fin 128, vp_nar .byte (nI c.val).toInt8.toInt32 = nI c.val ∧ i2c (nI c.val) = nI c.val := by decide +kernel
theorem say_v (N : Nat) {u0 mo v0 m : Ob} {n c : Nat} (u1 : Ob) (u2 u3 : Nat → Ob) (h : WC u0 mo v0 m n) (hn : n < 18) (hc : c < 128) : ∃ v0' m', f_X5_writeSign N (zI c) v0 u1 u2 u3 = some (v0', u1, u2, u3) ∧ f_X6_says N (zI c) m = some m' ∧ WC u0 mo v0' m' (n + 1) := by
  obtain ⟨⟨h1, h2, h3⟩, h4, h5, h6, h7, h8⟩ := h
  have ch := (chr_fin ⟨c, hc⟩).1
  have ch : vp_nar .byte (zI (c : Int)).toInt8.toInt32 = zI c := ch
  have c1 : ((18 : Int32) ≤ zI (n : Int)) = False := by simp (maxSteps := 400000) (disch := omega) only [zI_lit, zI_neg, zI_add, zI_sub, zI_mul, zI_div, zI_tn, zI_toL, zL_lit, zL_neg, zL_add, zL_sub, zL_mul, zL_div, zL_toI, zI_ltT, zI_ltF, zI_leT, zI_leF, zI_eqT, zI_eqF, zL_ltT, zL_ltF, zL_leT, zL_leF, zL_eqT, zL_eqF, nleT, nleF, or_self, or_false, false_or, true_or, or_true, not_true_eq_false, not_false_eq_true, ↓reduceIte, Option.bind_some, Bool.false_eq_true, decide_true, decide_false]
  have c2 : (zI (n : Int) < 0 ∨ 18 ≤ n) = False := by simp (maxSteps := 400000) (disch := omega) only [zI_lit, zI_neg, zI_add, zI_sub, zI_mul, zI_div, zI_tn, zI_toL, zL_lit, zL_neg, zL_add, zL_sub, zL_mul, zL_div, zL_toI, zI_ltT, zI_ltF, zI_leT, zI_leF, zI_eqT, zI_eqF, zL_ltT, zL_ltF, zL_leT, zL_leF, zL_eqT, zL_eqF, nleT, nleF, or_self, or_false, false_or, true_or, or_true, not_true_eq_false, not_false_eq_true, ↓reduceIte, Option.bind_some, Bool.false_eq_true, decide_true, decide_false]
  have c3 : (zI (n : Int) < 0 ∨ 20 ≤ n) = False := by simp (maxSteps := 400000) (disch := omega) only [zI_lit, zI_neg, zI_add, zI_sub, zI_mul, zI_div, zI_tn, zI_toL, zL_lit, zL_neg, zL_add, zL_sub, zL_mul, zL_div, zL_toI, zI_ltT, zI_ltF, zI_leT, zI_leF, zI_eqT, zI_eqF, zL_ltT, zL_ltF, zL_leT, zL_leF, zL_eqT, zL_eqF, nleT, nleF, or_self, or_false, false_or, true_or, or_true, not_true_eq_false, not_false_eq_true, ↓reduceIte, Option.bind_some, Bool.false_eq_true, decide_true, decide_false]
  refine ⟨oi (oa v0 9 (upd (v0.2.2.1 9) n (zI c))) 10 (zI ((n + 1 : Nat) : Int)), oi (oa m 20 (upd (m.2.2.1 20) n (zI c))) 21 (zI ((n + 1 : Nat) : Int)), ?_, ?_, ⟨oi_s _ 10 _, oi_s _ 21 _, fun k hk => ?_⟩, fun k hk => ?_, fun k hk => ?_, fun k hk => ?_, fun k hk => ?_, h8⟩
  · rw [f_X5_writeSign, h1, zI_tnN (by omega), ifF c1, ifF c2, ch, zI_suc]
  · rw [f_X6_says, h2, zI_tnN (by omega), ifF c3, zI_suc]
  · show (oa v0 9 (upd (v0.2.2.1 9) n (zI c))).2.2.1 9 k = (oa m 20 (upd (m.2.2.1 20) n (zI c))).2.2.1 20 k
    rw [oa_s, oa_s]
    unfold upd
    by_cases e : k = n
    · rw [if_pos e, if_pos e]
    · rw [if_neg e, if_neg e]
      exact h3 k (by omega)
  · rw [oi_n _ _ hk]
    exact h4 k hk
  · show (oa v0 9 (upd (v0.2.2.1 9) n (zI c))).2.2.1 k = _
    rw [oa_n _ _ hk]
    exact h5 k hk
  · rw [oi_n _ _ hk]
    exact h6 k hk
  · show (oa m 20 (upd (m.2.2.1 20) n (zI c))).2.2.1 k = _
    rw [oa_n _ _ hk]
    exact h7 k hk
theorem two_v (N : Nat) {u0 mo v0 m : Ob} {n v : Nat} (u1 : Ob) (u2 u3 : Nat → Ob) (h : WC u0 mo v0 m n) (hn : n < 17) (hv : v < 100) : ∃ v0' m', f_X5_writeTwoDigits N (zI v) v0 u1 u2 u3 = some (v0', u1, u2, u3) ∧ f_X6_saysTwo N (zI v) m = some m' ∧ WC u0 mo v0' m' (n + 2) := by
  have z1 : (48 : Int32) + zI (v : Int) / 10 = zI ((48 + v / 10 : Nat) : Int) := by
    simp (maxSteps := 400000) (disch := omega) only [zI_lit, zI_neg, zI_add, zI_sub, zI_mul, zI_div, zI_tn, zI_toL, zL_lit, zL_neg, zL_add, zL_sub, zL_mul, zL_div, zL_toI, zI_lt, zI_le, zI_eq, zL_lt, zL_le, zL_eq]
    rfl
  have z2 : (48 : Int32) + (zI (v : Int) - zI (v : Int) / 10 * 10) = zI ((48 + v % 10 : Nat) : Int) := by
    simp (maxSteps := 400000) (disch := omega) only [zI_lit, zI_neg, zI_add, zI_sub, zI_mul, zI_div, zI_tn, zI_toL, zL_lit, zL_neg, zL_add, zL_sub, zL_mul, zL_div, zL_toI, zI_lt, zI_le, zI_eq, zL_lt, zL_le, zL_eq]
    congr 1
    omega
  have i1 : i2c (zI ((48 + v / 10 : Nat) : Int)) = zI ((48 + v / 10 : Nat) : Int) := (chr_fin ⟨48 + v / 10, by omega⟩).2
  have i2 : i2c (zI ((48 + v % 10 : Nat) : Int)) = zI ((48 + v % 10 : Nat) : Int) := (chr_fin ⟨48 + v % 10, by omega⟩).2
  obtain ⟨a, b, a1, a2, a3⟩ := say_v N (c := 48 + v / 10) u1 u2 u3 h (by omega) (by omega)
  obtain ⟨c, d, c1, c2, c3⟩ := say_v N (c := 48 + v % 10) u1 u2 u3 a3 (by omega) (by omega)
  refine ⟨c, d, ?_, ?_, c3⟩
  · rw [f_X5_writeTwoDigits, z1, z2, i1, i2, a1, Option.bind_some, c1]
    rfl
  · rw [f_X6_saysTwo, z1, z2, a2, Option.bind_some, c2]
    rfl
theorem st_writeTime {N : Nat} (hN : 700 ≤ N) : S_writeTime Rel N := by
  intro u0 u1 u2 u3 mo h x
  obtain ⟨x, x1, x2, rfl⟩ := zI_get x
  have m5 := X1_hasMinute_v N x1 x2
  have m6 := isMinute_z N x1 x2
  have e5 := f_X5_writeTime.eq_1 N (zI x) u0 u1 u2 u3
  have e6 := f_X6_writeTime.eq_1 N (zI x) mo
  rw [m5, Option.bind_some] at e5
  rw [zI_toL x1 x2, m6, Option.bind_some] at e6
  by_cases hx : 0 ≤ x ∧ x ≤ 52595999
  · rw [decide_eq_true hx, if_pos rfl] at e5 e6
    have d1 : 0 ≤ x / 1440 := by omega
    have d2 : x / 1440 < 36525 := by omega
    have dz : zI x / 1440 = zI (x / 1440) := by simp (maxSteps := 400000) (disch := omega) only [zI_lit, zI_neg, zI_add, zI_sub, zI_mul, zI_div, zI_tn, zI_toL, zL_lit, zL_neg, zL_add, zL_sub, zL_mul, zL_div, zL_toI, zI_lt, zI_le, zI_eq, zL_lt, zL_le, zL_eq]
    have hy := X1_yearOf_v N d1 d2
    have hm := X1_monthOf_v hN d1 d2
    have hd := X1_dayOfMonth_v hN d1 d2
    have hw := X1_weekdayOf_v N d1 d2
    have p0 : f_X6_partOf N (zI x) 0 = some (zI (2000 + yS (x / 1440))) := X6_partOf_v hN (x := x) (w := 0) (by omega) (by omega) (by omega) (by omega)
    have p1 : f_X6_partOf N (zI x) 1 = some (zI (mS (x / 1440))) := X6_partOf_v hN (x := x) (w := 1) (by omega) (by omega) (by omega) (by omega)
    have p2 : f_X6_partOf N (zI x) 2 = some (zI (ddS (x / 1440))) := X6_partOf_v hN (x := x) (w := 2) (by omega) (by omega) (by omega) (by omega)
    have p3 : f_X6_partOf N (zI x) 3 = some (zI (x / 60 % 24)) := X6_partOf_v hN (x := x) (w := 3) (by omega) (by omega) (by omega) (by omega)
    have p4 : f_X6_partOf N (zI x) 4 = some (zI (x % 60)) := X6_partOf_v hN (x := x) (w := 4) (by omega) (by omega) (by omega) (by omega)
    have p5 : f_X6_partOf N (zI x) 5 = some (zI ((x / 1440 + 5) % 7 + 1)) := X6_partOf_v hN (x := x) (w := 5) (by omega) (by omega) (by omega) (by omega)
    obtain ⟨y1, y2, y3, y4⟩ := yS_spec d1 d2
    obtain ⟨n1, n2, n3, n4⟩ := mS_spec d1 d2
    obtain ⟨k1, k2⟩ := ddS_rng d1 d2
    have k3 := dInM_rng (yS (x / 1440)) (mS (x / 1440))
    have q1 : zI (2000 + yS (x / 1440)) / 100 = zI ((20 : Nat) : Int) := by
      simp (maxSteps := 400000) (disch := omega) only [zI_lit, zI_neg, zI_add, zI_sub, zI_mul, zI_div, zI_tn, zI_toL, zL_lit, zL_neg, zL_add, zL_sub, zL_mul, zL_div, zL_toI, zI_lt, zI_le, zI_eq, zL_lt, zL_le, zL_eq]
      congr 1
      omega
    have q2 : zI (2000 + yS (x / 1440)) - zI (2000 + yS (x / 1440)) / 100 * 100 = zI (yS (x / 1440)) := by
      simp (maxSteps := 400000) (disch := omega) only [zI_lit, zI_neg, zI_add, zI_sub, zI_mul, zI_div, zI_tn, zI_toL, zL_lit, zL_neg, zL_add, zL_sub, zL_mul, zL_div, zL_toI, zI_lt, zI_le, zI_eq, zL_lt, zL_le, zL_eq]
      congr 1
      omega
    have q3 : zI x / 60 - zI x / 60 / 24 * 24 = zI (x / 60 % 24) := by
      simp (maxSteps := 400000) (disch := omega) only [zI_lit, zI_neg, zI_add, zI_sub, zI_mul, zI_div, zI_tn, zI_toL, zL_lit, zL_neg, zL_add, zL_sub, zL_mul, zL_div, zL_toI, zI_lt, zI_le, zI_eq, zL_lt, zL_le, zL_eq]
      congr 1
      omega
    have q4 : zI x - zI x / 60 * 60 = zI (x % 60) := by
      simp (maxSteps := 400000) (disch := omega) only [zI_lit, zI_neg, zI_add, zI_sub, zI_mul, zI_div, zI_tn, zI_toL, zL_lit, zL_neg, zL_add, zL_sub, zL_mul, zL_div, zL_toI, zI_lt, zI_le, zI_eq, zL_lt, zL_le, zL_eq]
      congr 1
      omega
    rw [q1] at q2
    generalize yS (x / 1440) = y at *
    generalize mS (x / 1440) = mm at *
    generalize ddS (x / 1440) = dd at *
    obtain ⟨y, rfl⟩ : ∃ k : Nat, y = k := ⟨y.toNat, by omega⟩
    obtain ⟨mm, rfl⟩ : ∃ k : Nat, mm = k := ⟨mm.toNat, by omega⟩
    obtain ⟨dd, rfl⟩ : ∃ k : Nat, dd = k := ⟨dd.toNat, by omega⟩
    obtain ⟨hh, hhe⟩ : ∃ k : Nat, x / 60 % 24 = k := ⟨(x / 60 % 24).toNat, by omega⟩
    obtain ⟨mi, mie⟩ : ∃ k : Nat, x % 60 = k := ⟨(x % 60).toNat, by omega⟩
    obtain ⟨wd, wde⟩ : ∃ k : Nat, (x / 1440 + 5) % 7 + 1 = k := ⟨((x / 1440 + 5) % 7 + 1).toNat, by omega⟩
    rw [hhe] at q3 p3
    rw [mie] at q4 p4
    rw [wde] at hw p5
    have W0 : WC (oi u0 10 0) (oi (oi mo 7 0) 21 0) (oi u0 10 0) (oi (oi mo 7 0) 21 0) 0 := ⟨⟨oi_s _ 10 _, oi_s _ 21 _, fun k hk => by omega⟩, fun _ _ => rfl, fun _ _ => rfl, fun _ _ => rfl, fun _ _ => rfl, rfl⟩
    obtain ⟨a1, b1, s1, t1, W1⟩ := two_v N (v := 20) u1 u2 u3 W0 (by omega) (by omega)
    obtain ⟨a2, b2, s2, t2, W2⟩ := two_v N (v := y) u1 u2 u3 W1 (by omega) (by omega)
    obtain ⟨a3, b3, s3, t3, W3⟩ := say_v N (c := 45) u1 u2 u3 W2 (by omega) (by omega)
    obtain ⟨a4, b4, s4, t4, W4⟩ := two_v N (v := mm) u1 u2 u3 W3 (by omega) (by omega)
    obtain ⟨a5, b5, s5, t5, W5⟩ := say_v N (c := 45) u1 u2 u3 W4 (by omega) (by omega)
    obtain ⟨a6, b6, s6, t6, W6⟩ := two_v N (v := dd) u1 u2 u3 W5 (by omega) (by omega)
    obtain ⟨a7, b7, s7, t7, W7⟩ := say_v N (c := 32) u1 u2 u3 W6 (by omega) (by omega)
    obtain ⟨a8, b8, s8, t8, W8⟩ := two_v N (v := hh) u1 u2 u3 W7 (by omega) (by omega)
    obtain ⟨a9, b9, s9, t9, W9⟩ := say_v N (c := 58) u1 u2 u3 W8 (by omega) (by omega)
    obtain ⟨a10, b10, s10, t10, W10⟩ := two_v N (v := mi) u1 u2 u3 W9 (by omega) (by omega)
    obtain ⟨a11, b11, s11, t11, W11⟩ := say_v N (c := 32) u1 u2 u3 W10 (by omega) (by omega)
    obtain ⟨a12, b12, s12, t12, W12⟩ := say_v N (c := 48 + wd) u1 u2 u3 W11 (by omega) (by omega)
    have zw : (48 : Int32) + zI (wd : Int) = zI ((48 + wd : Nat) : Int) := by rw [zI_lit, zI_add]; rfl
    have iw : i2c (zI ((48 + wd : Nat) : Int)) = zI ((48 + wd : Nat) : Int) := (chr_fin ⟨48 + wd, by omega⟩).2
    have s1 : f_X5_writeTwoDigits N 20 (oi u0 10 0) u1 u2 u3 = some (a1, u1, u2, u3) := s1
    have s3 : f_X5_writeSign N 45 a2 u1 u2 u3 = some (a3, u1, u2, u3) := s3
    have s5 : f_X5_writeSign N 45 a4 u1 u2 u3 = some (a5, u1, u2, u3) := s5
    have s7 : f_X5_writeSign N 32 a6 u1 u2 u3 = some (a7, u1, u2, u3) := s7
    have s9 : f_X5_writeSign N 58 a8 u1 u2 u3 = some (a9, u1, u2, u3) := s9
    have s11 : f_X5_writeSign N 32 a10 u1 u2 u3 = some (a11, u1, u2, u3) := s11
    have t3 : f_X6_says N 45 b2 = some b3 := t3
    have t5 : f_X6_says N 45 b4 = some b5 := t5
    have t7 : f_X6_says N 32 b6 = some b7 := t7
    have t9 : f_X6_says N 58 b8 = some b9 := t9
    have t11 : f_X6_says N 32 b10 = some b11 := t11
    rw [dz, s1, Option.bind_some, hy, Option.bind_some] at e5
    simp only [s2, Option.bind_some, s3, hm, s4, s5, hd, s6, s7, q3, s8, s9, q4, s10, s11, hw, zw, iw, s12] at e5
    simp only [p0, Option.bind_some, q1, t1, q2, t2, t3, p1, t4, t5, p2, t6, t7, p3, t8, t9, p4, t10, t11, p5, zw, t12] at e6
    obtain ⟨⟨w1, w2, w3⟩, w4, w5, w6, w7, w8⟩ := W12
    rw [w1] at e5
    rw [w2] at e6
    obtain ⟨r1, r2, r3, r4, r5, r6⟩ := h
    refine ⟨_, _, _, e5, e6, ⟨?_, rfl⟩, ?_, r2, RU_up r3 ?_ ?_ (fun _ _ => rfl) ?_ ?_, RV_up r4 ?_ (fun _ _ => rfl) ?_ ?_, RB_up r5 rfl rfl rfl ?_ ?_ ?_, ⟨_, by omega, w1, w2, w3⟩⟩
    · rw [w6 7 (by decide), oi_n _ _ (by decide), oi_s]
    · show RR (u2 0) (b12.2.2.2 0)
      rw [w8]
      exact r1
    · rw [w4 4 (by decide), oi_n _ _ (by decide)]
    · rw [w4 5 (by decide), oi_n _ _ (by decide)]
    · rw [w6 6 (by decide), oi_n _ _ (by decide), oi_n _ _ (by decide)]
    · rw [w8]
      rfl
    · rw [w5 7 (by decide)]
      rfl
    · rw [w7 5 (by decide)]
      rfl
    · rw [w8]
      rfl
    · rw [w6 10 (by decide), oi_n _ _ (by decide), oi_n _ _ (by decide)]
    · rw [w6 17 (by decide), oi_n _ _ (by decide), oi_n _ _ (by decide)]
    · rw [w7 9 (by decide)]
      rfl
  · rw [decide_eq_false hx, if_neg (by decide)] at e5 e6
    exact S_e h e5 e6 (okX1 1 1 0)
