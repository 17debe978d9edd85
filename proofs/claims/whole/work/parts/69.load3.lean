/-! load; the start -/
theorem begins_v {N : Nat} (hN : 700 ≤ N) (u : Ob) : ∃ b, f_X6_begins N u = some (oj u 1 b) ∧ ∀ k, k < 48 → b k = a00 k := begins_l N 48 0 N u (by omega) (by omega) (fun k hk => by omega)
theorem becomes1_v {N : Nat} (hN : 700 ≤ N) (u : Ob) : ∃ b, f_X6_becomes_1 N 0 u = some (oj u 0 b) ∧ ∀ k, k < 48 → b k = u.2.2.2 1 k := by
  obtain ⟨b, b1, b2⟩ := becomes1_l N 48 0 N u (by omega) (by omega)
  exact ⟨b, b1, fun k hk => by rw [b2 k, if_pos (by omega)]⟩
theorem becomes2_v {N : Nat} (hN : 700 ≤ N) (u : Ob) : ∃ b, f_X6_becomes_2 N 0 u = some (oj u 0 b) ∧ ∀ k, k < 48 → b k = u.2.2.2 2 k := by
  obtain ⟨b, b1, b2⟩ := becomes2_l N 48 0 N u (by omega) (by omega)
  exact ⟨b, b1, fun k hk => by rw [b2 k, if_pos (by omega)]⟩
theorem st_load {N : Nat} (hN : 700 ≤ N) : S_load Rel N := by
  intro u0 u1 u2 u3 mo h x
  obtain ⟨x, x1, x2, rfl⟩ := zI_get x
  obtain ⟨r1, r2, r3, r4, ⟨n, n1, n2, n3, n4, n5⟩, r6⟩ := id h
  have n2 : u1.1 1 = zI n := n2
  have n4 : u1.1 6 = mo.1 17 := n4
  have e5 := f_X5_load.eq_1 N (zI x) u0 u1 u2 u3
  have e6 := f_X6_load.eq_1 N (zI x) mo
  rw [n2] at e5
  rw [n3, zI_toL x1 x2, zI_toL (a := (n : Int)) (by omega) (by omega), show (0 : Int64) = zL 0 from rfl] at e6
  have c1 : (zI x < 0) = (x < 0) := by rw [zI_lit, zI_lt (by omega) (by omega) (by omega) (by omega)]
  have c2 : (zI x ≤ zI (n : Int)) = (x ≤ n) := zI_le (by omega) (by omega) (by omega) (by omega)
  by_cases g : 0 ≤ x ∧ x ≤ (n : Int)
  · obtain ⟨L, rfl⟩ : ∃ L : Nat, x = L := ⟨x.toNat, by omega⟩
    rw [isIn_T N (by omega) (by omega) (by omega) g, Option.bind_some, if_pos rfl] at e6
    obtain ⟨v, v1, v2⟩ := X4_copyFrom_v N (u2 2) (u2 1)
    have hop : f_X3_open N (zI (L : Int)) u1 = some (oi (oi (oi (oi (oi u1 2 (zI L)) 1 0) 3 0) 5 0) 6 (-1)) := by
      rw [f_X3_open, n2, if_neg (show ¬ zI (n : Int) < zI (L : Int) by rw [zI_lt (by omega) (by omega) (by omega) (by omega)]; omega)]
    rw [ifN c1 (by omega), ifP c2 (by omega), v1, Option.bind_some, hop, Option.bind_some] at e5
    -- the text
    have hex : ∀ k, k < n → ∃ z : Int, 0 ≤ z ∧ z ≤ 255 ∧ mo.2.2.1 9 k = zI z ∧ u1.2.2.1 0 k = zI (if z < 128 then z else z - 256) := n5
    obtain ⟨T, hT⟩ : ∃ T : Nat → Int, ∀ k, k < n → 0 ≤ T k ∧ T k ≤ 255 ∧ mo.2.2.1 9 k = zI (T k) ∧ u1.2.2.1 0 k = zI (sg (T k)) := by
      refine ⟨fun k => if hk : k < n then (hex k hk).choose else 0, fun k hk => ?_⟩
      have := (hex k hk).choose_spec
      have e : (fun k => if hk : k < n then (hex k hk).choose else (0 : Int)) k = (hex k hk).choose := dif_pos hk
      rw [e]
      exact this
    generalize hu : oi (oi (oi (oi (oi u1 2 (zI L)) 1 0) 3 0) 5 0) 6 (-1) = w1 at e5
    have w12 : w1.1 2 = zI L := by rw [← hu, oi_n _ _ (by decide), oi_n _ _ (by decide), oi_n _ _ (by decide), oi_n _ _ (by decide), oi_s]
    have w11 : w1.1 1 = 0 := by rw [← hu, oi_n _ _ (by decide), oi_n _ _ (by decide), oi_n _ _ (by decide), oi_s]
    have w13 : w1.1 3 = 0 := by rw [← hu, oi_n _ _ (by decide), oi_n _ _ (by decide), oi_s]
    have w15 : w1.1 5 = 0 := by rw [← hu, oi_n _ _ (by decide), oi_s]
    have w16 : w1.1 6 = -1 := by rw [← hu, oi_s]
    have w1t : w1.2.2.1 = u1.2.2.1 := by rw [← hu]; rfl
    have hCT : CT T L w1 := ⟨⟨w12, w16⟩, by omega, fun k hk => by
      rw [w1t]
      have := hT k (by omega)
      exact ⟨this.1, this.2.1, this.2.2.2⟩⟩
    obtain ⟨b2, p1, p2⟩ := load54_l N (zI L) 48 0 N (oi (oi (oi (oi (oi mo 7 0) 11 (zI L)) 10 0) 13 0) 15 0) (by omega) (by omega)
    have p1 : l_X6_load_54 N (zI (L : Int)) N 0 (oi (oi (oi (oi (oi mo 7 0) 11 (zI L)) 10 0) 13 0) 15 0) = _ := p1
    rw [p1] at e6
    generalize hm : oi (oi (oi (oi (oi mo 7 0) 11 (zI L)) 10 0) 13 0) 15 0 = m0 at *
    have m0f : ∀ k, k ≠ 7 → k ≠ 11 → k ≠ 10 → k ≠ 13 → k ≠ 15 → m0.1 k = mo.1 k := fun k a b c d e => by rw [← hm, oi_n _ _ e, oi_n _ _ d, oi_n _ _ c, oi_n _ _ b, oi_n _ _ a]
    have m07 : m0.1 7 = 0 := by rw [← hm, oi_n _ _ (by decide), oi_n _ _ (by decide), oi_n _ _ (by decide), oi_n _ _ (by decide), oi_s]
    have m011 : m0.1 11 = zI L := by rw [← hm, oi_n _ _ (by decide), oi_n _ _ (by decide), oi_n _ _ (by decide), oi_s]
    have m010 : m0.1 10 = 0 := by rw [← hm, oi_n _ _ (by decide), oi_n _ _ (by decide), oi_s]
    have m013 : m0.1 13 = 0 := by rw [← hm, oi_n _ _ (by decide), oi_s]
    have m015 : m0.1 15 = 0 := by rw [← hm, oi_s]
    have m0r : m0.2.2 = mo.2.2 := by rw [← hm]; rfl
    have m01 : m0.2.2.1 = mo.2.2.1 := congrArg Prod.fst m0r
    have m02 : m0.2.2.2 = mo.2.2.2 := congrArg Prod.snd m0r
    obtain ⟨b1, q1, q2⟩ := begins_v hN (oj m0 2 b2)
    rw [q1, Option.bind_some] at e6
    obtain ⟨b0, q3, q4⟩ := becomes1_v hN (oj (oj m0 2 b2) 1 b1)
    rw [q3, Option.bind_some] at e6
    have hMT : MT T L (oj (oj (oj m0 2 b2) 1 b1) 0 b0) := ⟨m011, by omega, fun k hk => by
      have := hT k (by omega)
      refine ⟨this.1, this.2.1, ?_⟩
      show m0.2.2.1 9 k = _
      rw [m01]
      exact this.2.2.1⟩
    obtain ⟨m1, y1, y2, y3, y4⟩ := X6_next_v hN (p := 0) hMT m013 (by omega)
    rw [y1, Option.bind_some] at e6
    have y41 : m1.2.2.1 = mo.2.2.1 := (congrArg Prod.fst y4).trans m01
    have row0 : m1.2.2.2 0 = b0 := (congrFun (congrArg Prod.snd y4) 0).trans (oj_s _ 0 b0)
    have row1 : m1.2.2.2 1 = b1 := by
      rw [congrArg Prod.snd y4, oj_n _ _ (by decide), oj_s]
    have row2 : m1.2.2.2 2 = b2 := by
      rw [congrArg Prod.snd y4, oj_n _ _ (by decide), oj_n _ _ (by decide), oj_s]
    have rows : ∀ k, k ≠ 0 → k ≠ 1 → k ≠ 2 → m1.2.2.2 k = mo.2.2.2 k := fun k a b c => by
      rw [congrArg Prod.snd y4, oj_n _ _ a, oj_n _ _ b, oj_n _ _ c, m02]
    have hRv : RR v b0 := by
      refine RR_cp v2 (fun k hk => ?_) r2
      rw [q4 k hk, oj_s]
      exact q2 k hk
    have hPT : PT T L w1 m1 0 := ⟨hCT, MT_LF hMT (LF_nx y3 y4), w13, by omega, y2, w15, (y3 15 (by decide) (by decide) (by decide)).trans m015⟩
    have hR2 : RR ((va_up (va_up u2 2 v) 1 (u2 1)) 2) (m1.2.2.2 0) := by
      rw [va_up_ne _ _ (by decide), va_up_self, row0]
      exact hRv
    obtain ⟨u1', u2', u3', m', L1, L2, L3, L4⟩ := load_l hN (zI L) (zI 48) u0 L 0 0 N N w1 m1 (va_up (va_up u2 2 v) 1 (u2 1)) u3 (by omega) (by omega) (by omega) (by omega) hPT hR2
    have L3' : ∀ j, j ≠ 2 → u2' j = u2 j := by
      intro j hj
      rw [L3 j hj]
      by_cases g1 : j = 1
      · rw [g1, va_up_self]
      · rw [va_up_ne _ _ g1, va_up_ne _ _ hj]
    have L2' : u1'.1 1 = zI ((0 : Nat) : Int) := L2.trans w11
    -- the reference's rows, back again
    have back : ∀ e : Int32, ∃ (d1 d0 : Nat → Int64), l_X6_load_138 N (zI (L : Int)) N 0 (oi m' 17 e) = (if m'.1 15 = 0 then ((f_X6_keeps N (oj (oj (oi m' 17 e) 1 d1) 0 d0)).bind fun q19 => ((f_X6_becomes_1 N 0 q19).bind fun q21 => some (((q21.2.2.2 0) 12).toInt32, q21))) else some (m'.1 15, oj (oj (oi m' 17 e) 1 d1) 0 d0)) ∧ (∀ k, k < 48 → d1 k = m'.2.2.2 0 k) ∧ (∀ k, k < 48 → d0 k = mo.2.2.2 0 k) := by
      intro e
      obtain ⟨d1, z1, z2⟩ := load138_l N (zI L) 48 0 N (oi m' 17 e) (by omega) (by omega)
      obtain ⟨d0, z3, z4⟩ := becomes2_v hN (oj (oi m' 17 e) 1 d1)
      refine ⟨d1, d0, ?_, fun k hk => ?_, fun k hk => ?_⟩
      · refine Eq.trans z1 ?_
        rw [z3, Option.bind_some]
        show (if (oi m' 17 e).1 15 = 0 then _ else some ((oi m' 17 e).1 15, _)) = _
        rw [oi_n _ _ (by decide)]
      · rw [z2 k, if_pos (by omega)]
        rfl
      · rw [z4 k hk, oj_n _ _ (by decide)]
        show m'.2.2.2 2 k = _
        rw [L1.2.2 2 (by decide), row2, p2 k, if_pos (by omega), m02]
    have rel : ∀ (e : Int32) (d1 d0 : Nat → Int64), (∀ k, k < 48 → d0 k = mo.2.2.2 0 k) → u1'.1 6 = e → Rel (u0, u1', u2', u3') (oj (oj (oi m' 17 e) 1 d1) 0 d0) := by
      intro e d1 d0 hd he
      have fi : ∀ k, k ≠ 7 → k ≠ 11 → k ≠ 10 → k ≠ 13 → k ≠ 15 → k ≠ 17 → k ≠ 8 → k ≠ 12 → k ≠ 14 → k ≠ 16 → (oj (oj (oi m' 17 e) 1 d1) 0 d0).1 k = mo.1 k := by
        intro k k7 k11 k10 k13 k15 k17 k8 k12 k14 k16
        show (oi m' 17 e).1 k = _
        rw [oi_n _ _ k17, L1.1 k k8 k12 k13 k14 k15 k16, y3 k k12 k13 k14]
        exact m0f k k7 k11 k10 k13 k15
      have r10 : (oj (oj (oi m' 17 e) 1 d1) 0 d0).1 10 = zI ((0 : Nat) : Int) := by
        show (oi m' 17 e).1 10 = _
        rw [oi_n _ _ (by decide), L1.1 10 (by decide) (by decide) (by decide) (by decide) (by decide) (by decide), y3 10 (by decide) (by decide) (by decide)]
        exact m010
      have ri : (oj (oj (oi m' 17 e) 1 d1) 0 d0).2.2.1 = mo.2.2.1 := L1.2.1.trans y41
      have rl : ∀ k, k ≠ 0 → k ≠ 1 → k ≠ 2 → (oj (oj (oi m' 17 e) 1 d1) 0 d0).2.2.2 k = mo.2.2.2 k := by
        intro k a b c
        rw [oj_n _ _ a, oj_n _ _ b]
        exact (L1.2.2 k a).trans (rows k a b c)
      refine ⟨?_, ?_, RU_up r3 rfl rfl (fun i hi => L3' _ (by omega)) (fi 6 (by decide) (by decide) (by decide) (by decide) (by decide) (by decide) (by decide) (by decide) (by decide) (by decide)) (rl 3 (by decide) (by decide) (by decide)), RV_up r4 rfl (fun i hi => L3' _ (by omega)) (by rw [ri]) (rl 4 (by decide) (by decide) (by decide)), ⟨0, by omega, L2', r10, ?_, fun k hk => by omega⟩, RW_up r6 rfl rfl (fi 21 (by decide) (by decide) (by decide) (by decide) (by decide) (by decide) (by decide) (by decide) (by decide) (by decide)) (by rw [ri])⟩
      · show RR (u2' 0) ((oj (oj (oi m' 17 e) 1 d1) 0 d0).2.2.2 0)
        rw [L3' 0 (by decide), oj_s]
        exact RR_row hd r1
      · show RR (u2' 1) a00
        rw [L3' 1 (by decide)]
        exact r2
      · show u1'.1 6 = (oi m' 17 e).1 17
        rw [oi_s]
        exact he
    have m7 : ∀ (e : Int32) (d1 d0 : Nat → Int64), (oj (oj (oi m' 17 e) 1 d1) 0 d0).1 7 = 0 := by
      intro e d1 d0
      show (oi m' 17 e).1 7 = 0
      rw [oi_n _ _ (by decide), L1.1 7 (by decide) (by decide) (by decide) (by decide) (by decide) (by decide), y3 7 (by decide) (by decide) (by decide)]
      exact m07
    have e5 : f_X5_load N (zI (L : Int)) u0 u1 u2 u3 = l_X5_load_46 N (zI (L : Int)) N (zI ((0 : Nat) : Int)) u0 w1 (va_up (va_up u2 2 v) 1 (u2 1)) u3 := e5
    rcases L4 with ⟨t1, t2, t3⟩ | ⟨t1, t2, t3, t4, t5⟩
    · -- an error
      obtain ⟨k1, k2⟩ := PE_n0 t1
      obtain ⟨⟨c, pos, hc, h1, h2, h3, h4⟩, _⟩ := t1
      obtain ⟨d1, d0, z1, z2, z3⟩ := back (m'.1 16)
      rw [t2] at e5
      rw [t3, z1, if_neg k2] at e6
      refine ⟨_, _, _, e5, e6, ⟨m7 _ _ _, h1.trans h3.symm⟩, rel _ _ _ z3 (h2.trans h4.symm)⟩
    · obtain ⟨d1, d0, z1, z2, z3⟩ := back (-1)
      rw [t4] at e5
      rw [t5, z1, if_pos t2] at e6
      have R := rel (-1) d1 d0 z3 t1
      obtain ⟨v0, w2, m3, f1, f2, f3, f4, f5, f6, f7, f8, f9⟩ := remember_v hN R
      obtain ⟨vv, o1, o2⟩ := X4_copyFrom_v N (w2 0) (w2 2)
      obtain ⟨d2, o3, o4⟩ := becomes1_v hN m3
      rw [f2, Option.bind_some, o3, Option.bind_some] at e6
      have hRR : RR vv d2 := by
        refine RR_cp o2 (fun k hk => ?_) (?_ : RR (w2 2) (m'.2.2.2 0))
        · rw [o4 k hk, f6 1 (by decide), oj_n _ _ (by decide), oj_s]
          exact z2 k hk
        · rw [f4 2 (by omega)]
          exact t3
      obtain ⟨F, qq, mm, hV, hF, _, _⟩ := RR_va hRR
      have hF1 : vv.1 11 = zI F := hF.1
      have e5 : f_X5_load N (zI (L : Int)) u0 u1 u2 u3 = some (.inr (zI F), v0, u1', va_up w2 0 vv, u3') := by
        rw [e5]
        unfold end5
        rw [f1, Option.bind_some]
        show ((f_X4_copyFrom N (w2 0) (w2 2)).bind _) = _
        rw [o1, Option.bind_some]
        show some (Sum.inr (vv.1 11), v0, u1', va_up (va_up w2 0 vv) 2 (w2 2), u3') = _
        have hvv : va_up (va_up w2 0 vv) 2 (w2 2) = va_up w2 0 vv := by
          funext j
          by_cases gj : j = 2
          · rw [gj, va_up_self, va_up_ne _ _ (by decide)]
          · rw [va_up_ne _ _ gj]
        rw [hF1, hvv]
      rw [oj_s, hV.1, zL_toI] at e6
      refine ⟨_, _, _, e5, e6, ⟨?_, rfl⟩, Rel_pr f3 (by rw [oj_s]; exact hRR) (Sd_oj m3 d2)⟩
      show m3.1 7 = 0
      rw [f5 7 (by decide)]
      exact m7 _ _ _
  · rw [isIn_F N (by omega) (by omega) (by omega) g, Option.bind_some, if_neg (by decide)] at e6
    by_cases g1 : x < 0
    · rw [ifP c1 g1] at e5
      exact S_e h e5 e6 (okX1 1 1 0)
    · rw [ifN c1 g1, ifN c2 (by omega)] at e5
      exact S_e h e5 e6 (okX1 1 1 0)
theorem RR_0 {a : Nat → Int64} (h : ∀ k, k < 48 → a k = a00 k) : RR iX4 a := by
  have s : ∀ i, i < 5 → iX4.2.2.1 0 i = zI (if i = 0 then 100 else if i = 1 then 3 else if i = 2 then 5 else 0) ∧ a00 i = zL (if i = 0 then 100 else if i = 1 then 3 else if i = 2 then 5 else 0) := by
    intro i hi
    rcases (show i = 0 ∨ i = 1 ∨ i = 2 ∨ i = 3 ∨ i = 4 by omega) with rfl | rfl | rfl | rfl | rfl <;> exact ⟨rfl, rfl⟩
  refine RR_row (a := a00) h ⟨(fun i => if i = 0 then 100 else if i = 1 then 3 else if i = 2 then 5 else 0), -1, -1, -1, 0, 60, 0, -1, 0, 0, (fun _ => 0), (fun _ => 0), ⟨?_, ?_⟩, ⟨⟨rfl, rfl⟩, ⟨rfl, rfl⟩, ⟨rfl, rfl⟩, ⟨rfl, rfl⟩, by omega, by omega, by omega, by omega, fun _ => rfl⟩, fun hp => absurd rfl hp, ⟨⟨rfl, by omega, fun k hk => by omega⟩, ?_, rfl⟩, ⟨⟨rfl, rfl⟩, ⟨rfl, rfl⟩, by omega, by omega, by omega, by omega⟩, ⟨⟨rfl, rfl⟩, by omega, fun k hk => by omega⟩, ⟨fun hx => by omega, fun hx => by omega⟩⟩
  · unfold stOk
    simp
  · intro i hi
    obtain ⟨s1, s2⟩ := s i hi
    refine ⟨s1.trans ?_, s2.trans ?_⟩
    · rfl
    · rfl
  · show ((0 : Nat) : Int) ≤ 5
    omega
theorem init_v {N : Nat} (hN : 700 ≤ N) : ∃ q6, f_X6_init N = some q6 ∧ Rel (iX5, iX3, (fun _ => iX4), (fun _ => iX0)) q6 := by
  obtain ⟨b1, q1, q2⟩ := begins_v hN iX6
  obtain ⟨b0, q3, q4⟩ := becomes1_v hN (oj iX6 1 b1)
  have hb : ∀ k, k < 48 → b0 k = a00 k := fun k hk => by rw [q4 k hk, oj_s]; exact q2 k hk
  refine ⟨oj (oj iX6 1 b1) 0 b0, ?_, ?_, RR_0 (fun _ _ => rfl), ⟨0, 0, by omega, by omega, rfl, rfl, rfl, fun i hi => by omega⟩, fun j hj => ⟨0, by omega, rfl, rfl, fun z => by omega⟩, ⟨0, by omega, rfl, rfl, rfl, fun k hk => by omega⟩, ⟨0, by omega, rfl, rfl, fun k hk => by omega⟩⟩
  · rw [f_X6_init, q1, Option.bind_some]
    exact q3
  · show RR iX4 ((oj (oj iX6 1 b1) 0 b0).2.2.2 0)
    rw [oj_s]
    exact RR_0 hb
