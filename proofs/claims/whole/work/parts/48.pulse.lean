/-! a pulse, by both -/
def TP (N : Nat) (u b mo : Ob) (t L : Int) : Prop := ∃ (r : Int) (u' b' mo' : Ob), f_X4_takePulse N (zI t) (zI L) u b = some (zI r, u', b') ∧ f_X6_takesPulse N (zL t) (zI L) mo = some (zI r, mo') ∧ Sd mo mo' ∧ RR u' (mo'.2.2.2 0) ∧ 0 ≤ r ∧ r ≤ 4 ∧ u'.1 1 = zI t ∧ mo'.2.2.2 0 7 = zL t
theorem lose_v (N : Nat) {u mo : Ob} {a : Nat → Int64} {st : Nat → Int} {pos mark bef ign : Int} {X : Nat} {xm xt : Nat → Int} (hS : RS u a st) (hK : RK u a pos mark bef ign) (hX : RX u a X xm xt) (hI : 1 ≤ X → xt 0 ≤ mark) (hI2 : 2 ≤ X → xt 1 < xt 0) (ha : mo.2.2.2 0 = a) :
    ∃ v b, f_X4_loseStep N u = some v ∧ f_X6_forgets N mo = some (oj mo 0 b) ∧ RR v b ∧ v.1 1 = u.1 1 ∧ b 7 = a 7 := by
  obtain ⟨⟨kb1, kb2⟩, ⟨km1, km2⟩, ⟨kg1, kg2⟩, ⟨kp1, kp2⟩, p1, p2, p3, p4, p5⟩ := hK
  refine ⟨oi (oi (oi (oi u 4 (-1)) 11 0) 12 (-1)) 13 0, vp_updL (vp_updL (vp_updL (vp_updL a 5 (-1)) 12 0) 9 (-1)) 10 0, rfl, ?_, ?_, ?_, ?_⟩
  · rw [f_X6_forgets, oj_oj, oj_oj, oj_oj, ha]
    rfl
  · have v1 : ∀ k, k ≠ 4 → k ≠ 11 → k ≠ 12 → k ≠ 13 → (oi (oi (oi (oi u 4 (-1)) 11 0) 12 (-1)) 13 0).1 k = u.1 k := by
      intro k k4 k11 k12 k13
      rw [oi_n _ _ k13, oi_n _ _ k12, oi_n _ _ k11, oi_n _ _ k4]
    have b1 : ∀ k, k ≠ 5 → k ≠ 12 → k ≠ 9 → k ≠ 10 → (vp_updL (vp_updL (vp_updL (vp_updL a 5 (-1)) 12 0) 9 (-1)) 10 0) k = a k := by
      intro k k4 k11 k12 k13
      rw [vp_n _ _ k13, vp_n _ _ k12, vp_n _ _ k11, vp_n _ _ k4]
    refine ⟨st, -1, mark, bef, ign, 60, 0, -1, 0, X, xm, xt, RS_up hS rfl (fun i hi => b1 i (by omega) (by omega) (by omega) (by omega)), ⟨⟨?_, ?_⟩, ⟨?_, ?_⟩, ⟨?_, ?_⟩, ⟨?_, ?_⟩, by omega, p2, p3, p4, fun _ => rfl⟩, fun h => absurd rfl h, ⟨⟨?_, by omega, fun k hk => by omega⟩, ?_, ?_⟩, ⟨⟨?_, ?_⟩, ⟨?_, ?_⟩, by omega, by omega, by omega, by omega⟩, RX_up hX (v1 16 (by decide) (by decide) (by decide) (by decide)) rfl rfl (b1 13 (by decide) (by decide) (by decide) (by decide)) (fun k h1 h2 => b1 k (by omega) (by omega) (by omega) (by omega)), ⟨fun h => ⟨fun _ => hI h, fun h => absurd rfl h⟩, hI2⟩⟩
    · rw [v1 1 (by decide) (by decide) (by decide) (by decide)]; exact kb1
    · rw [b1 7 (by decide) (by decide) (by decide) (by decide)]; exact kb2
    · rw [v1 2 (by decide) (by decide) (by decide) (by decide)]; exact km1
    · rw [b1 6 (by decide) (by decide) (by decide) (by decide)]; exact km2
    · rw [v1 3 (by decide) (by decide) (by decide) (by decide)]; exact kg1
    · rw [b1 11 (by decide) (by decide) (by decide) (by decide)]; exact kg2
    · rw [oi_n _ _ (by decide), oi_n _ _ (by decide), oi_n _ _ (by decide), oi_s]; rfl
    · rw [vp_n _ _ (by decide), vp_n _ _ (by decide), vp_n _ _ (by decide), vp_s]; rfl
    · rw [oi_n _ _ (by decide), oi_n _ _ (by decide), oi_s]; rfl
    · have := hS.1; unfold stOk at this; omega
    · rw [vp_n _ _ (by decide), vp_n _ _ (by decide), vp_s]; rfl
    · rw [oi_n _ _ (by decide), oi_s]; rfl
    · rw [vp_n _ _ (by decide), vp_s]; rfl
    · rw [oi_s]; rfl
    · rw [vp_s]; rfl
  · rw [oi_n _ _ (by decide), oi_n _ _ (by decide), oi_n _ _ (by decide), oi_n _ _ (by decide)]
  · rw [vp_n _ _ (by decide), vp_n _ _ (by decide), vp_n _ _ (by decide), vp_n _ _ (by decide)]
theorem bits_ext {x y : Int64} (h : ∀ i : Nat, i < 64 → lb x i = lb y i) : x = y := lb_ext h
theorem goes_v {N : Nat} (hN : 700 ≤ N) {w mo : Ob} {e : Nat → Int64} {st : Nat → Int} {t len ign told votd L : Int} {p q F X : Nat} {xm xt : Nat → Int} (hS : RS w e st) (hK : RK w e p t t ign) (hC : RC w e p len) (hF : RF w e F (st 2)) (hT : RT w e told votd) (hX : RX w e X xm xt) (hp : p < q) (hq : (q : Int) < len) (hq2 : (q : Int) ≠ len - 1) (L0 : 0 ≤ L) (L1 : L ≤ 9999) (hI : 1 ≤ X → xt 0 ≤ t - 800 * q) (hI2 : 2 ≤ X → xt 1 < xt 0) (ha : mo.2.2.2 0 = e) :
    ∃ d v b, f_X4_doubtSeconds N (zI ((p + 1 : Nat) : Int)) (zI ((q : Int) - 1)) w = some d ∧ f_X4_putBit N (zI q) (zI L) (oi d 4 (zI q)) = some v ∧ f_X6_goesTo N (zI q) (zI (bitL L)) mo = some (zI (if q - p ≤ 1 then 1 else 2), oj mo 0 b) ∧ RR v b ∧ v.1 1 = zI t ∧ b 7 = zL t := by
  obtain ⟨⟨kb1, kb2⟩, ⟨km1, km2⟩, ⟨kg1, kg2⟩, ⟨kp1, kp2⟩, p1, p2, p3, p4, p5⟩ := id hK
  obtain ⟨⟨c1, c2⟩, c3, c4, c5⟩ := hC (by omega)
  have q61 : q < 61 := by omega
  obtain ⟨d, d1, d2⟩ := X4_doubtSeconds_v hN (s := p + 1) (q := q) (by omega) (by omega) w
  obtain ⟨o, g, g1, g2⟩ := X4_putBit_v N (s := q) (L := L) (by omega) (by omega) (by omega) (oi (ol w 7 d) 4 (zI q))
  obtain ⟨b, b1, b2, b3, b4⟩ := X6_goesTo_v hN (p := p) (q := q) (bit := bitL L) hp (by omega) (bitL_le L) mo (by rw [ha]; exact kp2)
  rw [ha] at b2 b4
  have z6 : (oi (ol w 7 d) 4 (zI q)).2.1 6 = w.2.1 6 := ol_n w d (by decide)
  have z7 : (oi (ol w 7 d) 4 (zI q)).2.1 7 = d := ol_s w 7 d
  rw [z6, z7] at g2
  have v1 : ∀ k, k ≠ 4 → (ol (ol (oi (ol w 7 d) 4 (zI q)) 6 o) 7 g).1 k = w.1 k := fun k hk => oi_n (ol w 7 d) (zI q) hk
  have v4 : (ol (ol (oi (ol w 7 d) 4 (zI q)) 6 o) 7 g).1 4 = zI q := oi_s (ol w 7 d) 4 _
  have v6 : (ol (ol (oi (ol w 7 d) 4 (zI q)) 6 o) 7 g).2.1 6 = o := (ol_n _ g (by decide)).trans (ol_s _ 6 o)
  have v7 : (ol (ol (oi (ol w 7 d) 4 (zI q)) 6 o) 7 g).2.1 7 = g := ol_s _ 7 g
  have v2 : (ol (ol (oi (ol w 7 d) 4 (zI q)) 6 o) 7 g).2.2 = w.2.2 := rfl
  generalize ol (ol (oi (ol w 7 d) 4 (zI q)) 6 o) 7 g = v at *
  refine ⟨ol w 7 d, v, b, d1, g1, b1, ?_, by rw [v1 1 (by decide)]; exact kb1, by rw [b2 7 (by decide) (by decide) (by decide)]; exact kb2⟩
  refine ⟨st, q, t, t, ign, len, F, told, votd, X, xm, xt, RS_up hS (by rw [v2]) (fun i hi => b2 i (by omega) (by omega) (by omega)), ⟨⟨by rw [v1 1 (by decide)]; exact kb1, by rw [b2 7 (by decide) (by decide) (by decide)]; exact kb2⟩, ⟨by rw [v1 2 (by decide)]; exact km1, by rw [b2 6 (by decide) (by decide) (by decide)]; exact km2⟩, ⟨by rw [v1 3 (by decide)]; exact kg1, by rw [b2 11 (by decide) (by decide) (by decide)]; exact kg2⟩, ⟨v4, b3⟩, by omega, p2, p3, p4, fun h => by have := p5 h; omega⟩, fun _ => ⟨⟨by rw [v1 5 (by decide)]; exact c1, by rw [b2 8 (by decide) (by decide) (by decide)]; exact c2⟩, c3, by omega, fun i hi => ?_⟩, RF_up hF (v1 11 (by decide)) (by rw [v2]) (by rw [v2]) (fun k h1 h2 => b2 k (by omega) (by omega) (by omega)) (b2 12 (by decide) (by decide) (by decide)), RT_up hT (v1 12 (by decide)) (v1 13 (by decide)) (b2 9 (by decide) (by decide) (by decide)) (b2 10 (by decide) (by decide) (by decide)), RX_up hX (v1 16 (by decide)) (by rw [v2]) (by rw [v2]) (b2 13 (by decide) (by decide) (by decide)) (fun k h1 h2 => b2 k (by omega) (by omega) (by omega)), ⟨fun h => ⟨fun h2 => by omega, fun _ => hI h⟩, hI2⟩⟩
  obtain ⟨x1, x2, x3⟩ := c5 i hi
  obtain ⟨y1, y2⟩ := b4 i hi
  obtain ⟨u1, u2⟩ := g2 i hi
  rw [v6, v7, u1, u2, d2 i hi, x1, x2, y1, y2]
  by_cases e1 : i = q ∧ q < 59
  · obtain ⟨f1, f2⟩ := x3 (by omega)
    rw [if_pos e1, if_pos e1, f1, f2, show dB (p + 1) q i = false from decide_eq_false (by omega)]
    obtain ⟨i1, i2⟩ := e1
    refine ⟨?_, ?_, fun h => by omega⟩
    · simp [i1, i2]
    · simp [i1, i2]
  · rw [if_neg e1, if_neg e1, decide_eq_false (p := i = q ∧ q < 59 ∧ bitL L = 1) (fun z => e1 ⟨z.1, z.2.1⟩), decide_eq_false (p := i = q ∧ q < 59 ∧ bitL L = 2) (fun z => e1 ⟨z.1, z.2.1⟩)]
    by_cases e2 : p < i
    · obtain ⟨f1, f2⟩ := x3 (by omega)
      rw [f1, f2]
      refine ⟨by simp, by simp, fun h => ⟨by simp, ?_⟩⟩
      rw [show dB (p + 1) q i = false from decide_eq_false (by omega)]
      rfl
    · rw [show dB (p + 1) q i = false from decide_eq_false (by omega)]
      refine ⟨by simp, by simp, fun h => ?_⟩
      obtain ⟨f1, f2⟩ := x3 (by omega)
      rw [f1, f2]
      exact ⟨rfl, rfl⟩
theorem begin_v {N : Nat} (hN : 700 ≤ N) {w mo : Ob} {e : Nat → Int64} {st : Nat → Int} {t ign told votd L : Int} {F X : Nat} {xm xt : Nat → Int} (hS : RS w e st) (hK : RK w e (-1) t t ign) (hF : RF w e F (st 2)) (hT : RT w e told votd) (hX : RX w e X xm xt) (t0 : 0 ≤ t) (L0 : 0 ≤ L) (L1 : L ≤ 9999) (hI : 1 ≤ X → xt 0 ≤ t) (hI2 : 2 ≤ X → xt 1 < xt 0) (ha : mo.2.2.2 0 = e) :
    ∃ v b, f_X4_beginMinute N (zI 0) (zI L) w = some v ∧ f_X6_beginsMinute N (zI 0) (zI (bitL L)) 60 mo = some (oj mo 0 b) ∧ RR v b ∧ v.1 1 = zI t ∧ b 7 = zL t := by
  obtain ⟨⟨kb1, kb2⟩, ⟨km1, km2⟩, ⟨kg1, kg2⟩, ⟨kp1, kp2⟩, p1, p2, p3, p4, p5⟩ := id hK
  obtain ⟨v, v0, v4, v5, v1, v2, v3⟩ := X4_beginMinute_v hN (s := 0) (L := L) (by omega) (by omega) (by omega) w
  obtain ⟨b, b1, b2, b3, b4, b5⟩ := X6_beginsMinute_v hN (q := 0) (bit := bitL L) (by omega) (bitL_le L) 60 mo
  rw [ha] at b2
  refine ⟨v, b, v0, b1, ?_, by rw [v1 1 (by decide) (by decide)]; exact kb1, by rw [b2 7 (by decide) (by decide) (by decide) (by decide)]; exact kb2⟩
  refine ⟨st, 0, t, t, ign, 60, F, told, votd, X, xm, xt, RS_up hS (by rw [v2]) (fun i hi => b2 i (by omega) (by omega) (by omega) (by omega)), ⟨⟨by rw [v1 1 (by decide) (by decide)]; exact kb1, by rw [b2 7 (by decide) (by decide) (by decide) (by decide)]; exact kb2⟩, ⟨by rw [v1 2 (by decide) (by decide)]; exact km1, by rw [b2 6 (by decide) (by decide) (by decide) (by decide)]; exact km2⟩, ⟨by rw [v1 3 (by decide) (by decide)]; exact kg1, by rw [b2 11 (by decide) (by decide) (by decide) (by decide)]; exact kg2⟩, ⟨v4, b3⟩, by omega, p2, p3, p4, fun h => by omega⟩, fun _ => ⟨⟨v5, b4⟩, by omega, by omega, fun i hi => ?_⟩, RF_up hF (v1 11 (by decide) (by decide)) (by rw [v2]) (by rw [v2]) (fun k h1 h2 => b2 k (by omega) (by omega) (by omega) (by omega)) (b2 12 (by decide) (by decide) (by decide) (by decide)), RT_up hT (v1 12 (by decide) (by decide)) (v1 13 (by decide) (by decide)) (b2 9 (by decide) (by decide) (by decide) (by decide)) (b2 10 (by decide) (by decide) (by decide) (by decide)), RX_up hX (v1 16 (by decide) (by decide)) (by rw [v2]) (by rw [v2]) (b2 13 (by decide) (by decide) (by decide) (by decide)) (fun k h1 h2 => b2 k (by omega) (by omega) (by omega) (by omega)), ⟨fun h => ⟨fun h2 => by omega, fun _ => by have := hI h; omega⟩, hI2⟩⟩
  obtain ⟨x1, x2⟩ := v3 i hi
  obtain ⟨y1, y2⟩ := b5 i hi
  rw [x1, x2, y1, y2]
  refine ⟨rfl, rfl, fun h => ?_⟩
  rw [show dB 0 0 i = false from decide_eq_false (by omega), decide_eq_false (by omega), decide_eq_false (by omega)]
  exact ⟨rfl, rfl⟩
theorem ends_v {N : Nat} (hN : 700 ≤ N) {w mo : Ob} (bb : Ob) {e : Nat → Int64} {st : Nat → Int} {t len ign told votd L : Int} {p over F X : Nat} {xm xt : Nat → Int} (hS : RS w e st) (hK : RK w e p t t ign) (hC : RC w e p len) (hF : RF w e F (st 2)) (hT : RT w e told votd) (hX : RX w e X xm xt) (ho : over ≤ 8) (L0 : 0 ≤ L) (L1 : L ≤ 9999) (hI : 1 ≤ X → xt 0 < t - 1000 * over) (hI2 : 2 ≤ X → xt 1 < xt 0) (t0 : 0 ≤ t) (ha : mo.2.2.2 0 = e) :
    ∃ v1 v2 v3 b' mo', f_X4_keepFrame N w = some v1 ∧ f_X4_beginMinute N (zI over) (zI L) v1 = some v2 ∧ f_X4_countVotes N v2 bb = some (v3, b') ∧ f_X6_endsMinute N (zI over) (zI (bitL L)) (zL t) mo = some (3, mo') ∧ Sd mo mo' ∧ RR v3 (mo'.2.2.2 0) ∧ v3.1 1 = zI t ∧ mo'.2.2.2 0 7 = zL t := by
  obtain ⟨⟨kb1, kb2⟩, ⟨km1, km2⟩, ⟨kg1, kg2⟩, ⟨kp1, kp2⟩, p1, p2, p3, p4, p5⟩ := id hK
  obtain ⟨⟨c1, c2⟩, c3, c4, c5⟩ := hC (by omega)
  obtain ⟨⟨f1, f2, f3⟩, f4, f5⟩ := hF
  obtain ⟨⟨x1, x2⟩, x3, x4⟩ := hX
  have sok := hS.1
  unfold stOk at sok
  have s1 := hS.2 1 (by omega)
  have s2 := hS.2 2 (by omega)
  have s3 := hS.2 3 (by omega)
  obtain ⟨W, hW⟩ : ∃ W : Nat, st 2 = W := ⟨(st 2).toNat, by omega⟩
  obtain ⟨Q, hQ⟩ : ∃ Q : Nat, st 1 = Q := ⟨(st 1).toNat, by omega⟩
  rw [hW] at s2 f4
  rw [hQ] at s1
  obtain ⟨ee, v, k1, k2, k3, k4, k5, k6, k7, k8, k9⟩ := X4_keepFrame_v hN (p := p) (F := F) (W := W) (by omega) w kp1 f1 s2.1 (by omega) (by omega)
  obtain ⟨v2, g1, g2, g3, g4, g5, g6⟩ := X4_beginMinute_v hN (s := over) (L := L) (by omega) (by omega) (by omega) v
  obtain ⟨c, d, mo', m1, m2, m3, ⟨o, e2, m4, m5, m6⟩, m7, m8, m9, mV, m10, m11, m12, m13, m14, m15, m16, m17⟩ := X6_endsMinute_v hN (p := p) (over := over) (bit := bitL L) (F := F) (q := Q) (W := W) (X := X) (m := st 3) (x3 := zL t) (by omega) (by omega) (bitL_le L) mo (by rw [ha]; exact kp2) (by rw [ha]; exact f5) (by rw [ha]; exact s2.2) (by omega) (by omega) (by omega) (by rw [ha]; exact s1.2) (by omega) (by omega) (by rw [ha]; exact s3.2) (by omega) (by omega) (by rw [ha]; exact x2) x3
  rw [ha] at m4 m7 m8 m16 m17
  generalize hF' : (if F < W then F + 1 else W) = F' at *
  have F'W : F' ≤ W := by rw [← hF']; split <;> omega
  have F'F : F' ≤ F + 1 := by rw [← hF']; split <;> omega
  have ho2 : o = w.2.1 6 := bits_ext fun i hi => by
    obtain ⟨y1, y2, y3⟩ := c5 i hi
    rw [(m4 i hi).1, y1]
    by_cases h : p < i
    · rw [(y3 (by omega)).1]; rfl
    · rw [show dB (p + 1) 59 i = false from decide_eq_false (by omega)]
      simp
  have he2 : e2 = ee := bits_ext fun i hi => by
    obtain ⟨y1, y2, y3⟩ := c5 i hi
    rw [(m4 i hi).2, k2 i hi, y2]
  have fr : FrC v2 c F' := by
    refine ⟨by rw [g4 11 (by decide) (by decide)]; exact k3, by omega, fun k hk => ?_⟩
    rw [g5]
    cases k with
    | zero =>
      rw [Nat.mul_zero, Nat.add_zero, Nat.add_zero, m5, m6, ho2, he2]
      exact ⟨k5, k6, k7⟩
    | succ k =>
      obtain ⟨h1, h2, h3⟩ := k8 k (by omega)
      obtain ⟨h4, h5⟩ := m7 k (by omega)
      rw [h1, h2, h3, h4, h5]
      exact f3 k (by omega)
  obtain ⟨v3, b', n1, n2, n3, n4, n5, n6, n7, n8, n9, n10⟩ := X4_countVotes_v hN (a := c) (F := F') (q := Q) (m := st 3) (mark := t) (pos := over) (X := X) fr (by rw [g5, k9 0 (by decide)]; exact s3.1) (by omega) (by omega) (by rw [g5, k9 0 (by decide)]; exact s1.1) (by omega) (by omega) (by rw [g4 2 (by decide) (by decide), k4 2 (by decide)]; exact km1) g2 (by rw [g4 16 (by decide) (by decide), k4 16 (by decide)]; exact x1) x3 bb
  have low : ∀ k, k ≠ 4 → k ≠ 5 → k ≠ 11 → k ≠ 12 → k ≠ 13 → k ≠ 16 → v3.1 k = w.1 k := by
    intro k h4 h5 h11 h12 h13 h16
    rw [n5 k h5 h12 h13 h16, g4 k h4 h5, k4 k h11]
  have d7 : d 7 = e 7 := m8 7 (by decide) (by decide) (by decide) (by decide) (by decide) (by decide) (by decide) (by decide) (by decide)
  refine ⟨v, v2, v3, b', mo', k1, g1, n1, m1, m2, ?_, by rw [low 1 (by decide) (by decide) (by decide) (by decide) (by decide) (by decide)]; exact kb1, by rw [m3, d7]; exact kb2⟩
  rw [m3]
  have tr := winN_rng c (F := F') (by omega) Q (st 3)
  have cl := cnV_le (voW c (st 3)) (toldS c F' Q (st 3)) F'
  have S3 : RS v3 d st := RS_up hS (by rw [n8 0 (by decide) (by decide), g5, k9 0 (by decide)]) (fun i hi => m8 i (by omega) (by omega) (by omega) (by omega) (by omega) (by omega) (by omega) (by omega) (by omega))
  have K3 : RK v3 d over t t ign := ⟨⟨by rw [low 1 (by decide) (by decide) (by decide) (by decide) (by decide) (by decide)]; exact kb1, by rw [d7]; exact kb2⟩, ⟨by rw [low 2 (by decide) (by decide) (by decide) (by decide) (by decide) (by decide)]; exact km1, by rw [m8 6 (by decide) (by decide) (by decide) (by decide) (by decide) (by decide) (by decide) (by decide) (by decide)]; exact km2⟩, ⟨by rw [low 3 (by decide) (by decide) (by decide) (by decide) (by decide) (by decide)]; exact kg1, by rw [m8 11 (by decide) (by decide) (by decide) (by decide) (by decide) (by decide) (by decide) (by decide) (by decide)]; exact kg2⟩, ⟨by rw [n5 4 (by decide) (by decide) (by decide) (by decide)]; exact g2, m13⟩, by omega, p2, p3, p4, fun h => by omega⟩
  have C3 : RC v3 d over (if longS c F' Q (st 3) = true then 61 else 60) := by
    intro _
    refine ⟨⟨?_, ?_⟩, ?_, ?_, fun i hi => ?_⟩
    · rw [n4, g3]
      split <;> rfl
    · rw [m14]
      split <;> rfl
    · split <;> omega
    · split <;> omega
    · rw [n6, (g6 i hi).1, (g6 i hi).2, (m15 i hi).1, (m15 i hi).2]
      refine ⟨rfl, rfl, fun h => ?_⟩
      rw [show dB 0 over i = false from decide_eq_false (by omega), decide_eq_false (by omega), decide_eq_false (by omega)]
      exact ⟨rfl, rfl⟩
  have F3 : RF v3 d F' (st 2) := by
    refine ⟨⟨by rw [n5 11 (by decide) (by decide) (by decide) (by decide), g4 11 (by decide) (by decide)]; exact k3, by omega, fun k hk => ?_⟩, by omega, m10⟩
    have h := fr.2.2 k hk
    rw [n7, n8 10 (by decide) (by decide), show 16 + 2 * k = 16 + (2 * k) from rfl, m9 _ (by omega), show 17 + 2 * k = 16 + (2 * k + 1) by omega, m9 _ (by omega), show 16 + (2 * k + 1) = 17 + 2 * k by omega]
    exact h
  have T3 : RT v3 d (toldS c F' Q (st 3)) (votdS c F' Q (st 3)) := by
    refine ⟨⟨n2, m11⟩, ⟨n3, m12⟩, by omega, by omega, ?_, ?_⟩
    · unfold votdS; split <;> omega
    · unfold votdS; split <;> omega
  by_cases g : toldS c F' Q (st 3) = -1
  · obtain ⟨q1, q2⟩ := n9 g
    obtain ⟨q3, q4⟩ := m16 g
    refine ⟨st, over, t, t, ign, _, F', _, _, X, xm, xt, S3, K3, C3, F3, T3, ⟨⟨q1, q3⟩, x3, fun k hk => ?_⟩, ⟨fun h => ⟨fun h2 => by omega, fun _ => by have := hI h; omega⟩, hI2⟩⟩
    have h := x4 k hk
    rw [q2, g5, k9 14 (by decide), k9 15 (by decide), show 32 + 2 * k = 32 + (2 * k) from rfl, q4 _ (by omega), show 33 + 2 * k = 32 + (2 * k + 1) by omega, q4 _ (by omega), show 32 + (2 * k + 1) = 33 + 2 * k by omega]
    exact h
  · obtain ⟨q1, q2, q3, q4⟩ := n10 g
    obtain ⟨r1, r2, r3, r4⟩ := m17 g
    refine ⟨st, over, t, t, ign, _, F', _, _, (if X < 8 then X + 1 else 8), (fun k => if k = 0 then toldS c F' Q (st 3) + 1 else xm (k - 1)), (fun k => if k = 0 then t - 1000 * over else xt (k - 1)), S3, K3, C3, F3, T3, ⟨⟨q1, r1⟩, by split <;> omega, fun k hk => ?_⟩, ⟨fun h => ⟨fun h2 => by omega, fun _ => ?_⟩, fun h => ?_⟩⟩
    · cases k with
      | zero =>
        refine ⟨⟨?_, ?_⟩, ⟨?_, ?_⟩, ?_, ?_, ?_, ?_⟩
        · exact q2
        · exact r2
        · exact q3
        · refine r3.trans ?_
          show zL t - 1000 * zL over = zL (t - 1000 * over)
          rw [zL_lit, zL_mul, zL_sub]
        · show 0 ≤ toldS c F' Q (st 3) + 1; omega
        · show toldS c F' Q (st 3) + 1 ≤ _; omega
        · show _ ≤ t - 1000 * (over : Int); omega
        · show t - 1000 * (over : Int) ≤ _; omega
      | succ k =>
        have kX : k < X := by
          have : k + 1 < X + 1 := by
            by_cases h : X < 8
            · rw [if_pos h] at hk; exact hk
            · rw [if_neg h] at hk; omega
          omega
        have k7 : k < 7 := by
          by_cases h : X < 8
          · rw [if_pos h] at hk; omega
          · rw [if_neg h] at hk; omega
        have h := x4 k kX
        obtain ⟨j1, j2⟩ := q4 k k7
        obtain ⟨j3, j4⟩ := r4 k k7
        rw [j1, j2, j3, j4, g5, k9 14 (by decide), k9 15 (by decide)]
        exact h
    · show t - 1000 * (over : Int) ≤ t - 800 * over
      omega
    · show xt 0 < t - 1000 * (over : Int)
      refine hI ?_
      by_cases h2 : X < 8
      · rw [if_pos h2] at h; omega
      · omega
theorem takePulse_v {N : Nat} (hN : 700 ≤ N) {u mo : Ob} (b : Ob) (hR : RR u (mo.2.2.2 0)) {t L : Int} (ht : u.1 1 < zI t) (t0 : 0 ≤ t) (t1 : t ≤ 2000000000) (L0 : 0 ≤ L) (L1 : L ≤ 9999) : TP N u b mo t L := by
  generalize ha : mo.2.2.2 0 = a at hR
  obtain ⟨st, pos, mark, bef, ign, len, F, told, votd, X, xm, xt, hS, hK, hC, hF, hT, hX, hI⟩ := hR
  obtain ⟨⟨kb1, kb2⟩, ⟨km1, km2⟩, ⟨kg1, kg2⟩, ⟨kp1, kp2⟩, p1, p2, p3, p4, p5⟩ := id hK
  have sok := hS.1
  unfold stOk at sok
  rw [kb1, zI_lt (by omega) (by omega) (by omega) (by omega)] at ht
  have s0 := hS.2 0 (by omega)
  have ci := X4_ign_v N (w := oi u 1 (zI t)) (mark := mark) (t := t) (L := L) (tol := st 0) ((oi_n u _ (by decide)).trans km1) p2 (by omega) t1 s0.1 (by omega) (by omega) L0 L1
  have mi := X6_tp_ign (N := N) (mo := mo) (mark := mark) (t := t) (L := L) (tol := st 0) (by rw [ha]; exact km2) p2 (by omega) t1 (by rw [ha]; exact s0.2) (by omega) (by omega) L0 L1
  rw [ha] at mi
  have cs := X4_secs_v N (w := oi u 1 (zI t)) (mark := mark) (t := t) ((oi_n u _ (by decide)).trans km1) p2 (by omega) t1
  have z4 : (oi u 1 (zI t)).1 4 = zI pos := (oi_n u _ (by decide)).trans kp1
  by_cases hig : ignP mark (st 0) t L
  · -- ignored
    refine ⟨0, oi (oi u 1 (zI t)) 3 (u.1 3 + 1), b, _, ?_, mi.1 hig, Sd_oj mo _, ?_, by omega, by omega, ?_, ?_⟩
    · rw [f_X4_takePulse, ci.1 hig]
      rfl
    · rw [oj_s]
      refine ⟨st, pos, mark, t, ign + 1, len, F, told, votd, X, xm, xt, RS_up hS rfl (fun i hi => by rw [vp_n _ _ (by omega), vp_n _ _ (by omega)]), ⟨⟨?_, ?_⟩, ⟨?_, ?_⟩, ⟨?_, ?_⟩, ⟨?_, ?_⟩, p1, p2, by omega, t1, p5⟩, RC_up hC ?_ rfl ?_ ?_ ?_, RF_up hF ?_ rfl rfl (fun k h1 h2 => by rw [vp_n _ _ (by omega), vp_n _ _ (by omega)]) ?_, RT_up hT ?_ ?_ ?_ ?_, RX_up hX ?_ rfl rfl ?_ (fun k h1 h2 => by rw [vp_n _ _ (by omega), vp_n _ _ (by omega)]), hI⟩
      · rw [oi_n _ _ (by decide), oi_s]
      · rw [vp_n _ _ (by decide), vp_s]
      · rw [oi_n _ _ (by decide), oi_n _ _ (by decide)]; exact km1
      · rw [vp_n _ _ (by decide), vp_n _ _ (by decide)]; exact km2
      · rw [oi_s, kg1, zI_lit, zI_add]
      · rw [vp_s, kg2, zL_lit, zL_add]
      · rw [oi_n _ _ (by decide), oi_n _ _ (by decide)]; exact kp1
      · rw [vp_n _ _ (by decide), vp_n _ _ (by decide)]; exact kp2
      · rw [oi_n _ _ (by decide), oi_n _ _ (by decide)]
      · rw [vp_n _ _ (by decide), vp_n _ _ (by decide)]
      · rw [vp_n _ _ (by decide), vp_n _ _ (by decide)]
      · rw [vp_n _ _ (by decide), vp_n _ _ (by decide)]
      · rw [oi_n _ _ (by decide), oi_n _ _ (by decide)]
      · rw [vp_n _ _ (by decide), vp_n _ _ (by decide)]
      · rw [oi_n _ _ (by decide), oi_n _ _ (by decide)]
      · rw [oi_n _ _ (by decide), oi_n _ _ (by decide)]
      · rw [vp_n _ _ (by decide), vp_n _ _ (by decide)]
      · rw [vp_n _ _ (by decide), vp_n _ _ (by decide)]
      · rw [oi_n _ _ (by decide), oi_n _ _ (by decide)]
      · rw [vp_n _ _ (by decide), vp_n _ _ (by decide)]
    · rw [oi_n _ _ (by decide), oi_s]
    · rw [oj_s, vp_n _ _ (by decide), vp_s]
  · have cf := ci.2 hig
    -- the mark is taken: the state behind it
    have w1 : ∀ k, k ≠ 1 → k ≠ 2 → (oi (oi u 1 (zI t)) 2 (zI t)).1 k = u.1 k := fun k h1 h2 => by rw [oi_n _ _ h2, oi_n _ _ h1]
    have w2 : (oi (oi u 1 (zI t)) 2 (zI t)).1 1 = zI t := by rw [oi_n _ _ (by decide), oi_s]
    have w3 : (oi (oi u 1 (zI t)) 2 (zI t)).1 2 = zI t := oi_s _ _ _
    have a1 : ∀ k, k ≠ 7 → k ≠ 6 → (vp_updL (vp_updL a 7 (zL t)) 6 (zL t)) k = a k := fun k h1 h2 => by rw [vp_n _ _ h2, vp_n _ _ h1]
    have a2 : (vp_updL (vp_updL a 7 (zL t)) 6 (zL t)) 7 = zL t := by rw [vp_n _ _ (by decide), vp_s]
    have a3 : (vp_updL (vp_updL a 7 (zL t)) 6 (zL t)) 6 = zL t := vp_s _ _ _
    generalize hw : oi (oi u 1 (zI t)) 2 (zI t) = w at *
    generalize hb : vp_updL (vp_updL a 7 (zL t)) 6 (zL t) = e at *
    have wr : w.2 = u.2 := by rw [← hw]; rfl
    have S2 : RS w e st := RS_up hS (by rw [wr]) (fun i hi => a1 i (by omega) (by omega))
    have K2 : RK w e pos t t ign := ⟨⟨w2, a2⟩, ⟨w3, a3⟩, ⟨by rw [w1 3 (by decide) (by decide)]; exact kg1, by rw [a1 11 (by decide) (by decide)]; exact kg2⟩, ⟨by rw [w1 4 (by decide) (by decide)]; exact kp1, by rw [a1 5 (by decide) (by decide)]; exact kp2⟩, p1, by omega, by omega, t1, fun h => by omega⟩
    have C2 : RC w e pos len := RC_up hC (w1 5 (by decide) (by decide)) (by rw [wr]) (a1 8 (by decide) (by decide)) (a1 14 (by decide) (by decide)) (a1 15 (by decide) (by decide))
    have F2 : RF w e F (st 2) := RF_up hF (w1 11 (by decide) (by decide)) (by rw [wr]) (by rw [wr]) (fun k h1 h2 => a1 k (by omega) (by omega)) (a1 12 (by decide) (by decide))
    have T2 : RT w e told votd := RT_up hT (w1 12 (by decide) (by decide)) (w1 13 (by decide) (by decide)) (a1 9 (by decide) (by decide)) (a1 10 (by decide) (by decide))
    have X2 : RX w e X xm xt := RX_up hX (w1 16 (by decide) (by decide)) (by rw [wr]) (by rw [wr]) (a1 13 (by decide) (by decide)) (fun k h1 h2 => a1 k (by omega) (by omega))
    by_cases gm : mark = -1
    · -- the first mark
      have pe := p5 gm
      refine ⟨1, w, b, oj mo 0 e, ?_, ?_, Sd_oj mo _, ?_, by omega, by omega, w2, by rw [oj_s]; exact a2⟩
      · rw [f_X4_takePulse, cf, Option.bind_some, if_neg (by decide), cs, Option.bind_some, if_pos gm, hw, kp1, ifP (zI_m1 (by omega) (by omega)) pe]
        rfl
      · rw [mi.2.1 hig gm]
        rfl
      · rw [oj_s]
        exact ⟨st, pos, t, t, ign, len, F, told, votd, X, xm, xt, S2, K2, C2, F2, T2, X2, ⟨fun h => ⟨fun h2 => by have := (hI.1 h).1 h2; omega, fun h2 => absurd pe h2⟩, hI.2⟩⟩
    · have hK0 : ∀ K : Int, K = (t - mark + 500) / 1000 → 1 ≤ K ∧ (K ≤ 10 → t - mark - 1000 * K ≤ 200 ∧ -200 ≤ t - mark - 1000 * K) := by
        intro K hK
        unfold ignP at hig
        rw [← hK] at hig
        refine ⟨?_, fun h => ?_⟩ <;> omega
      obtain ⟨K, hK⟩ : ∃ K, K = (t - mark + 500) / 1000 := ⟨_, rfl⟩
      obtain ⟨K1, KE⟩ := hK0 K hK
      have K3 : K ≤ 2000001 := by omega
      have mk := mi.2.2 hig gm
      rw [if_neg gm, ← hK] at cs
      rw [← hK] at mk
      have e5 : e 5 = zL pos := by rw [a1 5 (by decide) (by decide)]; exact kp2
      have hk148 : k_X6_takesPulse_148 N (zL t) (zI L) (zI (bitL L)) (zL (t - mark)) (zL K) (oj mo 0 (vp_updL a 7 (zL t))) = (if 10 < zL K then ((f_X6_forgets N (oj mo 0 e)).bind fun q11 => some (4, q11)) else (if zL pos = -1 then k_X6_takesPulse_210 N (zL t) (zI L) (zI (bitL L)) (zL (t - mark)) (zL K) (zL pos + zL K) (oj mo 0 e) else (if zL pos + zL K = e 8 - 1 then ((f_X6_forgets N (oj mo 0 e)).bind fun q24 => some (4, q24)) else k_X6_takesPulse_210 N (zL t) (zI L) (zI (bitL L)) (zL (t - mark)) (zL K) (zL pos + zL K) (oj mo 0 e)))) := by
        rw [k_X6_takesPulse_148, oj_s, oj_oj, show (6 : Int32).toNatClampNeg = 6 from rfl, show (5 : Int32).toNatClampNeg = 5 from rfl, show (8 : Int32).toNatClampNeg = 8 from rfl, hb, e5]
      have hk210 : k_X6_takesPulse_210 N (zL t) (zI L) (zI (bitL L)) (zL (t - mark)) (zL K) (zL pos + zL K) (oj mo 0 e) = (if zL pos = -1 then (if zL K = 2 then ((f_X6_beginsMinute N 0 (zI (bitL L)) 60 (oj mo 0 e)).bind fun q21 => some (3, q21)) else some (1, oj mo 0 e)) else (if e 8 ≤ zL pos + zL K then ((f_X6_endsMinute N (zL pos + zL K - e 8).toInt32 (zI (bitL L)) (zL t) (oj mo 0 e)).bind fun q16 => some (q16.1, q16.2)) else ((f_X6_goesTo N (zL pos + zL K).toInt32 (zI (bitL L)) (oj mo 0 e)).bind fun q18 => some (q18.1, q18.2)))) := by
        rw [k_X6_takesPulse_210, oj_s, show (5 : Int32).toNatClampNeg = 5 from rfl, show (8 : Int32).toNatClampNeg = 8 from rfl, e5]
      have hcl : f_X4_takePulse N (zI t) (zI L) u b = (if zI K ≤ 10 then (if zI pos = -1 then (if zI K = 2 then ((f_X4_beginMinute N 0 (zI L) w).bind fun q24 => some (3, (q24, b))) else some (1, (w, b))) else (if zI pos + zI K = u.1 5 - 1 then ((f_X4_loseStep N w).bind fun q21 => some (4, (q21, b))) else (if u.1 5 ≤ zI pos + zI K then ((f_X4_keepFrame N w).bind fun q10 => ((f_X4_beginMinute N (zI pos + zI K - u.1 5) (zI L) q10).bind fun q12 => ((f_X4_countVotes N q12 b).bind fun q14 => some (3, (q14.1, q14.2))))) else ((f_X4_doubtSeconds N (zI pos + 1) (zI pos + zI K - 1) w).bind fun q16 => ((f_X4_putBit N (zI pos + zI K) (zI L) (oi q16 4 (zI pos + zI K))).bind fun q18 => (if zI K ≤ 1 then some (1, (q18, b)) else some (2, (q18, b)))))))) else ((f_X4_loseStep N w).bind fun q26 => some (4, (q26, b)))) := by
        rw [f_X4_takePulse, cf, Option.bind_some, if_neg (by decide), cs, Option.bind_some, hw, kp1]
      have pb : pos ≤ 59 := by
        by_cases pe : pos = -1
        · omega
        · obtain ⟨_, c3, c4, _⟩ := hC pe
          omega
      have r5 : (zL pos = -1) = (pos = -1) := zL_m1 (by omega) (by omega)
      have r5i : (zI pos = -1) = (pos = -1) := zI_m1 (by omega) (by omega)
      have r10 : ((10 : Int64) < zL K) = (10 < K) := by rw [zL_lit, zL_lt (by omega) (by omega) (by omega) (by omega)]
      have r10i : (zI K ≤ 10) = (K ≤ 10) := by rw [zI_lit, zI_le (by omega) (by omega) (by omega) (by omega)]
      have r2 : (zL K = 2) = (K = 2) := by rw [zL_lit, zL_eq (by omega) (by omega) (by omega) (by omega)]
      have r2i : (zI K = 2) = (K = 2) := by rw [zI_lit, zI_eq (by omega) (by omega) (by omega) (by omega)]
      have I1 : 1 ≤ X → xt 0 ≤ t := by
        intro h
        by_cases pe : pos = -1
        · have := (hI.1 h).1 pe; omega
        · have := (hI.1 h).2 pe; omega
      have lost : (f_X4_takePulse N (zI t) (zI L) u b = ((f_X4_loseStep N w).bind fun q26 => some (4, (q26, b)))) → (f_X6_takesPulse N (zL t) (zI L) mo = ((f_X6_forgets N (oj mo 0 e)).bind fun q11 => some (4, q11))) → TP N u b mo t L := by
        intro h1 h2
        obtain ⟨v, f, l1, l2, l3, l4, l5⟩ := lose_v N S2 K2 X2 I1 hI.2 (mo := oj mo 0 e) (oj_s mo 0 e)
        rw [oj_oj] at l2
        refine ⟨4, v, b, oj mo 0 f, ?_, ?_, Sd_oj mo f, by rw [oj_s]; exact l3, by omega, by omega, by rw [l4]; exact w2, by rw [oj_s, l5]; exact a2⟩
        · rw [h1, l1]
          rfl
        · rw [h2, l2]
          rfl
      by_cases k10 : K ≤ 10
      · rw [ifN r10 (by omega)] at hk148
        rw [ifP r10i k10] at hcl
        by_cases pe : pos = -1
        · rw [ifP r5 pe, hk210, ifP r5 pe] at hk148
          rw [ifP r5i pe] at hcl
          by_cases k2 : K = 2
          · rw [ifP r2 k2] at hk148
            rw [ifP r2i k2] at hcl
            rw [pe] at K2
            obtain ⟨v, f, l1, l2, l3, l4, l5⟩ := begin_v hN (L := L) S2 K2 F2 T2 X2 t0 L0 L1 I1 hI.2 (mo := oj mo 0 e) (oj_s mo 0 e)
            rw [oj_oj] at l2
            refine ⟨3, v, b, oj mo 0 f, ?_, ?_, Sd_oj mo f, by rw [oj_s]; exact l3, by omega, by omega, l4, by rw [oj_s]; exact l5⟩
            · rw [hcl, show (0 : Int32) = zI 0 from rfl, l1]
              rfl
            · rw [mk, hk148, show (0 : Int32) = zI 0 from rfl, l2]
              rfl
          · rw [ifN r2 k2] at hk148
            rw [ifN r2i k2] at hcl
            refine ⟨1, w, b, oj mo 0 e, hcl, ?_, Sd_oj mo e, ?_, by omega, by omega, w2, by rw [oj_s]; exact a2⟩
            · rw [mk, hk148]
              rfl
            · rw [oj_s]
              exact ⟨st, pos, t, t, ign, len, F, told, votd, X, xm, xt, S2, K2, C2, F2, T2, X2, ⟨fun h => ⟨fun _ => I1 h, fun h2 => absurd pe h2⟩, hI.2⟩⟩
        · rw [ifN r5 pe] at hk148
          rw [ifN r5i pe] at hcl
          rw [ifN r5 pe] at hk210
          obtain ⟨⟨c1, c2⟩, c3, c4, c5⟩ := C2 pe
          have u5 : u.1 5 = zI len := by rw [← w1 5 (by decide) (by decide)]; exact c1
          obtain ⟨p, rfl⟩ : ∃ p : Nat, pos = p := ⟨pos.toNat, by omega⟩
          obtain ⟨kk, rfl⟩ : ∃ kk : Nat, K = kk := ⟨K.toNat, by omega⟩
          have zq : zL (p : Int) + zL (kk : Int) = zL ((p + kk : Nat) : Int) := by rw [zL_add]; rfl
          have zqi : zI (p : Int) + zI (kk : Int) = zI ((p + kk : Nat) : Int) := by rw [zI_add]; rfl
          have z1 : zL len - 1 = zL (len - 1) := by rw [zL_lit, zL_sub]
          have z1i : zI len - 1 = zI (len - 1) := by rw [zI_lit, zI_sub]
          rw [zq, c2, z1] at hk148
          rw [zq, c2] at hk210
          rw [zqi, u5, z1i] at hcl
          have q1 : (zL ((p + kk : Nat) : Int) = zL (len - 1)) = ((p + kk : Nat) = len - 1) := zL_eq (by omega) (by omega) (by omega) (by omega)
          have q1i : (zI ((p + kk : Nat) : Int) = zI (len - 1)) = ((p + kk : Nat) = len - 1) := zI_eq (by omega) (by omega) (by omega) (by omega)
          have q2 : (zL len ≤ zL ((p + kk : Nat) : Int)) = (len ≤ (p + kk : Nat)) := zL_le (by omega) (by omega) (by omega) (by omega)
          have q2i : (zI len ≤ zI ((p + kk : Nat) : Int)) = (len ≤ (p + kk : Nat)) := zI_le (by omega) (by omega) (by omega) (by omega)
          by_cases g1 : ((p + kk : Nat) : Int) = len - 1
          · rw [ifP q1 g1] at hk148
            rw [ifP q1i g1] at hcl
            exact lost hcl (by rw [mk, hk148])
          · rw [ifN q1 g1, hk210] at hk148
            rw [ifN q1i g1] at hcl
            obtain ⟨d1, d2⟩ := KE k10
            have In : 1 ≤ X → xt 0 ≤ mark - 800 * p := fun h => (hI.1 h).2 pe
            by_cases g2 : len ≤ ((p + kk : Nat) : Int)
            · rw [ifP q2 g2] at hk148
              rw [ifP q2i g2] at hcl
              obtain ⟨over, ho⟩ : ∃ over : Nat, (over : Int) = ((p + kk : Nat) : Int) - len := ⟨(((p + kk : Nat) : Int) - len).toNat, by omega⟩
              obtain ⟨v1, v2, v3, b', mo', l1, l2, l3, l4, l5, l6, l7, l8⟩ := ends_v hN (L := L) (over := over) b S2 K2 C2 F2 T2 X2 (by omega) L0 L1 (fun h => by have := In h; omega) hI.2 t0 (mo := oj mo 0 e) (oj_s mo 0 e)
              refine ⟨3, v3, b', mo', ?_, ?_, Sd_tr (Sd_oj mo e) l5, l6, by omega, by omega, l7, l8⟩
              · rw [hcl, l1, Option.bind_some, zI_sub, ← ho, l2, Option.bind_some, l3]
                rfl
              · rw [mk, hk148, zL_sub, ← ho, zL_toI, l4]
                rfl
            · rw [ifN q2 g2] at hk148
              rw [ifN q2i g2] at hcl
              obtain ⟨dd, v, f, l1, l2, l3, l4, l5, l6⟩ := goes_v hN (L := L) (p := p) (q := p + kk) S2 K2 C2 F2 T2 X2 (by omega) (by omega) (by omega) L0 L1 (fun h => by have := In h; omega) hI.2 (mo := oj mo 0 e) (oj_s mo 0 e)
              have z2 : zI ((p + kk : Nat) : Int) - 1 = zI (((p + kk : Nat) : Int) - 1) := by rw [zI_lit, zI_sub]
              have r1 : (zI (kk : Int) ≤ 1) = (p + kk - p ≤ 1) := by
                rw [zI_lit, zI_le (by omega) (by omega) (by omega) (by omega)]
                exact propext (by omega)
              rw [oj_oj] at l3
              refine ⟨(if p + kk - p ≤ 1 then 1 else 2), v, b, oj mo 0 f, ?_, ?_, Sd_oj mo f, by rw [oj_s]; exact l4, by split <;> omega, by split <;> omega, l5, by rw [oj_s]; exact l6⟩
              · rw [hcl, zI_suc, z2, l1, Option.bind_some, l2, Option.bind_some]
                by_cases h : p + kk - p ≤ 1
                · rw [ifP r1 h, if_pos h]
                  rfl
                · rw [ifN r1 h, if_neg h]
                  rfl
              · rw [mk, hk148, zL_toI, l3]
                rfl
      · rw [ifP r10 (by omega)] at hk148
        rw [ifN r10i k10] at hcl
        exact lost hcl (by rw [mk, hk148])
