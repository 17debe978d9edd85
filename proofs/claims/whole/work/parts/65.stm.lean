/-! statements, by both -/
def PW (T : Nat → Int) (L : Nat) (u m : Ob) (a : Nat) : Prop := CT T L u ∧ MT T L m ∧ a ≤ L ∧ sk spc T L a = a ∧ u.1 4 = zI a ∧ u.1 3 = zI (sk ltr T L a) ∧ TOK T L m a ∧ u.1 5 = 0 ∧ m.1 15 = 0
theorem PT_c {T : Nat → Int} {L p : Nat} {u m v : Ob} (h : PT T L u m p) (h2 : v.1 2 = u.1 2) (h3 : v.1 3 = u.1 3) (h5 : v.1 5 = u.1 5) (h6 : v.1 6 = u.1 6) (ht : v.2.2.1 = u.2.2.1) : PT T L v m p := by
  obtain ⟨a1, a2, a3, a4, a5, a6, a7⟩ := h
  exact ⟨CT_up a1 h2 h6 ht, a2, h3.trans a3, a4, a5, h5.trans a6, a7⟩
theorem PT_m {T : Nat → Int} {L p : Nat} {u m v : Ob} (h : PT T L u m p) (hs : Sd m v) : PT T L u v p := by
  obtain ⟨a1, a2, a3, a4, ⟨b1, b2, b3, b4⟩, a6, a7⟩ := h
  exact ⟨a1, MT_LF a2 (LF_Sd hs), a3, a4, ⟨(hs.1 12 (by decide)).trans b1, (hs.1 13 (by decide)).trans b2, (hs.1 14 (by decide)).trans b3, fun g => (hs.2.1 18 (by decide)).trans (b4 g)⟩, a6, (hs.1 15 (by decide)).trans a7⟩
theorem PE_c {T : Nat → Int} {L : Nat} {u m v : Ob} (h : PE T L u m) (h5 : v.1 5 = u.1 5) (h6 : v.1 6 = u.1 6) : PE T L v m := by
  obtain ⟨⟨c, pos, hc, h1, h2, h3, h4⟩, h7⟩ := h
  exact ⟨⟨c, pos, hc, h5.trans h1, h6.trans h2, h3, h4⟩, h7⟩
theorem word_p {N : Nat} (hN : 700 ≤ N) {T : Nat → Int} {L p : Nat} {u m : Ob} (h : PT T L u m p) : ∃ v, f_X3_readWord N u = some v ∧ PW T L v m (sk spc T L p) ∧ (∀ k, k ≠ 3 → k ≠ 4 → v.1 k = u.1 k) ∧ v.2 = u.2 := by
  obtain ⟨a1, a2, a3, a4, a5, a6, a7⟩ := h
  have r := sk_rng spc T a4
  have fr : ∀ k, k ≠ 3 → k ≠ 4 → (oi (oi (oi u 3 (zI (sk spc T L p))) 4 (zI (sk spc T L p))) 3 (zI (sk ltr T L (sk spc T L p)))).1 k = u.1 k := fun k k3 k4 => by rw [oi_n _ _ k3, oi_n _ _ k4, oi_n _ _ k3]
  refine ⟨_, X3_readWord_v hN a1 a3 a4, ⟨CT_up a1 (fr 2 (by decide) (by decide)) (fr 6 (by decide) (by decide)) rfl, a2, r.2, sk_sk a4, ?_, oi_s _ 3 _, a5, (fr 5 (by decide) (by decide)).trans a6, a7⟩, fr, rfl⟩
  rw [oi_n _ _ (by decide), oi_s]
theorem pass_p {N : Nat} (hN : 700 ≤ N) {T : Nat → Int} {L a i : Nat} (hi : i < 9) {u m : Ob} (h : PW T L u m a) (hw : wB T L i a = true) : ∃ m', f_X6_must N true m = some m' ∧ PT T L u m' (sk ltr T L a) ∧ a < sk ltr T L a ∧ LF m m' ∧ m'.2.2 = m.2.2 := by
  obtain ⟨a1, a2, a3, a4, a5, a6, a7, a8, a9⟩ := h
  obtain ⟨w1, w2, w3, w4⟩ := tk_word hi a3 hw
  have r := sk_rng ltr T a3
  obtain ⟨m', n1, n2, n3, n4⟩ := X6_next_v hN a2 (p := sk ltr T L a) (by rw [a7.2.1, w2]) r.2
  refine ⟨m', ?_, ⟨a1, MT_LF a2 (LF_nx n3 n4), a6, r.2, n2, a8, (n3 15 (by decide) (by decide) (by decide)).trans a9⟩, w3, LF_nx n3 n4, n4⟩
  rw [must_T N a9, n1]
  rfl
theorem wis_c {N : Nat} (hN : 700 ≤ N) {T : Nat → Int} {L a i : Nat} (hi : i < 9) {u m : Ob} (h : PW T L u m a) : f_X3_wordIs N i u = some (wB T L i a, u) := X3_wordIs_v hN hi h.1 h.2.2.1 h.2.2.2.2.1 h.2.2.2.2.2.1
theorem wis_m {N : Nat} (hN : 700 ≤ N) {T : Nat → Int} {L a i : Nat} (hi : i < 9) {u m : Ob} (h : PW T L u m a) : f_X6_isWord N i m = some (wB T L i a, m) := X6_isWord_v hN hi h.2.1 h.2.2.1 h.2.2.2.2.2.2.1 h.2.2.2.2.2.2.2.2
/-- the end of a statement, both sides -/
def tl5 (N : Nat) (u w : Ob) : Option (Ob × Ob) := (if u.1 5 = 0 then ((f_X3_readSign N 59 u).bind fun q37 => (if q37.1 = true then some (q37.2, w) else ((f_X3_fail N (-2) (q37.2.1 3) q37.2).bind fun q40 => some (q40, w)))) else some (u, w))
def tl6 (N : Nat) (m : Ob) : Option Ob := (if m.1 14 = 2 then ((f_X6_see N (m.1 12) m).bind fun q15 => (if q15 = 59 then ((f_X6_must N true m).bind fun q20 => some q20) else ((f_X6_must N false m).bind fun q18 => some q18))) else ((f_X6_must N false m).bind fun q13 => some q13))
theorem tail_p {N : Nat} (hN : 700 ≤ N) {T : Nat → Int} {L p : Nat} {u m : Ob} (w : Ob) (h : PT T L u m p) : ∃ u' m', tl5 N u w = some (u', w) ∧ tl6 N m = some m' ∧ LF m m' ∧ FC u u' ∧ ((m'.2.2 = m.2.2 ∧ ∃ q, p < q ∧ PT T L u' m' q) ∨ PE T L u' m') := by
  have h5 : u.1 5 = 0 := h.2.2.2.2.2.1
  obtain ⟨u', m', hs⟩ := semi_p hN h
  rcases hs with ⟨b, s1, s2, s3, s4, s5, s6, q, s7, s8⟩ | ⟨v, s1, s2, s3, s4, s5, s6⟩
  · refine ⟨u', m', ?_, s3, s4, s6, Or.inl ⟨s5, q, s7, s8⟩⟩
    unfold tl5
    rw [if_pos h5, s1, Option.bind_some]
    show (if b = true then some (u', w) else _) = _
    rw [if_pos s2]
  · refine ⟨u', m', ?_, s3, s4, s5, Or.inr s6⟩
    unfold tl5
    rw [if_pos h5, s1, Option.bind_some]
    show (if false = true then some (v, w) else ((f_X3_fail N (-2) (v.1 3) v).bind fun q40 => some (q40, w))) = _
    rw [ifb0, s2]
    rfl
theorem tail_e (N : Nat) {T : Nat → Int} {L : Nat} {u m : Ob} (w : Ob) (h : PE T L u m) : tl5 N u w = some (u, w) ∧ tl6 N m = some m := by
  obtain ⟨e1, e2⟩ := PE_n0 h
  obtain ⟨_, hT, a, aL, ha⟩ := h
  have t2 := hT.2.1
  unfold tl5 tl6
  rw [if_neg e1, must_W N e2, must_W N e2, ha, X6_see_v N hT (by omega)]
  refine ⟨rfl, ?_⟩
  by_cases g : m.1 14 = 2
  · rw [if_pos g, Option.bind_some]
    by_cases g2 : zI (if a < L then T a else -1) = 59
    · rw [if_pos g2]
      rfl
    · rw [if_neg g2]
      rfl
  · rw [if_neg g]
    rfl
/-- the class carries a statement out -/
def EXE (N : Nat) (u w b w' b' : Ob) : Prop :=
  (u.1 7 = 5 ∧ ∃ r, f_X4_takePulse N (u.1 8) (u.1 9) w b = some (r, w', b')) ∨
  (u.1 7 = 6 ∧ ∃ r, ∃ lp : Bool, u.1 10 = (if lp = true then 1 else 0) ∧ f_X4_hearMinute N (u.1 8) lp (u.2.1 11) w b = some (r, w', b')) ∨
  (¬ (u.1 7 = 5) ∧ ¬ (u.1 7 = 6) ∧ f_X4_change N (u.1 7) (u.1 8) w = some w' ∧ b' = b)
/-- what a statement does to both -/
def SR (N : Nat) (T : Nat → Int) (L p : Nat) (u w b m : Ob) (r5 : Option (Ob × Ob)) (r6 : Option Ob) : Prop := ∃ u' m', r5 = some (u', w) ∧ r6 = some m' ∧ LF m m' ∧ u'.1 1 = u.1 1 ∧ u'.2.2 = u.2.2 ∧ ((PE T L u' m') ∨ (∃ w' b' q, EXE N u' w b w' b' ∧ RR w' (m'.2.2.2 0) ∧ p < q ∧ PT T L u' m' q))
theorem FC_1 {u v : Ob} (h : FC u v) : v.1 1 = u.1 1 ∧ v.1 2 = u.1 2 ∧ v.1 7 = u.1 7 ∧ v.1 8 = u.1 8 ∧ v.1 9 = u.1 9 ∧ v.1 10 = u.1 10 ∧ v.2 = u.2 := ⟨h.1 1 (by decide) (by decide) (by decide), h.1 2 (by decide) (by decide) (by decide), h.1 7 (by decide) (by decide) (by decide), h.1 8 (by decide) (by decide) (by decide), h.1 9 (by decide) (by decide) (by decide), h.1 10 (by decide) (by decide) (by decide), h.2⟩
theorem EXE_c {N : Nat} {u v w b w' b' : Ob} (h : EXE N u w b w' b') (h7 : v.1 7 = u.1 7) (h8 : v.1 8 = u.1 8) (h9 : v.1 9 = u.1 9) (h10 : v.1 10 = u.1 10) (h11 : v.2.1 11 = u.2.1 11) : EXE N v w b w' b' := by
  unfold EXE
  rw [h7, h8, h9, h10, h11]
  exact h
/-- from what was read and carried out to the end of the statement -/
theorem fin_p {N : Nat} (hN : 700 ≤ N) {T : Nat → Int} {L p q : Nat} {u0 u w b w' b' m0 m : Ob} (h : PT T L u m q) (hpq : p ≤ q) (hl : LF m0 m) (h1 : u.1 1 = u0.1 1) (ht : u.2.2 = u0.2.2) (hx : EXE N u w b w' b') (hR : RR w' (m.2.2.2 0)) : SR N T L p u0 w b m0 (tl5 N u w) (tl6 N m) := by
  obtain ⟨u', m', s1, s2, s3, s4, s5⟩ := tail_p hN w h
  obtain ⟨f1, f2, f7, f8, f9, f10, f22⟩ := FC_1 s4
  refine ⟨u', m', s1, s2, LF_tr hl s3, f1.trans h1, (congrArg Prod.snd f22).trans ht, ?_⟩
  rcases s5 with ⟨g1, r, g2, g3⟩ | g
  · refine Or.inr ⟨w', b', r, EXE_c hx f7 f8 f9 f10 (congrFun (congrArg Prod.fst f22) 11), ?_, by omega, g3⟩
    rw [g1]
    exact hR
  · exact Or.inl g
theorem err_p (N : Nat) {T : Nat → Int} {L p : Nat} {u0 u w b m0 m : Ob} (h : PE T L u m) (hl : LF m0 m) (h1 : u.1 1 = u0.1 1) (ht : u.2.2 = u0.2.2) : SR N T L p u0 w b m0 (tl5 N u w) (tl6 N m) := by
  obtain ⟨e1, e2⟩ := tail_e N w h
  exact ⟨u, m, e1, e2, hl, h1, ht, Or.inl h⟩
/-- a pulse's statement -/
theorem pulse_p {N : Nat} (hN : 700 ≤ N) {T : Nat → Int} {L a p : Nat} {u0 u w b m0 m : Ob} (h : PW T L u m a) (hw : wB T L 5 a = true) (hpa : p ≤ a) (hl : LF m0 m) (h1 : u.1 1 = u0.1 1) (ht : u.2.2 = u0.2.2) (h7 : u.1 7 = 5) (hR : RR w (m.2.2.2 0)) :
    SR N T L p u0 w b m0 ((f_X3_readPulse N (w.1 1) u).bind fun q => tl5 N q w) ((f_X6_readsPulse N m).bind fun q => tl6 N q) := by
  obtain ⟨m1, n1, n2, n3, n4, n5⟩ := pass_p hN (by decide) h hw
  obtain ⟨bef, kb1, kb2, kb3, kb4⟩ := RR_bef hR
  have z5 : zI bef + 1 = zI (bef + 1) := by rw [zI_lit, zI_add]
  have z6 : (m1.2.2.2 0) ((7 : Int32).toNatClampNeg) + 1 = zL (bef + 1) := by
    rw [n5, show (7 : Int32).toNatClampNeg = 7 from rfl, kb2, zL_lit, zL_add]
  obtain ⟨t, u2, m2, c1, c2, c3, c4, c5, c6⟩ := num_p hN (lo := bef + 1) (hi := 2000000000) (by omega) (by omega) (by omega) (by omega) n2
  have c2 : f_X6_takes N (zL (bef + 1)) 2000000000 m1 = some (zI t, m2) := c2
  have c1 : f_X3_readNumber N (zI (bef + 1)) 2000000000 u = some (zI t, u2) := c1
  obtain ⟨f1, f2, f7, f8, f9, f10, f22⟩ := FC_1 c3
  have e5 : f_X3_readPulse N (w.1 1) u = (if u2.1 5 = 0 then ((f_X3_readNumber N 0 9999 (oi u2 8 (zI t))).bind fun q4 => some (oi q4.2 9 q4.1)) else some (oi u2 8 (zI t))) := by
    rw [f_X3_readPulse, kb1, z5, c1]
    rfl
  have e6 : f_X6_readsPulse N m = ((f_X6_takes N 0 9999 m2).bind fun q5 => (if q5.2.1 15 = 0 then ((f_X6_takesPulse N (zI t).toInt64 q5.1 q5.2).bind fun q8 => some q8.2) else some q5.2)) := by
    rw [f_X6_readsPulse, n1, Option.bind_some, z6, c2, Option.bind_some]
  rcases c6 with ⟨t1, t2, q, q1, q2⟩ | ⟨t1, t2⟩
  · have P2 : PT T L (oi u2 8 (zI t)) m2 q := PT_c q2 (oi_n _ _ (by decide)) (oi_n _ _ (by decide)) (oi_n _ _ (by decide)) (oi_n _ _ (by decide)) rfl
    rw [if_pos q2.2.2.2.2.2.1] at e5
    obtain ⟨l, u3, m3, d1, d2, d3, d4, d5, d6⟩ := num_p hN (lo := 0) (hi := 9999) (by omega) (by omega) (by omega) (by omega) P2
    have d1 : f_X3_readNumber N 0 9999 (oi u2 8 (zI t)) = some (zI l, u3) := d1
    have d2 : f_X6_takes N 0 9999 m2 = some (zI l, m3) := d2
    obtain ⟨g1, g2, g7, g8, g9, g10, g22⟩ := FC_1 d3
    rw [d1, Option.bind_some] at e5
    rw [d2, Option.bind_some] at e6
    have y1 : (oi u3 9 (zI l)).1 1 = u0.1 1 := by
      rw [oi_n _ _ (by decide), g1, oi_n _ _ (by decide), f1]
      exact h1
    have y2 : (oi u3 9 (zI l)).2.2 = u0.2.2 := by
      show u3.2.2 = _
      rw [g22]
      show u2.2.2 = _
      rw [f22]
      exact ht
    rcases d6 with ⟨l1, l2, q', q3, q4⟩ | ⟨l1, l2⟩
    · have R3 : RR w (m3.2.2.2 0) := by rw [d5, c5, n5]; exact hR
      rw [if_pos q4.2.2.2.2.2.2, zI_toL (by omega) (by omega)] at e6
      obtain ⟨r, w', b', m4, p1, p2, p3, p4, p5, p6, p7, p8⟩ := takePulse_v hN b R3 (t := t) (L := l) (by rw [kb1, zI_lt (by omega) (by omega) (by omega) (by omega)]; omega) (by omega) (by omega) (by omega) (by omega)
      rw [p2, Option.bind_some] at e6
      rw [e5, e6]
      have P4 : PT T L (oi u3 9 (zI l)) m4 q' := PT_m (PT_c q4 (oi_n _ _ (by decide)) (oi_n _ _ (by decide)) (oi_n _ _ (by decide)) (oi_n _ _ (by decide)) rfl) p3
      refine fin_p hN (b := b) (b' := b') P4 (by omega) (LF_tr hl (LF_tr n4 (LF_tr c4 (LF_tr d4 (LF_Sd p3))))) y1 y2 (Or.inl ⟨?_, zI r, ?_⟩) p4
      · rw [oi_n _ _ (by decide), g7, oi_n _ _ (by decide), f7]
        exact h7
      · rw [oi_s, oi_n _ _ (by decide), g8, oi_s]
        exact p1
    · rw [if_neg (PE_n0 l2).2] at e6
      rw [e5, e6]
      exact err_p N (PE_c l2 (oi_n _ _ (by decide)) (oi_n _ _ (by decide))) (LF_tr hl (LF_tr n4 (LF_tr c4 d4))) y1 y2
  · rw [if_neg (PE_n0 t2).1] at e5
    rw [takes_W N (PE_n0 t2).2, Option.bind_some, if_neg (PE_n0 t2).2] at e6
    rw [e5, e6]
    refine err_p N (PE_c t2 (oi_n _ _ (by decide)) (oi_n _ _ (by decide))) (LF_tr hl (LF_tr n4 c4)) ?_ ?_
    · rw [oi_n _ _ (by decide), f1]
      exact h1
    · show u2.2.2 = _
      rw [f22]
      exact ht
