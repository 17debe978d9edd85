/-! dissenting, weakest -/
def tlV (w : Nat → Int) : Nat → Nat
  | 0 => 0
  | k + 1 => tlV w k + if w k = -1 then 0 else 1
theorem tlV_le (w : Nat → Int) : ∀ k, tlV w k ≤ k
  | 0 => Nat.le_refl _
  | k + 1 => by
    have := tlV_le w k
    rw [tlV]
    split <;> omega
def dsV (w : Nat → Int) (x : Int) : Nat → Nat
  | 0 => 0
  | k + 1 => dsV w x k + if w k ≠ -1 ∧ w k ≠ x then 1 else 0
theorem dsV_sum (w : Nat → Int) {x : Int} (hx : x ≠ -1) : ∀ k, dsV w x k + cnV w k x = tlV w k
  | 0 => rfl
  | k + 1 => by
    have := dsV_sum w hx k
    rw [dsV, cnV, tlV]
    by_cases e : w k = -1
    · rw [if_neg (fun z => z.1 e), if_pos e, if_neg (show ¬ (w k = x ∧ x ≠ -1) by omega)]
      omega
    · rw [if_neg e]
      by_cases g : w k = x
      · rw [if_neg (fun z => z.2 g), if_pos ⟨g, hx⟩]
        omega
      · rw [if_pos ⟨e, g⟩, if_neg (fun z => g z.1)]
        omega
theorem X0_cast_t (N : Nat) {u : Ob} {n : Int → Nat} {T : Nat} (h : BalN u n T) (hT : T < 8) {v : Int} (h1 : -1 ≤ v) (h2 : v < 60000000) : ∃ u', f_X0_cast N (zI v) u = some u' ∧ BalN u' (fun x => n x + if v = x ∧ x ≠ -1 then 1 else 0) (T + if v = -1 then 0 else 1) := by
  obtain ⟨u', T', c1, c2, c3⟩ := X0_cast_v N h hT h1 h2
  refine ⟨u', c1, ?_⟩
  have hT' : T' = T + if v = -1 then 0 else 1 := by
    have a2 := h.2.1
    have b2 := c2.2.1
    have b1 := c2.1
    rw [f_X0_cast, a2, zI_tnN (by omega)] at c1
    by_cases e : v = -1
    · rw [ifP (zI_m1 (by omega) (by omega)) e] at c1
      have c1 := Option.some.inj c1
      rw [← c1, a2, zI_eq (by omega) (by omega) (by omega) (by omega)] at b2
      rw [if_pos e]
      omega
    · have e1 : ((8 : Int32) ≤ zI (T : Int)) = False := by simp (maxSteps := 400000) (disch := omega) only [zI_lit, zI_neg, zI_add, zI_sub, zI_mul, zI_div, zI_tn, zI_toL, zL_lit, zL_neg, zL_add, zL_sub, zL_mul, zL_div, zL_toI, zI_ltT, zI_ltF, zI_leT, zI_leF, zI_eqT, zI_eqF, zL_ltT, zL_ltF, zL_leT, zL_leF, zL_eqT, zL_eqF, nleT, nleF, or_self, or_false, false_or, true_or, or_true, not_true_eq_false, not_false_eq_true, ↓reduceIte, Option.bind_some, Bool.false_eq_true, decide_true, decide_false]
      have e2 : (zI (T : Int) < 0 ∨ 8 ≤ T) = False := by simp (maxSteps := 400000) (disch := omega) only [zI_lit, zI_neg, zI_add, zI_sub, zI_mul, zI_div, zI_tn, zI_toL, zL_lit, zL_neg, zL_add, zL_sub, zL_mul, zL_div, zL_toI, zI_ltT, zI_ltF, zI_leT, zI_leF, zI_eqT, zI_eqF, zL_ltT, zL_ltF, zL_leT, zL_leF, zL_eqT, zL_eqF, nleT, nleF, or_self, or_false, false_or, true_or, or_true, not_true_eq_false, not_false_eq_true, ↓reduceIte, Option.bind_some, Bool.false_eq_true, decide_true, decide_false]
      rw [ifN (zI_m1 (by omega) (by omega)) e, ifF e1, ifF e2, zI_suc] at c1
      have c1 := Option.some.inj c1
      rw [← c1, oi_s, zI_eq (by omega) (by omega) (by omega) (by omega)] at b2
      rw [if_neg e]
      omega
  rw [← hT']
  exact c2
theorem X4_castVotes_lt {N : Nat} {u : Ob} {a : Nat → Int64} {F : Nat} {m : Int} (hF : FrC u a F) (hm : u.2.2.1 0 3 = zI m) (m0 : 0 ≤ m) (m3 : m ≤ 3) : ∀ (j k n : Nat) (b : Ob), k + j = F → j < n → BalN b (cnV (voW a m) k) (tlV (voW a m) k) →
    ∃ b', l_X4_castVotes_9 N n (zI k) u b = some (u, b') ∧ BalN b' (cnV (voW a m) F) (tlV (voW a m) F) := by
  have F8 := hF.2.1
  intro j
  induction j with
  | zero =>
    intro k n b hk hn hB
    obtain ⟨n, rfl⟩ : ∃ k, n = k + 1 := ⟨n - 1, by omega⟩
    have : k = F := by omega
    subst this
    refine ⟨b, ?_, hB⟩
    rw [l_X4_castVotes_9, ifP (FrC_le hF k (by omega)) (Nat.le_refl _)]
  | succ j ih =>
    intro k n b hk hn hB
    obtain ⟨n, rfl⟩ : ∃ k, n = k + 1 := ⟨n - 1, by omega⟩
    have vr := voW_rng a m (k := k) (by omega)
    have tl := tlV_le (voW a m) k
    obtain ⟨b2, c1, c2⟩ := X0_cast_t N hB (by omega) (v := voW a m k) (by omega) (by omega)
    obtain ⟨b3, d1, d2⟩ := ih (k + 1) n b2 (by omega) (by omega) c2
    refine ⟨b3, ?_, d2⟩
    rw [l_X4_castVotes_9, ifN (FrC_le hF k (by omega)) (by omega), X4_voteOf_v N hF hm m0 m3 (by omega), Option.bind_some, c1, Option.bind_some, zI_suc]
    exact d1
theorem X4_castVotes_t {N : Nat} (hN : 700 ≤ N) {u : Ob} {a : Nat → Int64} {F : Nat} {m : Int} (hF : FrC u a F) (hm : u.2.2.1 0 3 = zI m) (m0 : 0 ≤ m) (m3 : m ≤ 3) (b : Ob) :
    ∃ b', f_X4_castVotes N u b = some (u, b') ∧ BalN b' (cnV (voW a m) F) (tlV (voW a m) F) := by
  have F8 := hF.2.1
  obtain ⟨b1, h1, h2⟩ := X0_open_v N b
  obtain ⟨b2, h3, h4⟩ := X4_castVotes_lt (N := N) hF hm m0 m3 F 0 N b1 (by omega) (by omega) h2
  refine ⟨b2, ?_, h4⟩
  rw [f_X4_castVotes, h1, Option.bind_some]
  exact h3
theorem X6_dis_l {N : Nat} (hN : 700 ≤ N) {a : Nat → Int64} {F q : Nat} {m x : Int} (hV : VA a F q m) (x0 : 0 ≤ x) (x1 : x < 60000000) : ∀ (j k n : Nat) (u : Ob), u.2.2.2 0 = a → u.1 7 = 0 → k + j = F → j < n →
    ∃ v, l_X6_dissenting_23 N n (zI x) (zI (dsV (voW a m) x k)) (zI k) u = some (zI (dsV (voW a m) x F), v) ∧ Sc u v := by
  have F8 := hV.2.1
  intro j
  induction j with
  | zero =>
    intro k n u hu h7 hk hn
    obtain ⟨n, rfl⟩ : ∃ k, n = k + 1 := ⟨n - 1, by omega⟩
    have : k = F := by omega
    subst this
    refine ⟨u, ?_, Sc_rfl u⟩
    rw [l_X6_dissenting_23, ifP (VA_le hV hu k (by omega)) (Nat.le_refl _)]
  | succ j ih =>
    intro k n u hu h7 hk hn
    obtain ⟨n, rfl⟩ : ∃ k, n = k + 1 := ⟨n - 1, by omega⟩
    obtain ⟨v, v1, v2, v3, v4⟩ := X6_vote hN hV u hu (k := k) (by omega)
    obtain ⟨w, w1, w2⟩ := ih (k + 1) n v v3 ((v2.1 7 (by decide)).trans h7) (by omega) (by omega)
    have vr := voW_rng a m (k := k) (by omega)
    refine ⟨w, ?_, Sc_trans v2 w2⟩
    rw [l_X6_dissenting_23, ifN (VA_le hV hu k (by omega)) (by omega), if_pos h7, v1, Option.bind_some, zI_suc k, zI_suc (dsV (voW a m) x k), zI_ad0]
    rw [dsV] at w1
    show (if zI (voW a m k) = -1 then _ else (if zI (voW a m k) = zI x then _ else _)) = _
    by_cases e : voW a m k = -1
    · rw [if_neg (fun z => z.1 e), Nat.add_zero] at w1
      rw [ifP (zI_m1 (by omega) (by omega)) e]
      exact w1
    · rw [ifN (zI_m1 (by omega) (by omega)) e]
      by_cases g : voW a m k = x
      · rw [if_neg (fun z => z.2 g), Nat.add_zero] at w1
        rw [if_pos (show zI (voW a m k) = zI x by rw [g])]
        exact w1
      · rw [if_pos ⟨e, g⟩] at w1
        rw [ifN (zI_eq (by omega) (by omega) (by omega) (by omega)) g]
        exact w1
theorem st_dissenting {N : Nat} (hN : 700 ≤ N) : S_dissenting Rel N := by
  intro u0 u1 u2 u3 mo h
  obtain ⟨F, q, m, hV, hF, hm, hq⟩ := RR_va h.1
  have F8 := hV.2.1
  have hr := asmV_rng (mo.2.2.2 0) F q
  obtain ⟨v', w⟩ := X4_assembledMinute_v hN hF hq hV.2.2.2.1 hV.2.2.2.2.1 (u3 0)
  have w : f_X4_assembledMinute N (u2 0) (u3 0) = some (zI (asmV (mo.2.2.2 0) F q), u2 0, v') := w
  have m6 := X6_assembledNow_v hN (mo := mo) (F := F) (q := q) (m := m) hV
  have e5 := f_X5_dissenting.eq_1 N u0 u1 u2 u3
  have e6 := f_X6_dissenting.eq_1 N mo
  rw [w, Option.bind_some] at e5
  rw [m6, Option.bind_some] at e6
  by_cases g : asmV (mo.2.2.2 0) F q = -1
  · rw [ifP (zI_m1 (by omega) (by omega)) g] at e5 e6
    obtain ⟨n, rfl⟩ : ∃ k, N = k + 1 := ⟨N - 1, by omega⟩
    have e6 : f_X6_dissenting (n + 1) mo = some (0, oi mo 7 1) := by
      rw [e6, l_X6_dissenting_23]
      have hn : ¬ ((oi mo 7 1).1 7 = 0) := by rw [oi_s]; decide
      rw [if_neg hn]
      split <;> rfl
    have e5 : f_X5_dissenting (n + 1) u0 u1 u2 u3 = some (.inl 3, u0, u1, u2, va_up u3 0 v') := by
      rw [e5]
      show some (Sum.inl 3, u0, u1, va_up u2 0 (u2 0), va_up u3 0 v') = _
      rw [va_up_id]
    exact ⟨_, _, _, e5, e6, Or.inl ⟨rfl, oi_s mo 7 1⟩, Rel_sc (u3' := va_up u3 0 v') (Rel_7 h 1) (Sc_rfl _)⟩
  · rw [ifN (zI_m1 (by omega) (by omega)) g] at e5 e6
    obtain ⟨b', c1, c2⟩ := X4_castVotes_t hN hF hm hV.2.2.2.2.2.2.1 hV.2.2.2.2.2.2.2 v'
    have c1 : f_X4_castVotes N (u2 0) v' = some (u2 0, b') := c1
    obtain ⟨z, z1, z2⟩ := X6_dis_l hN hV (x := asmV (mo.2.2.2 0) F q) (by omega) (by omega) F 0 N (oi mo 7 0) rfl (oi_s mo 7 0) (by omega) (by omega)
    have hs := dsV_sum (voW (mo.2.2.2 0) m) g F
    have c2v := X0_votesFor_v hN c2 (v := asmV (mo.2.2.2 0) F q) (by omega) (by omega)
    have c21 := c2.2.1
    have hsub : zI (tlV (voW (mo.2.2.2 0) m) F : Int) - zI (cnV (voW (mo.2.2.2 0) m) F (asmV (mo.2.2.2 0) F q) : Int) = zI (dsV (voW (mo.2.2.2 0) m) (asmV (mo.2.2.2 0) F q) F : Int) := by
      rw [zI_sub]
      congr 1
      omega
    have e5 : f_X5_dissenting N u0 u1 u2 u3 = some (.inr (zI (dsV (voW (mo.2.2.2 0) m) (asmV (mo.2.2.2 0) F q) F : Int)), u0, u1, u2, va_up (va_up u3 0 v') 0 b') := by
      rw [e5]
      show ((f_X4_castVotes N (u2 0) v').bind _) = _
      rw [c1, Option.bind_some]
      show ((f_X0_votesFor N (zI (asmV (mo.2.2.2 0) F q)) b').bind _) = _
      rw [c2v, Option.bind_some]
      show some (Sum.inr (b'.1 1 - _), u0, u1, va_up (va_up u2 0 (u2 0)) 0 (u2 0), va_up (va_up u3 0 v') 0 b') = _
      rw [c21, hsub, va_up_id, va_up_id]
    exact ⟨_, _, _, e5, e6.trans z1, ⟨(z2.1 7 (by decide)).trans (oi_s mo 7 0), rfl⟩, Rel_sc (u3' := va_up (va_up u3 0 v') 0 b') (Rel_7 h 0) z2⟩
/-- how many of the first frames have a doubtful bit -/
def wkN (a : Nat → Int64) (s : Nat) : Nat → Nat
  | 0 => 0
  | k + 1 => wkN a s k + if lb (gM (a (17 + 2 * k))) s = true then 1 else 0
theorem wkN_le (a : Nat → Int64) (s : Nat) : ∀ k, wkN a s k ≤ k
  | 0 => Nat.le_refl _
  | k + 1 => by
    have := wkN_le a s k
    rw [wkN]
    split <;> omega
theorem wkN_0 (a : Nat → Int64) {s : Nat} (h : lb 576460752302899201 s = false) : ∀ k, wkN a s k = 0
  | 0 => rfl
  | k + 1 => by
    rw [wkN, wkN_0 a h k, if_neg]
    unfold gM
    rw [lb_and, h, Bool.and_false]
    decide
theorem X4_wk_l (N : Nat) {u : Ob} {a : Nat → Int64} {F : Nat} (hF : FrC u a F) (x1 : Int32) {s : Nat} (hs : s < 64) : ∀ (j k n : Nat), k + j = F → j < n → l_X4_mostDoubtsOfABit_15 N u n x1 (zI s) (zI (wkN a s k)) (zI k) = some (x1, zI s, zI (wkN a s F), zI F) := by
  have F8 := hF.2.1
  intro j
  induction j with
  | zero =>
    intro k n hk hn
    obtain ⟨n, rfl⟩ : ∃ k, n = k + 1 := ⟨n - 1, by omega⟩
    have : k = F := by omega
    subst this
    rw [l_X4_mostDoubtsOfABit_15, ifP (FrC_le hF k (by omega)) (Nat.le_refl _)]
  | succ j ih =>
    intro k n hk hn
    obtain ⟨n, rfl⟩ : ∃ k, n = k + 1 := ⟨n - 1, by omega⟩
    obtain ⟨i1, _⟩ := frm_ix N (k := k) (by omega)
    obtain ⟨g1, g2, g3⟩ := hF.2.2 k (by omega)
    have hb : (jushr (gM (a (17 + 2 * k))) (zI s)) &&& (1 : Int64) = if lb (gM (a (17 + 2 * k))) s then 1 else 0 := jb1 _ (n := s) hs
    have hb : (jushr (a (17 + 2 * k) &&& 576460752302899201) (zI s)) &&& (1 : Int64) = if lb (gM (a (17 + 2 * k))) s then 1 else 0 := hb
    have w := ih (k + 1) n (by omega) (by omega)
    rw [l_X4_mostDoubtsOfABit_15, ifN (FrC_le hF k (by omega)) (by omega), ifF i1, zI_tnN (by omega), g2, hb, zI_suc k]
    rw [wkN] at w
    cases e : lb (gM (a (17 + 2 * k))) s
    · rw [e, if_neg (by decide), Nat.add_zero] at w
      rw [if_neg (by decide), show (0 : Int64).toInt32 = 0 from rfl, zI_ad0]
      exact w
    · rw [e, if_pos rfl] at w
      rw [if_pos rfl, show (1 : Int64).toInt32 = 1 from rfl, zI_suc]
      exact w
theorem X6_wk_l (N : Nat) {a : Nat → Int64} {F q : Nat} {m : Int} (hV : VA a F q m) (x1 : Int32) {s : Nat} (hs : s < 64) : ∀ (j k n : Nat) (u : Ob), u.2.2.2 0 = a → k + j = F → j < n → ∃ x4, l_X6_weakest_20 N n x1 (zI s) (zI (wkN a s k)) (zI k) u = some (x1, zI s, zI (wkN a s F), x4, u) := by
  have F8 := hV.2.1
  have hh : f_X6_has N 576460752302899201 (zI s) = some (lb 576460752302899201 s) := X6_has_v N _ (k := s) (by omega) (by omega)
  intro j
  induction j with
  | zero =>
    intro k n u hu hk hn
    obtain ⟨n, rfl⟩ : ∃ k, n = k + 1 := ⟨n - 1, by omega⟩
    have : k = F := by omega
    subst this
    refine ⟨zI k, ?_⟩
    rw [l_X6_weakest_20, ifP (VA_le hV hu k (by omega)) (Nat.le_refl _)]
  | succ j ih =>
    intro k n u hu hk hn
    obtain ⟨n, rfl⟩ : ∃ k, n = k + 1 := ⟨n - 1, by omega⟩
    cases em : lb 576460752302899201 s
    · refine ⟨zI k, ?_⟩
      rw [l_X6_weakest_20, ifN (VA_le hV hu k (by omega)) (by omega), hh, Option.bind_some, em, ifb0, wkN_0 a em, wkN_0 a em]
    · obtain ⟨i1, i2, i3, i4, i5⟩ := frm_ix N (k := k) (by omega)
      obtain ⟨x4, w⟩ := ih (k + 1) n u hu (by omega) (by omega)
      refine ⟨x4, ?_⟩
      have h2 : f_X6_has N (a (17 + 2 * k)) (zI s) = some (lb (a (17 + 2 * k)) s) := X6_has_v N _ (k := s) (by omega) (by omega)
      have eg : lb (gM (a (17 + 2 * k))) s = lb (a (17 + 2 * k)) s := by
        unfold gM
        rw [lb_and, em, Bool.and_true]
      rw [l_X6_weakest_20, ifN (VA_le hV hu k (by omega)) (by omega), hh, Option.bind_some, em, ifb1, ifF i3, i5, hu, h2, Option.bind_some, zI_suc k, zI_suc (wkN a s k), zI_ad0]
      rw [wkN, eg] at w
      cases e : lb (a (17 + 2 * k)) s
      · rw [e, if_neg (by decide), Nat.add_zero] at w
        rw [ifb0]
        exact w
      · rw [e, if_pos rfl] at w
        rw [ifb1]
        exact w
theorem wk_l {N : Nat} (hN : 700 ≤ N) {u : Ob} {a : Nat → Int64} {F q : Nat} {m : Int} (hF : FrC u a F) (hV : VA a F q m) : ∀ (j s n t : Nat) (b : Nat) (mo : Ob), mo.2.2.2 0 = a → s + j = 59 → j < n → j < t → b ≤ 8 → ∃ r : Nat, l_X4_mostDoubtsOfABit_4 N u n (zI b) (zI s) = some (zI r) ∧ l_X6_weakest_9 N t (zI b) (zI s) mo = some (zI r, mo) := by
  have F8 := hV.2.1
  intro j
  induction j with
  | zero =>
    intro s n t b mo hm hs hn ht hb
    obtain ⟨n, rfl⟩ : ∃ k, n = k + 1 := ⟨n - 1, by omega⟩
    obtain ⟨t, rfl⟩ : ∃ k, t = k + 1 := ⟨t - 1, by omega⟩
    refine ⟨b, ?_, ?_⟩
    · rw [l_X4_mostDoubtsOfABit_4, if_pos (show (58 : Int32) < zI (s : Int) by rw [zI_lit, zI_lt (by omega) (by omega) (by omega) (by omega)]; omega)]
    · rw [l_X6_weakest_9, if_pos (show (59 : Int32) ≤ zI (s : Int) by rw [zI_lit, zI_le (by omega) (by omega) (by omega) (by omega)]; omega)]
  | succ j ih =>
    intro s n t b mo hm hs hn ht hb
    obtain ⟨n, rfl⟩ : ∃ k, n = k + 1 := ⟨n - 1, by omega⟩
    obtain ⟨t, rfl⟩ : ∃ k, t = k + 1 := ⟨t - 1, by omega⟩
    have wl := wkN_le a s F
    have c5 := X4_wk_l N hF (zI b) (s := s) (by omega) F 0 N (by omega) (by omega)
    have c5 : l_X4_mostDoubtsOfABit_15 N u N (zI b) (zI s) 0 0 = some (zI b, zI s, zI (wkN a s F), zI F) := c5
    obtain ⟨x4, c6⟩ := X6_wk_l N hV (zI b) (s := s) (by omega) F 0 N mo hm (by omega) (by omega)
    have c6 : l_X6_weakest_20 N N (zI b) (zI s) 0 0 mo = some (zI b, zI s, zI (wkN a s F), x4, mo) := c6
    have d5 : (zI (b : Int) < zI (wkN a s F : Int)) = (b < wkN a s F) := by
      rw [zI_lt (by omega) (by omega) (by omega) (by omega)]
      exact propext (by omega)
    have d6 : (zI (wkN a s F : Int) ≤ zI (b : Int)) = (wkN a s F ≤ b) := by
      rw [zI_le (by omega) (by omega) (by omega) (by omega)]
      exact propext (by omega)
    obtain ⟨r, r1, r2⟩ := ih (s + 1) n t (if b < wkN a s F then wkN a s F else b) mo hm (by omega) (by omega) (by omega) (by split <;> omega)
    refine ⟨r, ?_, ?_⟩
    · rw [l_X4_mostDoubtsOfABit_4, if_neg (show ¬ (58 : Int32) < zI (s : Int) by rw [zI_lit, zI_lt (by omega) (by omega) (by omega) (by omega)]; omega), c5, Option.bind_some]
      show l_X4_mostDoubtsOfABit_4 N u n (if zI (b : Int) < zI (wkN a s F : Int) then zI (wkN a s F : Int) else zI (b : Int)) (zI s + 1) = _
      rw [zI_suc]
      by_cases g : b < wkN a s F
      · rw [if_pos g] at r1
        rw [ifP d5 g]
        exact r1
      · rw [if_neg g] at r1
        rw [ifN d5 g]
        exact r1
    · rw [l_X6_weakest_9, if_neg (show ¬ (59 : Int32) ≤ zI (s : Int) by rw [zI_lit, zI_le (by omega) (by omega) (by omega) (by omega)]; omega), c6, Option.bind_some]
      show (if zI (wkN a s F : Int) ≤ zI (b : Int) then l_X6_weakest_9 N t (zI b) (zI s + 1) mo else l_X6_weakest_9 N t (zI (wkN a s F)) (zI s + 1) mo) = _
      rw [zI_suc]
      by_cases g : b < wkN a s F
      · rw [if_pos g] at r2
        rw [ifN d6 (by omega)]
        exact r2
      · rw [if_neg g] at r2
        rw [ifP d6 (by omega)]
        exact r2
theorem st_weakest {N : Nat} (hN : 700 ≤ N) : S_weakest Rel N := by
  intro u0 u1 u2 u3 mo h
  obtain ⟨F, q, m, hV, hF, hm, hq⟩ := RR_va h.1
  obtain ⟨r, r1, r2⟩ := wk_l hN hF hV 59 0 N N 0 (oi mo 7 0) rfl (by omega) (by omega) (by omega) (by omega)
  refine ⟨zI r, zI r, oi mo 7 0, ?_, r2, rfl, Rel_7 h 0⟩
  rw [f_X5_weakest]
  have r1 : f_X4_mostDoubtsOfABit N (u2 0) = some (zI r) := r1
  rw [r1]
  rfl
