/-! the class's minute -/
theorem ol_ol (u : Ob) (k : Nat) (f g : Int64) : ol (ol u k f) k g = ol u k g := by
  unfold ol
  rw [va_up_up]
theorem ol_id (u : Ob) (k : Nat) : ol u k (u.2.1 k) = u := by
  unfold ol
  rw [va_up_id]
theorem ol_id2 (u : Ob) (k j : Nat) (y : Int64) : ol (ol u k (u.2.1 k)) j y = ol u j y := by rw [ol_id]
theorem X4_doubt_l (N : Nat) (x1 : Int32) {q : Nat} (hq : q < 200) : ∀ (j s n : Nat) (u : Ob), 59 ≤ s + j → s < 200 → j < n → ∃ d, l_X4_doubtSeconds_2 N x1 (zI ((q : Int) - 1)) n (zI s) u = some (ol u 7 d) ∧ ∀ i, i < 64 → lb d i = (lb (u.2.1 7) i || dB s q i) := by
  intro j
  induction j with
  | zero =>
    intro s n u hs hs2 hn
    obtain ⟨n, rfl⟩ : ∃ k, n = k + 1 := ⟨n - 1, by omega⟩
    refine ⟨u.2.1 7, ?_, fun i hi => ?_⟩
    · rw [ol_id, l_X4_doubtSeconds_2]
      by_cases g : zI ((q : Int) - 1) < zI (s : Int)
      · rw [if_pos g]
      · rw [if_neg g, if_pos (show (58 : Int32) < zI (s : Int) by rw [zI_lit, zI_lt (by omega) (by omega) (by omega) (by omega)]; omega)]
    · rw [show dB s q i = false from decide_eq_false (by omega), Bool.or_false]
  | succ j ih =>
    intro s n u hs hs2 hn
    obtain ⟨n, rfl⟩ : ∃ k, n = k + 1 := ⟨n - 1, by omega⟩
    by_cases g : s < q ∧ s < 59
    · obtain ⟨d, d1, d2⟩ := ih (s + 1) n (ol u 7 (u.2.1 7 ||| jshl 1 (zI s))) (by omega) (by omega) (by omega)
      rw [ol_ol] at d1
      refine ⟨d, ?_, fun i hi => ?_⟩
      · rw [l_X4_doubtSeconds_2, if_neg (show ¬ (zI ((q : Int) - 1) < zI (s : Int)) by rw [zI_lt (by omega) (by omega) (by omega) (by omega)]; omega), if_neg (show ¬ ((58 : Int32) < zI (s : Int)) by rw [zI_lit, zI_lt (by omega) (by omega) (by omega) (by omega)]; omega), zI_suc]
        exact d1
      · rw [d2 i hi, ol_s, lb_or, lb_one (by omega)]
        have e : dB s q i = (decide (s = i) || dB (s + 1) q i) := by
          unfold dB
          rw [← Bool.decide_or]
          exact decide_eq_decide.mpr (by omega)
        rw [e, Bool.or_assoc]
    · refine ⟨u.2.1 7, ?_, fun i hi => ?_⟩
      · rw [ol_id, l_X4_doubtSeconds_2]
        by_cases g2 : zI ((q : Int) - 1) < zI (s : Int)
        · rw [if_pos g2]
        · rw [zI_lt (by omega) (by omega) (by omega) (by omega)] at g2
          rw [if_neg (by rw [zI_lt (by omega) (by omega) (by omega) (by omega)]; exact g2), if_pos (show (58 : Int32) < zI (s : Int) by rw [zI_lit, zI_lt (by omega) (by omega) (by omega) (by omega)]; omega)]
      · rw [show dB s q i = false from decide_eq_false (by omega), Bool.or_false]
theorem X4_doubtSeconds_v {N : Nat} (hN : 700 ≤ N) {s q : Nat} (hs : s < 200) (hq : q < 200) (u : Ob) : ∃ d, f_X4_doubtSeconds N (zI s) (zI ((q : Int) - 1)) u = some (ol u 7 d) ∧ ∀ i, i < 64 → lb d i = (lb (u.2.1 7) i || dB s q i) :=
  X4_doubt_l N (zI s) hq 60 s N u (by omega) (by omega) (by omega)
def bitL (L : Int) : Nat := if 60 ≤ L ∧ L ≤ 140 then 0 else if 160 ≤ L ∧ L ≤ 240 then 1 else 2
theorem bitL_le (L : Int) : bitL L ≤ 2 := by unfold bitL; grind
theorem X4_putBit_v (N : Nat) {s : Nat} {L : Int} (hs : s < 200) (h1 : -2147483648 ≤ L) (h2 : L < 2147483648) (u : Ob) : ∃ o d, f_X4_putBit N (zI s) (zI L) u = some (ol (ol u 6 o) 7 d) ∧ ∀ i, i < 64 → lb o i = (lb (u.2.1 6) i || decide (i = s ∧ s < 59 ∧ bitL L = 1)) ∧ lb d i = (lb (u.2.1 7) i || decide (i = s ∧ s < 59 ∧ bitL L = 2)) := by
  have c0 : (zI (s : Int) ≤ 58) = (s < 59) := by
    rw [zI_lit, zI_le (by omega) (by omega) (by omega) (by omega)]
    exact propext (by omega)
  have c1 : (zI L < 160) = (L < 160) := by rw [zI_lit, zI_lt (by omega) (by omega) (by omega) (by omega)]
  have c2 : (zI L < 60) = (L < 60) := by rw [zI_lit, zI_lt (by omega) (by omega) (by omega) (by omega)]
  have c3 : (zI L ≤ 140) = (L ≤ 140) := by rw [zI_lit, zI_le (by omega) (by omega) (by omega) (by omega)]
  have c4 : ((240 : Int32) < zI L) = (240 < L) := by rw [zI_lit, zI_lt (by omega) (by omega) (by omega) (by omega)]
  have A0 : bitL L = 0 → f_X4_putBit N (zI s) (zI L) u = some u → ∃ o d, f_X4_putBit N (zI s) (zI L) u = some (ol (ol u 6 o) 7 d) ∧ ∀ i, i < 64 → lb o i = (lb (u.2.1 6) i || decide (i = s ∧ s < 59 ∧ bitL L = 1)) ∧ lb d i = (lb (u.2.1 7) i || decide (i = s ∧ s < 59 ∧ bitL L = 2)) := by
    intro hb h
    refine ⟨u.2.1 6, u.2.1 7, by rw [h, ol_id2, ol_id], fun i hi => ?_⟩
    rw [hb]
    simp
  have A1 : bitL L = 1 → s < 59 → f_X4_putBit N (zI s) (zI L) u = some (ol u 6 (u.2.1 6 ||| jshl 1 (zI s))) → ∃ o d, f_X4_putBit N (zI s) (zI L) u = some (ol (ol u 6 o) 7 d) ∧ ∀ i, i < 64 → lb o i = (lb (u.2.1 6) i || decide (i = s ∧ s < 59 ∧ bitL L = 1)) ∧ lb d i = (lb (u.2.1 7) i || decide (i = s ∧ s < 59 ∧ bitL L = 2)) := by
    intro hb hs h
    refine ⟨u.2.1 6 ||| jshl 1 (zI s), u.2.1 7, ?_, fun i hi => ?_⟩
    · rw [h]
      congr 1
      have e := ol_id (ol u 6 (u.2.1 6 ||| jshl 1 (zI s))) 7
      rw [ol_n _ _ (by decide)] at e
      exact e.symm
    · rw [lb_or, lb_one (by omega), hb]
      simp [hs, eq_comm]
  have A2 : bitL L = 2 → s < 59 → f_X4_putBit N (zI s) (zI L) u = some (ol u 7 (u.2.1 7 ||| jshl 1 (zI s))) → ∃ o d, f_X4_putBit N (zI s) (zI L) u = some (ol (ol u 6 o) 7 d) ∧ ∀ i, i < 64 → lb o i = (lb (u.2.1 6) i || decide (i = s ∧ s < 59 ∧ bitL L = 1)) ∧ lb d i = (lb (u.2.1 7) i || decide (i = s ∧ s < 59 ∧ bitL L = 2)) := by
    intro hb hs h
    refine ⟨u.2.1 6, u.2.1 7 ||| jshl 1 (zI s), ?_, fun i hi => ?_⟩
    · rw [h, ol_id2]
    · rw [lb_or, lb_one (by omega), hb]
      simp [hs, eq_comm]
  have hf := f_X4_putBit.eq_1 N (zI s) (zI L) u
  by_cases g0 : s < 59
  · rw [ifP c0 g0] at hf
    by_cases g1 : L < 160
    · rw [ifP c1 g1] at hf
      by_cases g2 : L < 60
      · rw [ifP c2 g2] at hf
        exact A2 (by unfold bitL; rw [if_neg (by omega), if_neg (by omega)]) g0 hf
      · rw [ifN c2 g2] at hf
        by_cases g3 : L ≤ 140
        · rw [ifP c3 g3] at hf
          exact A0 (by unfold bitL; rw [if_pos (by omega)]) hf
        · rw [ifN c3 g3] at hf
          exact A2 (by unfold bitL; rw [if_neg (by omega), if_neg (by omega)]) g0 hf
    · rw [ifN c1 g1] at hf
      by_cases g4 : 240 < L
      · rw [ifP c4 g4, ifN c2 (by omega), ifN c3 (by omega)] at hf
        exact A2 (by unfold bitL; rw [if_neg (by omega), if_neg (by omega)]) g0 hf
      · rw [ifN c4 g4] at hf
        exact A1 (by unfold bitL; rw [if_neg (by omega), if_pos (by omega)]) g0 hf
  · rw [ifN c0 g0] at hf
    refine ⟨u.2.1 6, u.2.1 7, by rw [hf, ol_id2, ol_id], fun i hi => ?_⟩
    simp [g0]
theorem X4_beginMinute_v {N : Nat} (hN : 700 ≤ N) {s : Nat} {L : Int} (hs : s < 100) (h1 : -2147483648 ≤ L) (h2 : L < 2147483648) (u : Ob) : ∃ v, f_X4_beginMinute N (zI s) (zI L) u = some v ∧ v.1 4 = zI s ∧ v.1 5 = 60 ∧ (∀ k, k ≠ 4 → k ≠ 5 → v.1 k = u.1 k) ∧ v.2.2 = u.2.2 ∧
    ∀ i, i < 64 → lb (v.2.1 6) i = decide (i = s ∧ s < 59 ∧ bitL L = 1) ∧ lb (v.2.1 7) i = (dB 0 s i || decide (i = s ∧ s < 59 ∧ bitL L = 2)) := by
  obtain ⟨d, d1, d2⟩ := X4_doubtSeconds_v hN (s := 0) (q := s) (by omega) (by omega) (oi (ol (ol u 6 0) 7 0) 5 60)
  obtain ⟨o, e, e1, e2⟩ := X4_putBit_v N (s := s) (L := L) (by omega) h1 h2 (oi (ol (oi (ol (ol u 6 0) 7 0) 5 60) 7 d) 4 (zI s))
  have hz : zI (s : Int) - 1 = zI ((s : Int) - 1) := by rw [zI_lit, zI_sub]
  refine ⟨ol (ol (oi (ol (oi (ol (ol u 6 0) 7 0) 5 60) 7 d) 4 (zI s)) 6 o) 7 e, ?_, ?_, ?_, ?_, ?_, fun i hi => ?_⟩
  · rw [f_X4_beginMinute, hz]
    have d1' : f_X4_doubtSeconds N 0 (zI ((s : Int) - 1)) (oi (ol (ol u 6 0) 7 0) 5 60) = _ := d1
    rw [d1', Option.bind_some, e1]
    rfl
  · show va_up (va_up u.1 5 60) 4 (zI s) 4 = _
    rw [va_up_self]
  · show va_up (va_up u.1 5 60) 4 (zI s) 5 = _
    rw [va_up_ne _ _ (by decide), va_up_self]
  · intro k k4 k5
    show va_up (va_up u.1 5 60) 4 (zI s) k = _
    rw [va_up_ne _ _ k4, va_up_ne _ _ k5]
  · rfl
  · have q1 := (e2 i hi).1
    have q2 := (e2 i hi).2
    have q3 := d2 i hi
    have z6 : (oi (ol (oi (ol (ol u 6 0) 7 0) 5 60) 7 d) 4 (zI s)).2.1 6 = 0 := (ol_n _ d (by decide)).trans ((ol_n (ol u 6 0) 0 (by decide)).trans (ol_s u 6 0))
    have z7 : (oi (ol (oi (ol (ol u 6 0) 7 0) 5 60) 7 d) 4 (zI s)).2.1 7 = d := ol_s _ 7 d
    have z8 : (oi (ol (ol u 6 0) 7 0) 5 60).2.1 7 = 0 := ol_s _ 7 0
    rw [z6, lb_0, Bool.false_or] at q1
    rw [z7] at q2
    rw [z8, lb_0, Bool.false_or] at q3
    rw [q3] at q2
    refine ⟨?_, ?_⟩
    · rw [← q1]
      exact congrArg (fun z => lb z i) ((ol_n _ e (by decide)).trans (ol_s _ 6 o))
    · rw [← q2]
      exact congrArg (fun z => lb z i) (ol_s _ 7 e)
theorem up4_8 {α : Type} (f : Nat → α) (A B C D : α) : va_up (va_up (va_up (va_up f 8 A) 9 B) 8 C) 9 D 8 = C := by
  rw [va_up_ne _ _ (by decide), va_up_self]
theorem up4_9 {α : Type} (f : Nat → α) (A B C D : α) : va_up (va_up (va_up (va_up f 8 A) 9 B) 8 C) 9 D 9 = D := va_up_self _ _ _
theorem cpv_s (f : Nat → Int64) (x : Int64) (k : Nat) (h : k < 7) : vp_updL (va_cpy f f 0 1 7) 0 x (k + 1) = f k := by
  rw [vp_n _ _ (by omega)]
  exact cpy_s f f k h
def krL (u : Ob) (e : Int64) : Nat → Nat → Int64 := va_up (va_up (va_up (va_up u.2.2.2 8 (va_cpy (u.2.2.2 8) (u.2.2.2 8) 0 1 7)) 9 (va_cpy (u.2.2.2 9) (u.2.2.2 9) 0 1 7)) 8 (vp_updL (va_cpy (u.2.2.2 8) (u.2.2.2 8) 0 1 7) 0 (u.2.1 6))) 9 (vp_updL (va_cpy (u.2.2.2 9) (u.2.2.2 9) 0 1 7) 0 e)
def krI (u : Ob) (x : Int32) : Nat → Nat → Int32 := va_up (va_up u.2.2.1 10 (va_cpy (u.2.2.1 10) (u.2.2.1 10) 0 1 7)) 10 (upd (va_cpy (u.2.2.1 10) (u.2.2.1 10) 0 1 7) 0 x)
theorem X4_keepFrame_v {N : Nat} (hN : 700 ≤ N) {p F W : Nat} (hp : p < 61) (u : Ob) (h4 : u.1 4 = zI p) (hF : u.1 11 = zI F) (hW : u.2.2.1 0 2 = zI W) (hFW : F ≤ W) (hW8 : W ≤ 8) : ∃ e v, f_X4_keepFrame N u = some v ∧ (∀ i, i < 64 → lb e i = (lb (u.2.1 7) i || dB (p + 1) 59 i)) ∧ v.1 11 = zI ((if F < W then F + 1 else W : Nat) : Int) ∧ (∀ k, k ≠ 11 → v.1 k = u.1 k) ∧
    v.2.2.2 8 0 = u.2.1 6 ∧ v.2.2.2 9 0 = e ∧ v.2.2.1 10 0 = zI (memS (u.2.1 6) e) ∧ (∀ k, k < 7 → v.2.2.2 8 (k + 1) = u.2.2.2 8 k ∧ v.2.2.2 9 (k + 1) = u.2.2.2 9 k ∧ v.2.2.1 10 (k + 1) = u.2.2.1 10 k) ∧ (∀ k, k ≠ 10 → v.2.2.1 k = u.2.2.1 k) := by
  obtain ⟨e, e1, e2⟩ := X4_doubtSeconds_v hN (s := p + 1) (q := 59) (by omega) (by omega) u
  have e1' : f_X4_doubtSeconds N (zI ((p + 1 : Nat) : Int)) 58 u = some (ol u 7 e) := e1
  have q6 : (ol u 7 e).2.1 6 = u.2.1 6 := ol_n u e (by decide)
  have q7 : (ol u 7 e).2.1 7 = e := ol_s u 7 e
  have hm : f_X2_minuteOf N (u.2.1 6) e = some (zI (memS (u.2.1 6) e)) := X2_minuteOf_v hN _ _
  have hc : (if zI (W : Int) < zI (F : Int) + 1 then zI (W : Int) else zI (F : Int) + 1) = zI ((if F < W then F + 1 else W : Nat) : Int) := by
    rw [zI_suc]
    by_cases g : F < W
    · rw [if_pos g, if_neg (by rw [zI_lt (by omega) (by omega) (by omega) (by omega)]; omega)]
    · rw [if_neg g, if_pos (by rw [zI_lt (by omega) (by omega) (by omega) (by omega)]; omega)]
  have hv : f_X4_keepFrame N u = some (va_up u.1 11 (zI ((if F < W then F + 1 else W : Nat) : Int)), (ol u 7 e).2.1, krI u (zI (memS (u.2.1 6) e)), krL u e) := by
    rw [f_X4_keepFrame, h4, zI_suc, e1', Option.bind_some, q6, q7, hm, Option.bind_some]
    show some (va_up u.1 11 (if u.2.2.1 0 2 < u.1 11 + 1 then u.2.2.1 0 2 else u.1 11 + 1), _) = _
    rw [hW, hF, hc]
    rfl
  refine ⟨e, _, hv, e2, va_up_self u.1 11 _, fun k hk => va_up_ne u.1 _ hk, ?_, ?_, ?_, fun k hk => ⟨?_, ?_, ?_⟩, fun k hk => ?_⟩
  · show krL u e 8 0 = _
    unfold krL
    rw [up4_8]
    rfl
  · show krL u e 9 0 = _
    unfold krL
    rw [up4_9]
    rfl
  · show krI u (zI (memS (u.2.1 6) e)) 10 0 = _
    unfold krI
    rw [va_up_self]
    rfl
  · show krL u e 8 (k + 1) = _
    unfold krL
    rw [up4_8]
    exact cpv_s _ _ k hk
  · show krL u e 9 (k + 1) = _
    unfold krL
    rw [up4_9]
    exact cpv_s _ _ k hk
  · show krI u (zI (memS (u.2.1 6) e)) 10 (k + 1) = _
    unfold krI
    rw [va_up_self]
    exact cpu_s _ _ k hk
  · show krI u (zI (memS (u.2.1 6) e)) k = _
    unfold krI
    rw [va_up_ne _ _ hk, va_up_ne _ _ hk]
