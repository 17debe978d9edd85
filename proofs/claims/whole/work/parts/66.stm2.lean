/-! a setting's statement, a hearing's, and any -/
theorem setting_p {N : Nat} (hN : 700 ≤ N) {T : Nat → Int} {L a p i : Nat} {u0 u w b m0 m : Ob} (hi : i < 5) (h : PW T L u m a) (hw : wB T L i a = true) (hpa : p ≤ a) (hl : LF m0 m) (h1 : u.1 1 = u0.1 1) (ht : u.2.2 = u0.2.2) (h7 : u.1 7 = zI i) (hR : RR w (m.2.2.2 0)) :
    SR N T L p u0 w b m0 ((f_X3_readSetting N u).bind fun q => tl5 N q w) ((f_X6_readsSetting N (zI i) m).bind fun q => tl6 N q) := by
  obtain ⟨m1, n1, n2, n3, n4, n5⟩ := pass_p hN (by omega) h hw
  have al : aLe i = zI (loS i) ∧ aGr i = zI (hiS i) ∧ f_X6_least N (zI i) = some (zI (loS i)) ∧ f_X6_most N (zI i) = some (zI (hiS i)) := by
    rcases (show i = 0 ∨ i = 1 ∨ i = 2 ∨ i = 3 ∨ i = 4 by omega) with rfl | rfl | rfl | rfl | rfl <;> exact ⟨rfl, rfl, rfl, rfl⟩
  have lh : -500 ≤ loS i ∧ loS i ≤ 500 ∧ -500 ≤ hiS i ∧ hiS i ≤ 500 := by
    unfold loS hiS
    grind
  -- from a number that was read to the end
  have rest : ∀ (v : Int) (u2 m2 : Ob), FC u u2 → LF m1 m2 → m2.2.2 = m1.2.2 → loS i ≤ v → v ≤ hiS i → (∃ q, a < q ∧ PT T L u2 m2 q) → SR N T L p u0 w b m0 (tl5 N (oi u2 8 (zI v)) w) (((f_X6_sets N (zI i) (zI v) m2).bind fun q => some q.2).bind fun q => tl6 N q) := by
    intro v u2 m2 hf hlf hm2 v1 v2 hq
    obtain ⟨q, q1, q2⟩ := hq
    obtain ⟨f1, f2, f7, f8, f9, f10, f22⟩ := FC_1 hf
    have R2 : RR w (m2.2.2.2 0) := by rw [hm2, n5]; exact hR
    obtain ⟨o, w', a', p1, p2, p3, p4⟩ := change_v N R2 hi v1 v2
    rw [p2, Option.bind_some, Option.bind_some]
    have P : PT T L (oi u2 8 (zI v)) (oj m2 0 a') q := PT_m (PT_c q2 (oi_n _ _ (by decide)) (oi_n _ _ (by decide)) (oi_n _ _ (by decide)) (oi_n _ _ (by decide)) rfl) (Sd_oj m2 a')
    refine fin_p hN (b := b) (b' := b) (w' := w') P (by omega) (LF_tr hl (LF_tr n4 (LF_tr hlf (LF_Sd (Sd_oj m2 a'))))) ?_ ?_ (Or.inr (Or.inr ⟨?_, ?_, ?_, rfl⟩)) (by rw [oj_s]; exact p3)
    · rw [oi_n _ _ (by decide), f1]
      exact h1
    · show u2.2.2 = _
      rw [f22]
      exact ht
    · rw [oi_n _ _ (by decide), f7, h7, zI_lit, zI_eq (by omega) (by omega) (by omega) (by omega)]
      omega
    · rw [oi_n _ _ (by decide), f7, h7, zI_lit, zI_eq (by omega) (by omega) (by omega) (by omega)]
      omega
    · rw [oi_n _ _ (by decide), oi_s, f7, h7]
      exact p1
  have errs : ∀ (x : Int32) (u2 m2 : Ob), FC u u2 → LF m1 m2 → PE T L u2 m2 → SR N T L p u0 w b m0 (tl5 N (oi u2 8 x) w) (tl6 N m2) := by
    intro x u2 m2 hf hlf hpe
    obtain ⟨f1, f2, f7, f8, f9, f10, f22⟩ := FC_1 hf
    refine err_p N (PE_c hpe (oi_n _ _ (by decide)) (oi_n _ _ (by decide))) (LF_tr hl (LF_tr n4 hlf)) ?_ ?_
    · rw [oi_n _ _ (by decide), f1]
      exact h1
    · show u2.2.2 = _
      rw [f22]
      exact ht
  have e5 := f_X3_readSetting.eq_1 N u
  have e6 := f_X6_readsSetting.eq_1 N (zI i) m
  rw [h7] at e5
  rw [n1, Option.bind_some] at e6
  by_cases g4 : i = 4
  · subst g4
    rw [if_pos (show zI ((4 : Nat) : Int) = 4 from rfl)] at e5
    rw [if_pos (show zI ((4 : Nat) : Int) = 4 from rfl), if_pos n2.2.2.2.2.2.2] at e6
    obtain ⟨a1, a2, a3, a4, a5, a6, a7⟩ := id n2
    have r := sk_rng spc T a4
    have t2 := a1.2.1
    have c := sign_c hN (c := 45) (Or.inl rfl) a1 a3 a4
    have c : f_X3_readSign N 45 u = some (sgB T L (sk spc T L (sk ltr T L a)) 45, oi u 3 (zI ((if sgB T L (sk spc T L (sk ltr T L a)) 45 = true then sk spc T L (sk ltr T L a) + 1 else sk spc T L (sk ltr T L a) : Nat) : Int))) := c
    have kr := tkK_rng T L (sk spc T L (sk ltr T L a))
    have e14 : (m1.1 14 = 2) = (tkK T L (sk spc T L (sk ltr T L a)) = 2) := by
      rw [a5.2.2.1, zI_lit, zI_eq (by omega) (by omega) (by omega) (by omega)]
    have see := X6_see_v N a2 (k := sk spc T L (sk ltr T L a)) (by omega)
    have sv := sv_rng a2 (sk spc T L (sk ltr T L a))
    rw [c, Option.bind_some] at e5
    have mo4 : f_X6_most N (zI ((4 : Nat) : Int)) = some 500 := rfl
    rw [mo4] at e6
    cases g : sgB T L (sk spc T L (sk ltr T L a)) 45
    · -- no minus sign
      rw [g, ifb0, ifb0] at e5
      have P : PT T L (oi u 3 (zI (sk spc T L (sk ltr T L a)))) m1 (sk spc T L (sk ltr T L a)) := ⟨CT_up a1 (oi_n _ _ (by decide)) (oi_n _ _ (by decide)) rfl, a2, oi_s u 3 _, r.2, by rw [sk_sk a4]; exact a5, (oi_n _ _ (by decide)).trans a6, a7⟩
      obtain ⟨v, u2, m2, c1, c2, c3, c4, c5, c6⟩ := num_p hN (lo := 0) (hi := 500) (by omega) (by omega) (by omega) (by omega) P
      have c1 : f_X3_readNumber N 0 (aGr ((4 : Int32).toNatClampNeg)) (oi u 3 (zI (sk spc T L (sk ltr T L a)))) = some (zI v, u2) := c1
      have c2 : f_X6_takes N 0 ((500 : Int32).toInt64) m1 = some (zI v, m2) := c2
      have hf : FC u u2 := FC_tr ⟨fun k k3 _ _ => oi_n u _ k3, rfl⟩ c3
      have hlast : f_X6_readsSetting N (zI ((4 : Nat) : Int)) m = (if m2.1 15 = 0 then ((f_X6_sets N (zI ((4 : Nat) : Int)) (zI v) m2).bind fun q => some q.2) else some m2) := by
        rw [e6]
        by_cases g2 : tkK T L (sk spc T L (sk ltr T L a)) = 2
        · have g' := of_decide_eq_false g
          have hne : ¬ ((if sk spc T L (sk ltr T L a) < L then T (sk spc T L (sk ltr T L a)) else -1) = 45) := by
            intro z
            by_cases gg : sk spc T L (sk ltr T L a) < L
            · rw [if_pos gg] at z
              exact g' ⟨gg, z⟩
            · rw [if_neg gg] at z
              omega
          rw [ifP e14 g2, a5.1, see, Option.bind_some, if_neg (show ¬ zI (if sk spc T L (sk ltr T L a) < L then T (sk spc T L (sk ltr T L a)) else -1) = 45 by rw [zI_lit, zI_eq (by omega) (by omega) (by omega) (by omega)]; exact hne), if_pos (show zI ((4 : Nat) : Int) = 4 from rfl), Option.bind_some, c2, Option.bind_some]
        · rw [ifN e14 g2, if_pos (show zI ((4 : Nat) : Int) = 4 from rfl), Option.bind_some, c2, Option.bind_some]
      rw [c1, Option.bind_some] at e5
      rw [e5, Option.bind_some, hlast]
      rcases c6 with ⟨v1, v2, q, q1, q2⟩ | ⟨v1, v2⟩
      · rw [if_pos q2.2.2.2.2.2.2]
        exact rest v u2 m2 hf c4 c5 (by show -500 ≤ v; omega) (by show v ≤ 500; omega) ⟨q, by omega, q2⟩
      · rw [if_neg (PE_n0 v2).2, Option.bind_some]
        exact errs (zI v) u2 m2 hf c4 v2
    · -- a minus sign
      rw [g, ifb1, ifb1] at e5
      obtain ⟨k1, k2, k3⟩ := sg_tk (Or.inl rfl) g
      have g' := of_decide_eq_true g
      obtain ⟨m2, x1, x2, x3, x4⟩ := next_p hN n2 (q := sk spc T L (sk ltr T L a) + 1) k2 (by omega) (v := oi u 3 (zI ((sk spc T L (sk ltr T L a) + 1 : Nat) : Int))) (CT_up a1 (oi_n _ _ (by decide)) (oi_n _ _ (by decide)) rfl) (oi_s u 3 _) ((oi_n _ _ (by decide)).trans a6)
      have mT : f_X6_must N true m1 = some m2 := by
        rw [must_T N a7, x1]
        rfl
      obtain ⟨v, u2, m3, c1, c2, c3, c4, c5, c6⟩ := num_p hN (lo := 0) (hi := 500) (by omega) (by omega) (by omega) (by omega) x2
      have c1 : f_X3_readNumber N 0 (-(aLe ((4 : Int32).toNatClampNeg))) (oi u 3 (zI ((sk spc T L (sk ltr T L a) + 1 : Nat) : Int))) = some (zI v, u2) := c1
      have c2 : f_X6_takes N 0 ((500 : Int32).toInt64) m2 = some (zI v, m3) := c2
      have hf : FC u u2 := FC_tr ⟨fun k k3 _ _ => oi_n u _ k3, rfl⟩ c3
      rw [ifP e14 k1, a5.1, see, Option.bind_some, if_pos k3, if_pos (show zI (T (sk spc T L (sk ltr T L a))) = 45 by rw [g'.2]; rfl), mT, Option.bind_some, if_pos (show zI ((4 : Nat) : Int) = 4 from rfl), Option.bind_some, c2, Option.bind_some, zI_neg] at e6
      rw [c1, Option.bind_some] at e5
      rw [e5, Option.bind_some, e6]
      show SR N T L p u0 w b m0 (tl5 N (oi u2 8 (-zI v)) w) _
      rw [zI_neg]
      rcases c6 with ⟨v1, v2, q, q1, q2⟩ | ⟨v1, v2⟩
      · rw [if_pos q2.2.2.2.2.2.2]
        exact rest (-v) u2 m3 hf (LF_tr x3 c4) (c5.trans x4) (by show -500 ≤ -v; omega) (by show -v ≤ 500; omega) ⟨q, by omega, q2⟩
      · rw [if_neg (PE_n0 v2).2, Option.bind_some]
        exact errs (zI (-v)) u2 m3 hf (LF_tr x3 c4) v2
  · have e4 : ¬ (zI (i : Int) = 4) := by
      rw [zI_lit, zI_eq (by omega) (by omega) (by omega) (by omega)]
      omega
    have d1 : (zI (i : Int) < 0 ∨ 5 ≤ (zI (i : Int)).toNatClampNeg) = False := by
      rw [zI_tnN (by omega)]
      simp (maxSteps := 400000) (disch := omega) only [zI_lit, zI_neg, zI_add, zI_sub, zI_mul, zI_div, zI_tn, zI_toL, zL_lit, zL_neg, zL_add, zL_sub, zL_mul, zL_div, zL_toI, zI_ltT, zI_ltF, zI_leT, zI_leF, zI_eqT, zI_eqF, zL_ltT, zL_ltF, zL_leT, zL_leF, zL_eqT, zL_eqF, nleT, nleF, or_self, or_false, false_or, true_or, or_true, not_true_eq_false, not_false_eq_true, ↓reduceIte, Option.bind_some, Bool.false_eq_true, decide_true, decide_false]
    obtain ⟨v, u2, m2, c1, c2, c3, c4, c5, c6⟩ := num_p hN (lo := loS i) (hi := hiS i) (by omega) (by omega) (by omega) (by omega) n2
    rw [if_neg e4, ifF d1, ifF d1, zI_tnN (by omega), al.1, al.2.1, c1, Option.bind_some] at e5
    rw [if_neg e4, if_neg e4, al.2.2.1, al.2.2.2, Option.bind_some, Option.bind_some, zI_toL (a := loS i) (by omega) (by omega), zI_toL (a := hiS i) (by omega) (by omega), c2, Option.bind_some] at e6
    rw [e5, e6, Option.bind_some]
    rcases c6 with ⟨v1, v2, q, q1, q2⟩ | ⟨v1, v2⟩
    · show SR N T L p u0 w b m0 _ ((if m2.1 15 = 0 then ((f_X6_sets N (zI i) (zI v) m2).bind fun q14 => some q14.2) else some m2).bind _)
      rw [if_pos q2.2.2.2.2.2.2]
      exact rest v u2 m2 c3 c4 c5 v1 v2 ⟨q, by omega, q2⟩
    · show SR N T L p u0 w b m0 _ ((if m2.1 15 = 0 then _ else some m2).bind _)
      rw [if_neg (PE_n0 v2).2, Option.bind_some]
      exact errs (zI v) u2 m2 c3 c4 v2
/-- the seconds lost -/
theorem lose_0 {N : Nat} (hN : 700 ≤ N) {T : Nat → Int} {L : Nat} (x1 : Bool) (y1 : Int32) (y2 : Bool) (a i n n' : Nat) (u m : Ob) (hLa : a = L) (hn : 0 < n) (hn' : 0 < n') (h : PW T L u m a) :
    ∃ u', l_X3_readHearing_68 N x1 n (zI i) u = some u' ∧ (∀ k, (k = 1 ∨ k = 2 ∨ k = 7 ∨ k = 8 ∨ k = 10) → u'.1 k = u.1 k) ∧ u'.2.2 = u.2.2 ∧
    ((∃ m', l_X6_readsHear_45 N n' y1 y2 (u.2.1 11) m = some m' ∧ LF m m' ∧ PE T L u' m') ∨
     (∃ m' a', l_X6_readsHear_45 N n' y1 y2 (u.2.1 11) m = ((f_X6_hears N y1 y2 (u'.2.1 11) m').bind fun q15 => some q15.2) ∧ LF m m' ∧ m'.2.2 = m.2.2 ∧ a ≤ a' ∧ (PT T L u' m' a' ∨ (u'.1 5 = zI (-2) ∧ u'.1 6 = zI a' ∧ a' ≤ L ∧ MT T L m' ∧ TOK T L m' a' ∧ tkK T L a' = 0 ∧ m'.1 15 = 0)))) := by
    obtain ⟨n, rfl⟩ : ∃ k, n = k + 1 := ⟨n - 1, by omega⟩
    obtain ⟨n', rfl⟩ : ∃ k, n' = k + 1 := ⟨n' - 1, by omega⟩
    have w5 := wis_c hN (i := 8) (by omega) h
    have w6 := wis_m hN (i := 8) (by omega) h
    obtain ⟨a1, a2, a3, a4, a5, a6, a7, a8, a9⟩ := id h
    have t2 := a1.2.1
    have wf : wB T L 8 a = false := by
      cases g : wB T L 8 a
      · rfl
      · have := (tk_word (by omega) a3 g).2.2.2
        omega
    have e3 : sk ltr T L a = a := sk_stop (Or.inl (by omega))
    rw [wf] at w5 w6
    have e5 : l_X3_readHearing_68 N x1 (n + 1) (zI i) u = some u := by
      rw [l_X3_readHearing_68, a5, a6, e3, if_pos (Int32.le_refl _), w5, Option.bind_some, ifb0]
      show (if u.1 2 ≤ zI (i : Int) then some u else (if u.1 3 ≤ u.1 4 then some u else _)) = _
      rw [a5, a6, e3, if_pos (Int32.le_refl _)]
      split <;> rfl
    refine ⟨u, e5, fun _ _ => rfl, rfl, Or.inr ⟨m, a, ?_, LF_rfl m, rfl, by omega, Or.inl ⟨a1, a2, by rw [a6, e3], a3, by rw [a4]; exact a7, a8, a9⟩⟩⟩
    rw [l_X6_readsHear_45, w6, Option.bind_some, ifb0, if_pos a9]
theorem lose_l {N : Nat} (hN : 700 ≤ N) {T : Nat → Int} {L : Nat} (x1 : Bool) (y1 : Int32) (y2 : Bool) : ∀ (j a i n n' : Nat) (u m : Ob), L ≤ j + a → j < n → j < n' → i ≤ a → PW T L u m a →
    ∃ u', l_X3_readHearing_68 N x1 n (zI i) u = some u' ∧ (∀ k, (k = 1 ∨ k = 2 ∨ k = 7 ∨ k = 8 ∨ k = 10) → u'.1 k = u.1 k) ∧ u'.2.2 = u.2.2 ∧
    ((∃ m', l_X6_readsHear_45 N n' y1 y2 (u.2.1 11) m = some m' ∧ LF m m' ∧ PE T L u' m') ∨
     (∃ m' a', l_X6_readsHear_45 N n' y1 y2 (u.2.1 11) m = ((f_X6_hears N y1 y2 (u'.2.1 11) m').bind fun q15 => some q15.2) ∧ LF m m' ∧ m'.2.2 = m.2.2 ∧ a ≤ a' ∧ (PT T L u' m' a' ∨ (u'.1 5 = zI (-2) ∧ u'.1 6 = zI a' ∧ a' ≤ L ∧ MT T L m' ∧ TOK T L m' a' ∧ tkK T L a' = 0 ∧ m'.1 15 = 0)))) := by
  intro j
  induction j with
  | zero =>
    intro a i n n' u m hj hn hn' hia h
    exact lose_0 hN x1 y1 y2 a i n n' u m (by have := h.2.2.1; omega) (by omega) (by omega) h
  | succ j ih =>
    intro a i n n' u m hj hn hn' hia h
    by_cases hLa : a = L
    · exact lose_0 hN x1 y1 y2 a i n n' u m hLa (by omega) (by omega) h
    have hLa2 : a < L := by have := h.2.2.1; omega
    obtain ⟨n, rfl⟩ : ∃ k, n = k + 1 := ⟨n - 1, by omega⟩
    obtain ⟨n', rfl⟩ : ∃ k, n' = k + 1 := ⟨n' - 1, by omega⟩
    have w5 := wis_c hN (i := 8) (by omega) h
    have w6 := wis_m hN (i := 8) (by omega) h
    obtain ⟨a1, a2, a3, a4, a5, a6, a7, a8, a9⟩ := id h
    have t2 := a1.2.1
    have iL : ¬ (u.1 2 ≤ zI (i : Int)) := by
      rw [a1.1.1, zI_le (by omega) (by omega) (by omega) (by omega)]
      omega
    cases g : wB T L 8 a
    · rw [g] at w5 w6
      have r := sk_rng ltr T a3
      have e6 : l_X6_readsHear_45 N (n' + 1) y1 y2 (u.2.1 11) m = ((f_X6_hears N y1 y2 (u.2.1 11) m).bind fun q15 => some q15.2) := by
        rw [l_X6_readsHear_45, w6, Option.bind_some, ifb0, if_pos a9]
      by_cases gk : sk ltr T L a = a
      · refine ⟨u, ?_, fun _ _ => rfl, rfl, Or.inr ⟨m, a, e6, LF_rfl m, rfl, by omega, Or.inl ⟨a1, a2, by rw [a6, gk], a3, by rw [a4]; exact a7, a8, a9⟩⟩⟩
        rw [l_X3_readHearing_68, if_neg iL, w5, Option.bind_some, ifb0]
        show (if u.1 3 ≤ u.1 4 then some u else _) = _
        rw [a5, a6, gk, if_pos (Int32.le_refl _)]
      · have aL2 : ¬ (L ≤ a) := fun z => gk (sk_stop (Or.inl z))
        have gl : ltr (T a) = true := by
          cases gl : ltr (T a)
          · exact absurd (sk_stop (Or.inr gl)) gk
          · rfl
        have kk : tkK T L a = 0 := by
          unfold tkK
          rw [if_neg aL2, gl, ifb1]
        refine ⟨oi (oi u 5 (-2)) 6 (u.1 4), ?_, fun k hk => ?_, rfl, Or.inr ⟨m, a, e6, LF_rfl m, rfl, by omega, Or.inr ⟨?_, ?_, a3, a2, a7, kk, a9⟩⟩⟩
        · rw [l_X3_readHearing_68, if_neg iL, w5, Option.bind_some, ifb0]
          show (if u.1 3 ≤ u.1 4 then some u else ((f_X3_fail N (-2) (u.1 4) u).bind fun q18 => some q18)) = _
          rw [if_neg (show ¬ (u.1 3 ≤ u.1 4) by rw [a5, a6, zI_le (by omega) (by omega) (by omega) (by omega)]; omega)]
          rfl
        · rw [oi_n _ _ (by omega), oi_n _ _ (by omega)]
        · rw [oi_n _ _ (by decide), oi_s]
          rfl
        · rw [oi_s, a5]
    · rw [g] at w5 w6
      obtain ⟨m1, n1, n2, n3, n4, n5⟩ := pass_p hN (by decide) h g
      obtain ⟨v, u2, m2, c1, c2, c3, c4, c5, c6⟩ := num_p hN (lo := 0) (hi := 58) (by omega) (by omega) (by omega) (by omega) n2
      have c1 : f_X3_readNumber N 0 58 u = some (zI v, u2) := c1
      have c2 : f_X6_takes N 0 58 m1 = some (zI v, m2) := c2
      obtain ⟨f1, f2, f7, f8, f9, f10, f22⟩ := FC_1 c3
      have e5 : l_X3_readHearing_68 N x1 (n + 1) (zI i) u = (if u2.1 5 = 0 then ((f_X3_readWord N (ol u2 11 ((u.2.1 11) ||| (jshl 1 (zI v))))).bind fun q23 => l_X3_readHearing_68 N x1 n (zI ((i + 1 : Nat) : Int)) q23) else some (ol u2 11 ((u.2.1 11) ||| (jshl 1 (zI v))))) := by
        rw [l_X3_readHearing_68, if_neg iL, w5, Option.bind_some, ifb1]
        show ((f_X3_readNumber N 0 58 u).bind _) = _
        rw [c1, Option.bind_some, zI_suc]
      have e6 : l_X6_readsHear_45 N (n' + 1) y1 y2 (u.2.1 11) m = l_X6_readsHear_45 N n' y1 y2 ((u.2.1 11) ||| (jshl 1 (zI v))) m2 := by
        rw [l_X6_readsHear_45, w6, Option.bind_some, ifb1]
        show ((f_X6_must N true m).bind _) = _
        rw [n1, Option.bind_some, c2, Option.bind_some]
      rcases c6 with ⟨v1, v2, q, q1, q2⟩ | ⟨v1, v2⟩
      · rw [if_pos q2.2.2.2.2.2.1] at e5
        have P2 : PT T L (ol u2 11 ((u.2.1 11) ||| (jshl 1 (zI v)))) m2 q := PT_c q2 rfl rfl rfl rfl rfl
        obtain ⟨u3, d1, d2, d3, d4⟩ := word_p hN P2
        have r := sk_rng spc T q2.2.2.2.1
        rw [d1, Option.bind_some] at e5
        obtain ⟨u4, k1, k2, k3, k4⟩ := ih (sk spc T L q) (i + 1) n n' u3 m2 (by omega) (by omega) (by omega) (by omega) d2
        have hX : u3.2.1 11 = ((u.2.1 11) ||| (jshl 1 (zI v))) := by
          rw [d4]
          exact ol_s u2 11 _
        rw [hX] at k4
        have fr : ∀ k, (k = 1 ∨ k = 2 ∨ k = 7 ∨ k = 8 ∨ k = 10) → u4.1 k = u.1 k := by
          intro k hk
          rw [k2 k hk, d3 k (by omega) (by omega)]
          show u2.1 k = _
          rcases hk with rfl | rfl | rfl | rfl | rfl
          · exact f1
          · exact f2
          · exact f7
          · exact f8
          · exact f10
        have ft : u4.2.2 = u.2.2 := by
          rw [k3, d4]
          show u2.2.2 = _
          rw [f22]
        refine ⟨u4, e5.trans k1, fr, ft, ?_⟩
        rcases k4 with ⟨m', q3, q4, q5⟩ | ⟨m', a', q3, q4, q5, q6, q7⟩
        · exact Or.inl ⟨m', e6.trans q3, LF_tr n4 (LF_tr c4 q4), q5⟩
        · exact Or.inr ⟨m', a', e6.trans q3, LF_tr n4 (LF_tr c4 q4), q5.trans (c5.trans n5), by omega, q7⟩
      · rw [if_neg (PE_n0 v2).1] at e5
        refine ⟨_, e5, fun k hk => ?_, ?_, Or.inl ⟨m2, ?_, LF_tr n4 c4, PE_c v2 rfl rfl⟩⟩
        · show u2.1 k = _
          rcases hk with rfl | rfl | rfl | rfl | rfl
          · exact f1
          · exact f2
          · exact f7
          · exact f8
          · exact f10
        · show u2.2.2 = _
          rw [f22]
        · obtain ⟨t, rfl⟩ : ∃ k, n' = k + 1 := ⟨n' - 1, by omega⟩
          rw [e6, l_X6_readsHear_45, X6_isWord_w N 8 (PE_n0 v2).2, Option.bind_some, ifb0, if_neg (PE_n0 v2).2]
/-- a hearing's statement -/
theorem hearing_p {N : Nat} (hN : 700 ≤ N) {T : Nat → Int} {L a p : Nat} {u0 u w b m0 m : Ob} (h : PW T L u m a) (hw : wB T L 6 a = true) (hpa : p ≤ a) (hl : LF m0 m) (h1 : u.1 1 = u0.1 1) (ht : u.2.2 = u0.2.2) (h7 : u.1 7 = 6) (hR : RR w (m.2.2.2 0)) :
    SR N T L p u0 w b m0 ((f_X4_canHear N w).bind fun q16 => ((f_X3_readHearing N q16 u).bind fun q => tl5 N q w)) ((f_X6_readsHear N m).bind fun q => tl6 N q) := by
  obtain ⟨S, S0, S1, h4, h6⟩ := start_v N hR
  obtain ⟨c5, c6⟩ := canHear_v N S0 S1 h4 h6
  obtain ⟨a1, a2, a3, a4, a5, a6, a7, a8, a9⟩ := id h
  have t2 := a1.2.1
  have e6 := f_X6_readsHear.eq_1 N m
  rw [c5, Option.bind_some]
  rw [c6, Option.bind_some] at e6
  by_cases g : S + 58000 ≤ 2000000000
  · rw [decide_eq_true g] at c5 e6 ⊢
    rw [if_pos rfl] at e6
    obtain ⟨m1, n1, n2, n3, n4, n5⟩ := pass_p hN (by decide) h hw
    have P1 : PT T L (ol (oi u 10 0) 11 0) m1 (sk ltr T L a) := PT_c n2 (oi_n u 0 (show 2 ≠ 10 by decide)) (oi_n u 0 (show 3 ≠ 10 by decide)) (oi_n u 0 (show 5 ≠ 10 by decide)) (oi_n u 0 (show 6 ≠ 10 by decide)) rfl
    obtain ⟨v, u2, m2, d1, d2, d3, d4, d5, d6⟩ := num_p hN (lo := 0) (hi := 52595999) (by omega) (by omega) (by omega) (by omega) P1
    have d1 : f_X3_readNumber N 0 52595999 (ol (oi u 10 0) 11 0) = some (zI v, u2) := d1
    have d2 : f_X6_takes N 0 52595999 m1 = some (zI v, m2) := d2
    obtain ⟨f1, f2, f7, f8, f9, f10, f22⟩ := FC_1 d3
    have e5 : f_X3_readHearing N true u = (if u2.1 5 = 0 then ((f_X3_readWord N (oi u2 8 (zI v))).bind fun q5 => ((f_X3_wordIs N 7 q5).bind fun q7 => (if q7.1 = true then ((f_X3_readWord N (oi q7.2 10 1)).bind fun q25 => l_X3_readHearing_68 N true N 0 q25) else l_X3_readHearing_68 N true N 0 q7.2))) else some (oi u2 8 (zI v))) := by
      rw [f_X3_readHearing, if_pos rfl, d1]
      rfl
    rw [n1, Option.bind_some, d2, Option.bind_some] at e6
    have F1 : u2.1 1 = u0.1 1 := by
      rw [f1]
      show (oi u 10 0).1 1 = _
      rw [oi_n _ _ (by decide)]
      exact h1
    have F7 : u2.1 7 = 6 := by
      rw [f7]
      show (oi u 10 0).1 7 = _
      rw [oi_n _ _ (by decide)]
      exact h7
    have F10 : u2.1 10 = 0 := by
      rw [f10]
      exact oi_s u 10 0
    have F11 : u2.2.1 11 = 0 := by
      rw [f22]
      exact ol_s _ 11 0
    have Ft : u2.2.2 = u0.2.2 := by
      rw [f22]
      exact ht
    rcases d6 with ⟨v1, v2, q, q1, q2⟩ | ⟨v1, v2⟩
    · rw [if_pos q2.2.2.2.2.2.1] at e5
      have P2 : PT T L (oi u2 8 (zI v)) m2 q := PT_c q2 (oi_n _ _ (by decide)) (oi_n _ _ (by decide)) (oi_n _ _ (by decide)) (oi_n _ _ (by decide)) rfl
      obtain ⟨u3, k1, k2, k3, k4⟩ := word_p hN P2
      have r := sk_rng spc T q2.2.2.2.1
      have w5 := wis_c hN (i := 7) (by omega) k2
      have w6 := wis_m hN (i := 7) (by omega) k2
      rw [k1, Option.bind_some, w5, Option.bind_some] at e5
      rw [w6, Option.bind_some] at e6
      -- what follows, with the leap second known
      have rest : ∀ (lp : Bool) (u4 m4 : Ob) (a4 : Nat), a < a4 → PW T L u4 m4 a4 → u4.1 1 = u0.1 1 → u4.1 7 = 6 → u4.1 8 = zI v → u4.1 10 = (if lp = true then 1 else 0) → u4.2.1 11 = 0 → u4.2.2 = u0.2.2 → LF m m4 → m4.2.2 = m.2.2 → f_X3_readHearing N true u = l_X3_readHearing_68 N true N 0 u4 → f_X6_readsHear N m = l_X6_readsHear_45 N N (zI v) lp 0 m4 → SR N T L p u0 w b m0 ((f_X3_readHearing N true u).bind fun q => tl5 N q w) ((f_X6_readsHear N m).bind fun q => tl6 N q) := by
        intro lp u4 m4 a4 ha4 hW y1 y7 y8 y10 y11 yt yl y22 z5 z6
        have hW3 := hW.2.2.1
        obtain ⟨u5, j1, j2, j3, j4⟩ := lose_l hN true (zI v) lp (L - a4) a4 0 N N u4 m4 (by omega) (by omega) (by omega) (by omega) hW
        have j1 : l_X3_readHearing_68 N true N 0 u4 = some u5 := j1
        rw [y11] at j4
        rw [z5, z6, j1, Option.bind_some]
        have G1 : u5.1 1 = u0.1 1 := (j2 1 (by omega)).trans y1
        have Gt : u5.2.2 = u0.2.2 := j3.trans yt
        rcases j4 with ⟨m', i1, i2, i3⟩ | ⟨m', a', i1, i2, i3, i4, i5⟩
        · rw [i1, Option.bind_some]
          exact err_p N i3 (LF_tr hl (LF_tr yl i2)) G1 Gt
        · have R2 : RR w (m'.2.2.2 0) := by rw [i3, y22]; exact hR
          obtain ⟨rr, w', b', mo', p1, p2, p3, p4⟩ := hear_v hN b R2 (x := v) v1 v2 lp (u5.2.1 11) c5
          rw [i1, p2, Option.bind_some, Option.bind_some]
          rcases i5 with i5 | ⟨i5, i6, i7, i8, i9, i10, i11⟩
          · refine fin_p hN (b := b) (b' := b') (w' := w') (PT_m i5 p3) (by omega) (LF_tr hl (LF_tr yl (LF_tr i2 (LF_Sd p3)))) G1 Gt (Or.inr (Or.inl ⟨?_, zI rr, lp, ?_, ?_⟩)) p4
            · rw [j2 7 (by omega)]
              exact y7
            · rw [j2 10 (by omega)]
              exact y10
            · rw [j2 8 (by omega), y8]
              exact p1
          · -- another word stands there
            have T2 : TOK T L mo' a' := ⟨(p3.1 12 (by decide)).trans i9.1, (p3.1 13 (by decide)).trans i9.2.1, (p3.1 14 (by decide)).trans i9.2.2.1, fun gg => (p3.2.1 18 (by decide)).trans (i9.2.2.2 gg)⟩
            have M2 : MT T L mo' := MT_LF i8 (LF_Sd p3)
            have z15 : mo'.1 15 = 0 := (p3.1 15 (by decide)).trans i11
            have t6 : tl6 N mo' = some (oi (oi mo' 15 (-2)) 16 (zI a')) := by
              unfold tl6
              have hk : ¬ (mo'.1 14 = 2) := by
                rw [T2.2.2.1, i10]
                decide
              rw [if_neg hk, must_F N z15, T2.1]
              rfl
            have t5 : tl5 N u5 w = some (u5, w) := by
              unfold tl5
              have hk : ¬ (u5.1 5 = 0) := by
                rw [i5]
                decide
              rw [if_neg hk]
            refine ⟨u5, _, t5, t6, LF_tr hl (LF_tr yl (LF_tr i2 (LF_tr (LF_Sd p3) (LF_er _ _ _)))), G1, Gt, Or.inl ⟨⟨-2, a', Or.inl rfl, i5, i6, ?_, ?_⟩, MT_LF M2 (LF_er _ _ _), a', i7, (oi_n _ _ (by decide)).trans ((oi_n _ _ (by decide)).trans T2.1)⟩⟩
            · rw [oi_n _ _ (by decide), oi_s]
              rfl
            · rw [oi_s]
      have U1 : u3.1 1 = u0.1 1 := by
        rw [k3 1 (by decide) (by decide), oi_n _ _ (by decide)]
        exact F1
      have U7 : u3.1 7 = 6 := by
        rw [k3 7 (by decide) (by decide), oi_n _ _ (by decide)]
        exact F7
      have U8 : u3.1 8 = zI v := by
        rw [k3 8 (by decide) (by decide), oi_s]
      have U10 : u3.1 10 = 0 := by
        rw [k3 10 (by decide) (by decide), oi_n _ _ (by decide)]
        exact F10
      have U11 : u3.2.1 11 = 0 := by
        rw [k4]
        exact F11
      have Ut : u3.2.2 = u0.2.2 := by
        rw [k4]
        exact Ft
      cases gw : wB T L 7 (sk spc T L q)
      · rw [gw] at e5 e6
        exact rest false u3 m2 (sk spc T L q) (by omega) k2 U1 U7 U8 U10 U11 Ut (LF_tr n4 d4) (d5.trans n5) e5 e6
      · rw [gw] at e5 e6
        obtain ⟨m3, x1, x2, x3, x4, x5⟩ := pass_p hN (by decide) k2 gw
        have P3 : PT T L (oi u3 10 1) m3 (sk ltr T L (sk spc T L q)) := PT_c x2 (oi_n _ _ (by decide)) (oi_n _ _ (by decide)) (oi_n _ _ (by decide)) (oi_n _ _ (by decide)) rfl
        obtain ⟨u4, y1, y2, y3, y4⟩ := word_p hN P3
        have r3 := sk_rng spc T x2.2.2.2.1
        have e5 : f_X3_readHearing N true u = l_X3_readHearing_68 N true N 0 u4 := by
          rw [e5]
          show ((f_X3_readWord N (oi u3 10 1)).bind _) = _
          rw [y1]
          rfl
        have e6 : f_X6_readsHear N m = l_X6_readsHear_45 N N (zI v) true 0 m3 := by
          rw [e6]
          show ((f_X6_must N true m2).bind _) = _
          rw [x1]
          rfl
        refine rest true u4 m3 (sk spc T L (sk ltr T L (sk spc T L q))) (by omega) y2 ?_ ?_ ?_ ?_ ?_ ?_ (LF_tr n4 (LF_tr d4 x4)) (x5.trans (d5.trans n5)) e5 e6
        · rw [y3 1 (by decide) (by decide), oi_n _ _ (by decide)]
          exact U1
        · rw [y3 7 (by decide) (by decide), oi_n _ _ (by decide)]
          exact U7
        · rw [y3 8 (by decide) (by decide), oi_n _ _ (by decide)]
          exact U8
        · rw [y3 10 (by decide) (by decide), oi_s]
          rfl
        · rw [y4]
          exact U11
        · rw [y4]
          exact Ut
    · rw [if_neg (PE_n0 v2).1] at e5
      have e6 : f_X6_readsHear N m = some m2 := by
        obtain ⟨t, rfl⟩ : ∃ k, N = k + 1 := ⟨N - 1, by omega⟩
        rw [e6, X6_isWord_w _ 7 (PE_n0 v2).2, Option.bind_some, ifb0, l_X6_readsHear_45, X6_isWord_w _ 8 (PE_n0 v2).2, Option.bind_some, ifb0, if_neg (PE_n0 v2).2]
      rw [e5, e6, Option.bind_some, Option.bind_some]
      refine err_p N (PE_c v2 (oi_n _ _ (by decide)) (oi_n _ _ (by decide))) (LF_tr hl (LF_tr n4 d4)) ?_ Ft
      rw [oi_n _ _ (by decide)]
      exact F1
  · rw [decide_eq_false g] at e6 ⊢
    rw [if_neg (by decide)] at e6
    have fl : f_X6_fails N (-3) m = some (oi (oi m 15 (-3)) 16 (zI a)) := by
      rw [f_X6_fails, if_pos a9, a7.1]
    have q15 : ¬ ((oi (oi m 15 (-3)) 16 (zI a)).1 15 = 0) := by
      rw [oi_n _ _ (by decide), oi_s]
      decide
    have e6 : f_X6_readsHear N m = some (oi (oi m 15 (-3)) 16 (zI a)) := by
      obtain ⟨t, rfl⟩ : ∃ k, N = k + 1 := ⟨N - 1, by omega⟩
      rw [e6, fl, Option.bind_some, must_W _ q15, Option.bind_some, takes_W _ q15, Option.bind_some, X6_isWord_w _ 7 q15, Option.bind_some, ifb0, l_X6_readsHear_45, X6_isWord_w _ 8 q15, Option.bind_some, ifb0, if_neg q15]
    have e5 : f_X3_readHearing N false u = some (oi (oi (ol (oi u 10 0) 11 0) 5 (-3)) 6 (zI a)) := by
      rw [f_X3_readHearing, if_neg (by decide), a5]
      rfl
    rw [e5, e6, Option.bind_some, Option.bind_some]
    refine err_p N ⟨⟨-3, a, Or.inr rfl, ?_, ?_, ?_, ?_⟩, MT_LF a2 (LF_er _ _ _), a, a3, (oi_n _ _ (by decide)).trans ((oi_n _ _ (by decide)).trans a7.1)⟩ (LF_tr hl (LF_er _ _ _)) ?_ ht
    · rw [oi_n _ _ (by decide), oi_s]
      rfl
    · rw [oi_s]
    · rw [oi_n _ _ (by decide), oi_s]
      rfl
    · rw [oi_s]
    · rw [oi_n _ _ (by decide), oi_n _ _ (by decide)]
      show (oi u 10 0).1 1 = _
      rw [oi_n _ _ (by decide)]
      exact h1
