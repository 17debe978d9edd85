/-! both readers, side by side -/
def PT (T : Nat → Int) (L : Nat) (u m : Ob) (p : Nat) : Prop := CT T L u ∧ MT T L m ∧ u.1 3 = zI p ∧ p ≤ L ∧ TOK T L m (sk spc T L p) ∧ u.1 5 = 0 ∧ m.1 15 = 0
def PE (T : Nat → Int) (L : Nat) (u m : Ob) : Prop := (∃ (c : Int) (pos : Nat), (c = -2 ∨ c = -3) ∧ u.1 5 = zI c ∧ u.1 6 = zI pos ∧ m.1 15 = zI c ∧ m.1 16 = zI pos) ∧ MT T L m ∧ ∃ a, a ≤ L ∧ m.1 12 = zI a
/-- what reading leaves of the class's reader -/
def FC (u v : Ob) : Prop := (∀ k, k ≠ 3 → k ≠ 5 → k ≠ 6 → v.1 k = u.1 k) ∧ v.2 = u.2
theorem FC_rfl (u : Ob) : FC u u := ⟨fun _ _ _ _ => rfl, rfl⟩
theorem FC_tr {u v w : Ob} (h1 : FC u v) (h2 : FC v w) : FC u w := ⟨fun k a b c => (h2.1 k a b c).trans (h1.1 k a b c), h2.2.trans h1.2⟩
theorem PE_n0 {T : Nat → Int} {L : Nat} {u m : Ob} (h : PE T L u m) : ¬ (u.1 5 = 0) ∧ ¬ (m.1 15 = 0) := by
  obtain ⟨⟨c, pos, hc, h1, h2, h3, h4⟩, _⟩ := h
  rw [h1, h3, zI_lit]
  rw [zI_eq (by omega) (by omega) (by omega) (by omega)]
  omega
theorem LF_nx {m v : Ob} (h1 : ∀ i, i ≠ 12 → i ≠ 13 → i ≠ 14 → v.1 i = m.1 i) (h2 : v.2.2 = m.2.2) : LF m v := ⟨fun k _ a b c _ _ => h1 k a b c, congrArg Prod.fst h2, fun k _ => congrFun (congrArg Prod.snd h2) k⟩
theorem tkK_rng (T : Nat → Int) (L a : Nat) : tkK T L a = 0 ∨ tkK T L a = 1 ∨ tkK T L a = 2 ∨ tkK T L a = 3 := by
  unfold tkK
  grind
/-- the next token behind one that was taken -/
theorem next_p {N : Nat} (hN : 700 ≤ N) {T : Nat → Int} {L p q : Nat} {u m v : Ob} (h : PT T L u m p) (hE : tkE T L (sk spc T L p) = q) (qL : q ≤ L) (hv : CT T L v) (h3 : v.1 3 = zI q) (h5 : v.1 5 = 0) : ∃ m', f_X6_next N m = some m' ∧ PT T L v m' q ∧ LF m m' ∧ m'.2.2 = m.2.2 := by
  obtain ⟨a1, a2, a3, a4, a5, a6, a7⟩ := h
  obtain ⟨m', n1, n2, n3, n4⟩ := X6_next_v hN a2 (p := q) (by rw [a5.2.1, hE]) qL
  exact ⟨m', n1, ⟨hv, MT_LF a2 (LF_nx n3 n4), h3, qL, n2, h5, (n3 15 (by decide) (by decide) (by decide)).trans a7⟩, LF_nx n3 n4, n4⟩
theorem must_T (N : Nat) {m : Ob} (h : m.1 15 = 0) : f_X6_must N true m = (f_X6_next N m).bind fun q => some q := by
  rw [f_X6_must, if_pos rfl, if_pos h]
theorem must_W (N : Nat) {m : Ob} (h : ¬ (m.1 15 = 0)) (b : Bool) : f_X6_must N b m = some m := by
  rw [f_X6_must]
  cases b
  · rw [ifb0, f_X6_fails, if_neg h, Option.bind_some, if_neg h]
  · rw [ifb1, if_neg h]
theorem must_F (N : Nat) {m : Ob} (h : m.1 15 = 0) : f_X6_must N false m = some (oi (oi m 15 (-2)) 16 (m.1 12)) := by
  have e : ¬ ((oi (oi m 15 (-2)) 16 (m.1 12)).1 15 = 0) := by
    rw [oi_n _ _ (by decide), oi_s]
    decide
  rw [f_X6_must, ifb0, f_X6_fails, if_pos h, Option.bind_some, if_neg e]
theorem LF_er (m : Ob) (x y : Int32) : LF m (oi (oi m 15 x) 16 y) := ⟨fun k _ _ _ _ e f => by rw [oi_n _ _ f, oi_n _ _ e], rfl, fun _ _ => rfl⟩
theorem takes_W (N : Nat) {m : Ob} (h : ¬ (m.1 15 = 0)) (lo hi : Int64) : f_X6_takes N lo hi m = some (0, m) := by
  unfold f_X6_takes
  simp only [h, ↓reduceIte]
theorem bind_id {α : Type} (x : Option α) : (x.bind fun q => some q) = x := by cases x <;> rfl
theorem takes_v (N : Nat) {T : Nat → Int} {L a : Nat} {m : Ob} (hk : TOK T L m a) (h : m.1 15 = 0) {lo hi : Int} (l1 : -9223372036854775808 ≤ lo ∧ lo < 9223372036854775808) (h1 : -9223372036854775808 ≤ hi ∧ hi < 9223372036854775808) : f_X6_takes N (zL lo) (zL hi) m =
    (if tkK T L a = 1 then (if lo ≤ nmT T L a ∧ nmT T L a ≤ hi then (f_X6_next N m).bind fun q => some (zI (nmT T L a), q) else some (0, oi (oi m 15 (-3)) 16 (zI a))) else some (0, oi (oi m 15 (-2)) 16 (zI a))) := by
  obtain ⟨k1, k2, k3, k4⟩ := hk
  have nr := nmT_rng T L a
  have kr := tkK_rng T L a
  have e14 : (m.1 14 = 1) = (tkK T L a = 1) := by
    rw [k3, zI_lit, zI_eq (by omega) (by omega) (by omega) (by omega)]
  have fl : ∀ c : Int32, f_X6_fails N c m = some (oi (oi m 15 c) 16 (zI a)) := by
    intro c
    rw [f_X6_fails, if_pos h, k1]
  have q15 : ∀ (c : Int32) (y : Int32), (oi (oi m 15 c) 16 y).1 15 = c := fun c y => by rw [oi_n _ _ (by decide), oi_s]
  have n2 : ¬ ((-2 : Int32) = 0) := by decide
  have n3 : ¬ ((-3 : Int32) = 0) := by decide
  unfold f_X6_takes
  by_cases g : tkK T L a = 1
  · have hin := X6_isIn_v N (a := nmT T L a) (b := lo) (c := hi) (by omega) l1 h1
    rw [if_pos g]
    rw [← k4 g] at hin
    simp only [h, ↓reduceIte, e14, g, hin, Option.bind_some]
    by_cases gr : lo ≤ nmT T L a ∧ nmT T L a ≤ hi
    · rw [decide_eq_true gr, if_pos gr]
      simp only [↓reduceIte, k4 g, zL_toI]
    · rw [decide_eq_false gr, if_neg gr]
      simp only [↓reduceIte, Bool.false_eq_true, fl, Option.bind_some, q15, n3]
  · rw [if_neg g]
    simp only [h, ↓reduceIte, e14, g, fl, Option.bind_some, q15, n2]
theorem num_p {N : Nat} (hN : 700 ≤ N) {T : Nat → Int} {L p : Nat} {lo hi : Int} (l1 : -2147483648 ≤ lo) (l2 : lo < 2147483648) (h1 : -2147483648 ≤ hi) (h2 : hi < 2147483648) {u m : Ob} (h : PT T L u m p) : ∃ (v : Int) (u' m' : Ob), f_X3_readNumber N (zI lo) (zI hi) u = some (zI v, u') ∧ f_X6_takes N (zL lo) (zL hi) m = some (zI v, m') ∧ FC u u' ∧ LF m m' ∧ m'.2.2 = m.2.2 ∧ ((lo ≤ v ∧ v ≤ hi ∧ ∃ q, p < q ∧ PT T L u' m' q) ∨ (v = 0 ∧ PE T L u' m')) := by
  obtain ⟨a1, a2, a3, a4, a5, a6, a7⟩ := id h
  have r := sk_rng spc T a4
  have r2 := sk_rng dgt T r.2
  have nr := nmT_rng T L (sk spc T L p)
  have c := X3_readNumber_v hN l1 l2 h1 h2 a1 a3 a4
  have t := takes_v N a5 a7 (lo := lo) (hi := hi) (by omega) (by omega)
  -- a number stands there
  have isn : tkK T L (sk spc T L p) = 1 ↔ sk dgt T L (sk spc T L p) ≠ sk spc T L p := by
    unfold tkK
    by_cases g : L ≤ sk spc T L p
    · rw [if_pos g, sk_stop (Or.inl g)]
      simp
    · rw [if_neg g]
      cases gd : dgt (T (sk spc T L p))
      · rw [sk_stop (Or.inr gd)]
        cases gl : ltr (T (sk spc T L p)) <;> simp
      · have gl : ltr (T (sk spc T L p)) = false := by
          have g1 := of_decide_eq_true gd
          exact decide_eq_false (by omega)
        rw [sk_go (by omega) gd, gl]
        have := sk_rng dgt T (show sk spc T L p + 1 ≤ L by omega)
        simp
        omega
  have hf : ∀ x y : Int32, FC u (oi (oi (oi u 3 (zI (sk dgt T L (sk spc T L p)))) 5 x) 6 y) := fun x y => ⟨fun k k3 k5 k6 => by rw [oi_n _ _ k6, oi_n _ _ k5, oi_n _ _ k3], rfl⟩
  have er : ∀ c : Int, (c = -2 ∨ c = -3) → PE T L (oi (oi (oi u 3 (zI (sk dgt T L (sk spc T L p)))) 5 (zI c)) 6 (zI (sk spc T L p))) (oi (oi m 15 (zI c)) 16 (zI (sk spc T L p))) := by
    intro c hc
    refine ⟨⟨c, sk spc T L p, hc, ?_, ?_, ?_, ?_⟩, MT_LF a2 (LF_er _ _ _), sk spc T L p, r.2, (oi_n _ _ (by decide)).trans ((oi_n _ _ (by decide)).trans a5.1)⟩
    · rw [oi_n _ _ (by decide), oi_s]
    · rw [oi_s]
    · rw [oi_n _ _ (by decide), oi_s]
    · rw [oi_s]
  unfold nrR at c
  by_cases g : sk dgt T L (sk spc T L p) = sk spc T L p
  · have nk : ¬ (tkK T L (sk spc T L p) = 1) := fun z => (isn.mp z) g
    have c' := c
    rw [if_pos g, if_neg (show ¬ ((-2 : Int) = 0) by decide)] at c'
    rw [if_neg nk] at t
    exact ⟨0, _, _, c', t, hf _ _, LF_er _ _ _, rfl, Or.inr ⟨rfl, er (-2) (Or.inl rfl)⟩⟩
  · have yk := isn.mpr g
    rw [if_neg g] at c
    rw [if_pos yk] at t
    by_cases g2 : nmT T L (sk spc T L p) < lo ∨ hi < nmT T L (sk spc T L p)
    · rw [if_pos g2, if_neg (show ¬ ((-3 : Int) = 0) by decide)] at c
      rw [if_neg (by omega)] at t
      exact ⟨0, _, _, c, t, hf _ _, LF_er _ _ _, rfl, Or.inr ⟨rfl, er (-3) (Or.inr rfl)⟩⟩
    · rw [if_neg g2, if_pos rfl] at c
      rw [if_pos (by omega)] at t
      have aL : ¬ (L ≤ sk spc T L p) := by
        intro z
        exact g (sk_stop (Or.inl z))
      have gd : dgt (T (sk spc T L p)) = true := by
        cases gd : dgt (T (sk spc T L p))
        · exact absurd (sk_stop (Or.inr gd)) g
        · rfl
      have gl : ltr (T (sk spc T L p)) = false := by
        have g1 := of_decide_eq_true gd
        exact decide_eq_false (by omega)
      have hE : tkE T L (sk spc T L p) = sk dgt T L (sk spc T L p) := by
        unfold tkE
        rw [if_neg aL, gl, ifb0, gd, ifb1]
      obtain ⟨m', n1, n2, n3, n4⟩ := next_p hN h (q := sk dgt T L (sk spc T L p)) hE r2.2 (v := oi u 3 (zI (sk dgt T L (sk spc T L p)))) (CT_up a1 (oi_n _ _ (by decide)) (oi_n _ _ (by decide)) rfl) (oi_s u 3 _) ((oi_n _ _ (by decide)).trans a6)
      refine ⟨nmT T L (sk spc T L p), _, m', c, ?_, ⟨fun k k3 _ _ => oi_n u _ k3, rfl⟩, n3, n4, Or.inl ⟨by omega, by omega, _, ?_, n2⟩⟩
      · rw [t, n1]
        rfl
      · omega
/-- a sign -/
def sgB (T : Nat → Int) (L a : Nat) (c : Int) : Bool := decide (a < L ∧ T a = c)
theorem sg_tk {T : Nat → Int} {L a : Nat} {c : Int} (hc : c = 45 ∨ c = 59) (h : sgB T L a c = true) : tkK T L a = 2 ∧ tkE T L a = a + 1 ∧ a < L := by
  have h := of_decide_eq_true h
  have gl : ltr (T a) = false := decide_eq_false (by omega)
  have gd : dgt (T a) = false := decide_eq_false (by omega)
  unfold tkK tkE
  have nL : ¬ L ≤ a := by omega
  rw [if_neg nL, if_neg nL, gl, ifb0, ifb0, gd, ifb0, ifb0]
  exact ⟨rfl, rfl, h.1⟩
theorem sign_c {N : Nat} (hN : 700 ≤ N) {T : Nat → Int} {L p : Nat} {u : Ob} {c : Int} (hc : c = 45 ∨ c = 59) (hT : CT T L u) (hp : u.1 3 = zI p) (pL : p ≤ L) : f_X3_readSign N (zI c) u = some (sgB T L (sk spc T L p) c, oi u 3 (zI ((if sgB T L (sk spc T L p) c = true then sk spc T L p + 1 else sk spc T L p : Nat) : Int))) := by
  have r := sk_rng spc T pL
  have t2 := hT.2.1
  rw [f_X3_readSign, X3_skipSpaces_v hN hT hp pL, Option.bind_some, oi_s, oi_n u _ (by decide), hT.1.1]
  unfold sgB
  by_cases g : sk spc T L p < L
  · obtain ⟨z1, z2, z3⟩ := hT.2.2 _ g
    have s := sg_rng z1 z2
    have d1 : (zI (L : Int) ≤ zI (sk spc T L p : Int)) = False := by simp (maxSteps := 400000) (disch := omega) only [zI_lit, zI_neg, zI_add, zI_sub, zI_mul, zI_div, zI_tn, zI_toL, zL_lit, zL_neg, zL_add, zL_sub, zL_mul, zL_div, zL_toI, zI_ltT, zI_ltF, zI_leT, zI_leF, zI_eqT, zI_eqF, zL_ltT, zL_ltF, zL_leT, zL_leF, zL_eqT, zL_eqF, nleT, nleF, or_self, or_false, false_or, true_or, or_true, not_true_eq_false, not_false_eq_true, ↓reduceIte, Option.bind_some, Bool.false_eq_true, decide_true, decide_false]
    have d2 : (zI (sk spc T L p : Int) < 0 ∨ 600 ≤ sk spc T L p) = False := by simp (maxSteps := 400000) (disch := omega) only [zI_lit, zI_neg, zI_add, zI_sub, zI_mul, zI_div, zI_tn, zI_toL, zL_lit, zL_neg, zL_add, zL_sub, zL_mul, zL_div, zL_toI, zI_ltT, zI_ltF, zI_leT, zI_leF, zI_eqT, zI_eqF, zL_ltT, zL_ltF, zL_leT, zL_leF, zL_eqT, zL_eqF, nleT, nleF, or_self, or_false, false_or, true_or, or_true, not_true_eq_false, not_false_eq_true, ↓reduceIte, Option.bind_some, Bool.false_eq_true, decide_true, decide_false]
    have d3 : (zI (sg (T (sk spc T L p))) = zI c) = (T (sk spc T L p) = c) := by
      rw [zI_eq (by omega) (by omega) (by omega) (by omega)]
      exact propext (by omega)
    rw [ifF d1, zI_tnN (by omega), ifF d2]
    show (if u.2.2.1 0 (sk spc T L p) = zI c then _ else _) = _
    rw [z3, zI_suc, oi_oi]
    by_cases e : T (sk spc T L p) = c
    · rw [ifP d3 e, decide_eq_true ⟨g, e⟩, ifb1]
    · rw [ifN d3 e, decide_eq_false (fun z => e z.2), ifb0]
  · rw [if_pos (show zI (L : Int) ≤ zI (sk spc T L p : Int) by rw [zI_le (by omega) (by omega) (by omega) (by omega)]; omega), decide_eq_false (fun z => g z.1), ifb0]
/-- the end of a statement: a semicolon -/
theorem semi_p {N : Nat} (hN : 700 ≤ N) {T : Nat → Int} {L p : Nat} {u m : Ob} (h : PT T L u m p) : ∃ u' m', (∃ b, f_X3_readSign N 59 u = some (b, u') ∧ b = true ∧ (if m.1 14 = 2 then ((f_X6_see N (m.1 12) m).bind fun q15 => (if q15 = 59 then ((f_X6_must N true m).bind fun q20 => some q20) else ((f_X6_must N false m).bind fun q18 => some q18))) else ((f_X6_must N false m).bind fun q13 => some q13)) = some m' ∧ LF m m' ∧ m'.2.2 = m.2.2 ∧ FC u u' ∧ ∃ q, p < q ∧ PT T L u' m' q) ∨
    (∃ v, f_X3_readSign N 59 u = some (false, v) ∧ f_X3_fail N (-2) (v.1 3) v = some u' ∧ (if m.1 14 = 2 then ((f_X6_see N (m.1 12) m).bind fun q15 => (if q15 = 59 then ((f_X6_must N true m).bind fun q20 => some q20) else ((f_X6_must N false m).bind fun q18 => some q18))) else ((f_X6_must N false m).bind fun q13 => some q13)) = some m' ∧ LF m m' ∧ FC u u' ∧ PE T L u' m') := by
  obtain ⟨a1, a2, a3, a4, a5, a6, a7⟩ := id h
  have r := sk_rng spc T a4
  have t2 := a1.2.1
  have c := sign_c hN (c := 59) (Or.inr rfl) a1 a3 a4
  have c : f_X3_readSign N 59 u = some (sgB T L (sk spc T L p) 59, oi u 3 (zI ((if sgB T L (sk spc T L p) 59 = true then sk spc T L p + 1 else sk spc T L p : Nat) : Int))) := c
  have kr := tkK_rng T L (sk spc T L p)
  have e14 : (m.1 14 = 2) = (tkK T L (sk spc T L p) = 2) := by
    rw [a5.2.2.1, zI_lit, zI_eq (by omega) (by omega) (by omega) (by omega)]
  have see := X6_see_v N a2 (k := sk spc T L p) (by omega)
  have sv := sv_rng a2 (sk spc T L p)
  cases g : sgB T L (sk spc T L p) 59
  · rw [g, ifb0] at c
    -- no semicolon
    have mF : (if m.1 14 = 2 then ((f_X6_see N (m.1 12) m).bind fun q15 => (if q15 = 59 then ((f_X6_must N true m).bind fun q20 => some q20) else ((f_X6_must N false m).bind fun q18 => some q18))) else ((f_X6_must N false m).bind fun q13 => some q13)) = some (oi (oi m 15 (-2)) 16 (zI (sk spc T L p))) := by
      rw [must_F N a7, a5.1]
      by_cases g2 : tkK T L (sk spc T L p) = 2
      · rw [ifP e14 g2, see, Option.bind_some]
        have g' := of_decide_eq_false g
        have hne : ¬ ((if sk spc T L p < L then T (sk spc T L p) else -1) = 59) := by
          intro z
          by_cases gg : sk spc T L p < L
          · rw [if_pos gg] at z
            exact g' ⟨gg, z⟩
          · rw [if_neg gg] at z
            omega
        rw [if_neg (show ¬ zI (if sk spc T L p < L then T (sk spc T L p) else -1) = 59 by rw [zI_lit, zI_eq (by omega) (by omega) (by omega) (by omega)]; exact hne)]
        rfl
      · rw [ifN e14 g2]
        rfl
    refine ⟨_, _, Or.inr ⟨_, c, rfl, mF, LF_er _ _ _, ⟨fun k k3 k5 k6 => ?_, rfl⟩, ⟨⟨-2, sk spc T L p, Or.inl rfl, ?_, ?_, ?_, ?_⟩, MT_LF a2 (LF_er _ _ _), sk spc T L p, r.2, (oi_n _ _ (by decide)).trans ((oi_n _ _ (by decide)).trans a5.1)⟩⟩⟩
    · rw [oi_n _ _ k6, oi_n _ _ k5, oi_n _ _ k3]
    · rw [oi_n _ _ (by decide), oi_s]
      rfl
    · rw [oi_s, oi_s]
    · rw [oi_n _ _ (by decide), oi_s]
      rfl
    · rw [oi_s]
  · rw [g, ifb1] at c
    obtain ⟨k1, k2, k3⟩ := sg_tk (Or.inr rfl) g
    have g' := of_decide_eq_true g
    obtain ⟨m', n1, n2, n3, n4⟩ := next_p hN h (q := sk spc T L p + 1) k2 (by omega) (v := oi u 3 (zI ((sk spc T L p + 1 : Nat) : Int))) (CT_up a1 (oi_n _ _ (by decide)) (oi_n _ _ (by decide)) rfl) (oi_s u 3 _) ((oi_n _ _ (by decide)).trans a6)
    refine ⟨_, m', Or.inl ⟨true, c, rfl, ?_, n3, n4, ⟨fun k k3 _ _ => oi_n u _ k3, rfl⟩, _, ?_, n2⟩⟩
    · rw [ifP e14 k1, a5.1, see, Option.bind_some, if_pos k3, if_pos (show zI (T (sk spc T L p)) = 59 by rw [g'.2]; rfl), must_T N a7, n1]
      rfl
    · omega
