/-! any statement; the whole text -/
theorem PW_7 {T : Nat → Int} {L a : Nat} {u m : Ob} (h : PW T L u m a) (x : Int32) : PW T L (oi u 7 x) m a := by
  obtain ⟨a1, a2, a3, a4, a5, a6, a7, a8, a9⟩ := h
  exact ⟨CT_up a1 (oi_n u x (by decide)) (oi_n u x (by decide)) rfl, a2, a3, a4, (oi_n u x (by decide)).trans a5, (oi_n u x (by decide)).trans a6, a7, (oi_n u x (by decide)).trans a8, a9⟩
theorem stm_p {N : Nat} (hN : 700 ≤ N) {T : Nat → Int} {L p : Nat} {u w b m : Ob} (h : PT T L u m p) (hR : RR w (m.2.2.2 0)) : SR N T L p u w b m (f_X3_readStatement N u w) (f_X6_readsStatement N m) := by
  obtain ⟨v, v1, v2, v3, v4⟩ := word_p hN h
  have r := sk_rng spc T h.2.2.2.1
  have h1 : v.1 1 = u.1 1 := v3 1 (by decide) (by decide)
  have ht : v.2.2 = u.2.2 := by rw [v4]
  have e5 : f_X3_readStatement N u w = ((f_X3_verbOfWord N v).bind fun q3 => (if q3.1 = -1 then ((f_X3_fail N (-2) (q3.2.1 4) (oi q3.2 7 q3.1)).bind fun q34 => tl5 N q34 w) else (if q3.1 = 5 then ((f_X3_readPulse N (w.1 1) (oi q3.2 7 q3.1)).bind fun q26 => tl5 N q26 w) else (if q3.1 = 6 then ((f_X4_canHear N w).bind fun q16 => ((f_X3_readHearing N q16 (oi q3.2 7 q3.1)).bind fun q18 => tl5 N q18 w)) else ((f_X3_readSetting N (oi q3.2 7 q3.1)).bind fun q8 => tl5 N q8 w))))) := by
    rw [f_X3_readStatement, v1]
    rfl
  have e6 : f_X6_readsStatement N m = ((f_X6_settingHere N m).bind fun q1 => (if q1.1 = -1 then ((f_X6_isWord N 5 q1.2).bind fun q4 => (if q4.1 = true then ((f_X6_readsPulse N q4.2).bind fun q34 => tl6 N q34) else ((f_X6_isWord N 6 q4.2).bind fun q7 => (if q7.1 = true then ((f_X6_readsHear N q7.2).bind fun q22 => tl6 N q22) else ((f_X6_fails N (-2) q7.2).bind fun q10 => tl6 N q10))))) else ((f_X6_readsSetting N q1.1 q1.2).bind fun q46 => tl6 N q46))) := rfl
  have w5 : ∀ i, i < 9 → f_X3_wordIs N i v = some (wB T L i (sk spc T L p), v) := fun i hi => wis_c hN hi v2
  have w6 : ∀ i, i < 9 → f_X6_isWord N i m = some (wB T L i (sk spc T L p), m) := fun i hi => wis_m hN hi v2
  generalize ha : sk spc T L p = a at *
  have s1 : ∀ x : Int32, (oi v 7 x).1 1 = u.1 1 := fun x => (oi_n v x (by decide)).trans h1
  have s2 : ∀ x : Int32, (oi v 7 x).2.2 = u.2.2 := fun x => ht
  -- a setting
  have set : ∀ i : Nat, i < 5 → wB T L i a = true → f_X3_verbOfWord N v = some (zI i, v) → f_X6_settingHere N m = some (zI i, m) → SR N T L p u w b m (f_X3_readStatement N u w) (f_X6_readsStatement N m) := by
    intro i hi hw q5 q6
    rw [e5, e6, q5, q6, Option.bind_some, Option.bind_some]
    show SR N T L p u w b m (if zI (i : Int) = -1 then _ else (if zI (i : Int) = 5 then _ else (if zI (i : Int) = 6 then _ else ((f_X3_readSetting N (oi v 7 (zI i))).bind fun q8 => tl5 N q8 w)))) (if zI (i : Int) = -1 then _ else ((f_X6_readsSetting N (zI i) m).bind fun q46 => tl6 N q46))
    rw [ifN (zI_m1 (by omega) (by omega)) (by omega), ifN (zI_m1 (by omega) (by omega)) (by omega), if_neg (show ¬ zI (i : Int) = 5 by rw [zI_lit, zI_eq (by omega) (by omega) (by omega) (by omega)]; omega), if_neg (show ¬ zI (i : Int) = 6 by rw [zI_lit, zI_eq (by omega) (by omega) (by omega) (by omega)]; omega)]
    exact setting_p hN hi (PW_7 v2 (zI i)) hw (by omega) (LF_rfl m) (s1 _) (s2 _) (oi_s v 7 _) hR
  cases g0 : wB T L 0 a
  · cases g1 : wB T L 1 a
    · cases g2 : wB T L 2 a
      · cases g3 : wB T L 3 a
        · cases g4 : wB T L 4 a
          · have q6 : f_X6_settingHere N m = some (-1, m) := by
              unfold f_X6_settingHere
              simp only [w6 0 (by omega), w6 1 (by omega), w6 2 (by omega), w6 3 (by omega), w6 4 (by omega), g0, g1, g2, g3, g4, Option.bind_some, Bool.false_eq_true, ↓reduceIte]
            rw [q6, Option.bind_some] at e6
            have e6 : f_X6_readsStatement N m = ((f_X6_isWord N 5 m).bind fun q4 => (if q4.1 = true then ((f_X6_readsPulse N q4.2).bind fun q34 => tl6 N q34) else ((f_X6_isWord N 6 q4.2).bind fun q7 => (if q7.1 = true then ((f_X6_readsHear N q7.2).bind fun q22 => tl6 N q22) else ((f_X6_fails N (-2) q7.2).bind fun q10 => tl6 N q10))))) := e6
            rw [w6 5 (by omega), Option.bind_some] at e6
            cases g5 : wB T L 5 a
            · rw [g5] at e6
              have e6 : f_X6_readsStatement N m = ((f_X6_isWord N 6 m).bind fun q7 => (if q7.1 = true then ((f_X6_readsHear N q7.2).bind fun q22 => tl6 N q22) else ((f_X6_fails N (-2) q7.2).bind fun q10 => tl6 N q10))) := e6
              rw [w6 6 (by omega), Option.bind_some] at e6
              cases g6 : wB T L 6 a
              · rw [g6] at e6
                have e6 : f_X6_readsStatement N m = ((f_X6_fails N (-2) m).bind fun q10 => tl6 N q10) := e6
                have q5 : f_X3_verbOfWord N v = some (-1, v) := by
                  unfold f_X3_verbOfWord
                  simp only [w5 0 (by omega), w5 1 (by omega), w5 2 (by omega), w5 3 (by omega), w5 4 (by omega), w5 5 (by omega), w5 6 (by omega), g0, g1, g2, g3, g4, g5, g6, Option.bind_some, Bool.false_eq_true, ↓reduceIte]
                rw [q5, Option.bind_some] at e5
                obtain ⟨a1, a2, a3, a4, a5, a6, a7, a8, a9⟩ := v2
                have fl : f_X6_fails N (-2) m = some (oi (oi m 15 (-2)) 16 (zI a)) := by
                  rw [f_X6_fails, if_pos a9, a7.1]
                have e5 : f_X3_readStatement N u w = tl5 N (oi (oi (oi v 7 (-1)) 5 (-2)) 6 (zI a)) w := by
                  rw [e5, ← a5]
                  rfl
                rw [fl, Option.bind_some] at e6
                rw [e5, e6]
                refine err_p N ⟨⟨-2, a, Or.inl rfl, ?_, ?_, ?_, ?_⟩, MT_LF a2 (LF_er _ _ _), a, a3, (oi_n _ _ (by decide)).trans ((oi_n _ _ (by decide)).trans a7.1)⟩ (LF_er _ _ _) ?_ ht
                · rw [oi_n _ _ (by decide), oi_s]
                  rfl
                · rw [oi_s]
                · rw [oi_n _ _ (by decide), oi_s]
                  rfl
                · rw [oi_s]
                · rw [oi_n _ _ (by decide), oi_n _ _ (by decide), oi_n _ _ (by decide)]
                  exact h1
              · rw [g6] at e6
                have e6 : f_X6_readsStatement N m = ((f_X6_readsHear N m).bind fun q22 => tl6 N q22) := e6
                have q5 : f_X3_verbOfWord N v = some (6, v) := by
                  unfold f_X3_verbOfWord
                  simp only [w5 0 (by omega), w5 1 (by omega), w5 2 (by omega), w5 3 (by omega), w5 4 (by omega), w5 5 (by omega), w5 6 (by omega), g0, g1, g2, g3, g4, g5, g6, Option.bind_some, Bool.false_eq_true, ↓reduceIte]
                rw [q5, Option.bind_some] at e5
                have e5 : f_X3_readStatement N u w = ((f_X4_canHear N w).bind fun q16 => ((f_X3_readHearing N q16 (oi v 7 6)).bind fun q18 => tl5 N q18 w)) := e5
                rw [e5, e6]
                exact hearing_p hN (PW_7 v2 6) g6 (by omega) (LF_rfl m) (s1 _) (s2 _) (oi_s v 7 _) hR
            · rw [g5] at e6
              have e6 : f_X6_readsStatement N m = ((f_X6_readsPulse N m).bind fun q34 => tl6 N q34) := e6
              have q5 : f_X3_verbOfWord N v = some (5, v) := by
                unfold f_X3_verbOfWord
                simp only [w5 0 (by omega), w5 1 (by omega), w5 2 (by omega), w5 3 (by omega), w5 4 (by omega), w5 5 (by omega), g0, g1, g2, g3, g4, g5, Option.bind_some, Bool.false_eq_true, ↓reduceIte]
              rw [q5, Option.bind_some] at e5
              have e5 : f_X3_readStatement N u w = ((f_X3_readPulse N (w.1 1) (oi v 7 5)).bind fun q26 => tl5 N q26 w) := e5
              rw [e5, e6]
              exact pulse_p hN (PW_7 v2 5) g5 (by omega) (LF_rfl m) (s1 _) (s2 _) (oi_s v 7 _) hR
          · exact set 4 (by omega) g4 (by unfold f_X3_verbOfWord; simp only [w5 0 (by omega), w5 1 (by omega), w5 2 (by omega), w5 3 (by omega), w5 4 (by omega), g0, g1, g2, g3, g4, Option.bind_some, Bool.false_eq_true, ↓reduceIte]; rfl) (by unfold f_X6_settingHere; simp only [w6 0 (by omega), w6 1 (by omega), w6 2 (by omega), w6 3 (by omega), w6 4 (by omega), g0, g1, g2, g3, g4, Option.bind_some, Bool.false_eq_true, ↓reduceIte]; rfl)
        · exact set 3 (by omega) g3 (by unfold f_X3_verbOfWord; simp only [w5 0 (by omega), w5 1 (by omega), w5 2 (by omega), w5 3 (by omega), g0, g1, g2, g3, Option.bind_some, Bool.false_eq_true, ↓reduceIte]; rfl) (by unfold f_X6_settingHere; simp only [w6 0 (by omega), w6 1 (by omega), w6 2 (by omega), w6 3 (by omega), g0, g1, g2, g3, Option.bind_some, Bool.false_eq_true, ↓reduceIte]; rfl)
      · exact set 2 (by omega) g2 (by unfold f_X3_verbOfWord; simp only [w5 0 (by omega), w5 1 (by omega), w5 2 (by omega), g0, g1, g2, Option.bind_some, Bool.false_eq_true, ↓reduceIte]; rfl) (by unfold f_X6_settingHere; simp only [w6 0 (by omega), w6 1 (by omega), w6 2 (by omega), g0, g1, g2, Option.bind_some, Bool.false_eq_true, ↓reduceIte]; rfl)
    · exact set 1 (by omega) g1 (by unfold f_X3_verbOfWord; simp only [w5 0 (by omega), w5 1 (by omega), g0, g1, Option.bind_some, Bool.false_eq_true, ↓reduceIte]; rfl) (by unfold f_X6_settingHere; simp only [w6 0 (by omega), w6 1 (by omega), g0, g1, Option.bind_some, Bool.false_eq_true, ↓reduceIte]; rfl)
  · exact set 0 (by omega) g0 (by unfold f_X3_verbOfWord; simp only [w5 0 (by omega), g0, Option.bind_some, ↓reduceIte]; rfl) (by unfold f_X6_settingHere; simp only [w6 0 (by omega), g0, Option.bind_some, ↓reduceIte]; rfl)
