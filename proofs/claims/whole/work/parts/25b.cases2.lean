def S_assembled (Rel : Cst → Ob → Prop) (N : Nat) : Prop := ∀ (u0 u1 : Ob) (u2 u3 : Nat → Ob) (mo : Ob), Rel (u0, u1, u2, u3) mo → ∃ q b m9, f_X5_assembled N u0 u1 u2 u3 = some q ∧ f_X6_assembled N mo = some (b, m9) ∧ q.1 = b ∧ Rel q.2 m9
set_option maxRecDepth 100000 in
set_option maxHeartbeats 4000000 in
theorem w_assembled {p : Program} {l : Launch} {e : Env} {s : State} {m : MethodId} {args : Array Value} {below : List Frame} {meth : Method} {c : Code} {H : Heap} {locs : List Loc} {cells slots : Nat} {Q : State → Prop} {ls : Array Slot} {A : Nat → Prop} {G : Gp} {b L n : Nat} {xs : Nat → Int32} {ho h0 hm hd : Nat} {fo : Nat → Int64} {fd : Nat → UInt64} {a0 a1 am : Nat → Nat} {ra rb : Nat → Nat → Nat} {u0 u1 mo : Ob} {u2 u3 : Nat → Ob} {Rel : Cst → Ob → Prop} {N : Nat}
    (hst : S_assembled Rel N) (hRel : Rel (u0, u1, u2, u3) mo) (hC : CallFix p m c code 9 s args lw_g RL) (hlf : l.stackTraces = false) (hX : va_X b L xs s s.heap) (hbl : b < s.heap.size) (hbA : ¬ A b) (hL : L ≤ 3072) (hn : n + 6 ≤ L) (hP : va_P (gD G) vwCl (LW G ho fo h0 a0 a1 ra rb u0 u1 u2 u3 hm am mo hd fd) H) (hK : va_K (gD G) vwCl (gT G) s) (hD : va_D A (LW G ho fo h0 a0 a1 ra rb u0 u1 u2 u3 hm am mo hd fd)) (hE : Ev (gE G) A s) (hS : va_S A s.heap H locs) (hA : ∀ q : Nat, s.heap.size ≤ q → A q) (hl : lv_has ls 9 [(5, .int (Int32.ofNat n)), (4, .ref hd), (3, .ref ho), (2, .ref hm), (1, .ref h0), (0, .ref b)]) (hcs : cells + 1 ≤ 601024 ∧ slots + 6 ≤ 7293034)
    (kk : ∀ (fo' : Nat → Int64) (fd' : Nat → UInt64) (u0 u1 : Ob) (u2 u3 : Nat → Ob) (mo : Ob) (H : Heap) (locs : List Loc) (ls : Array Slot), Rel (u0, u1, u2, u3) mo → va_P (gD G) vwCl (LW G ho fo' h0 a0 a1 ra rb u0 u1 u2 u3 hm am mo hd fd') H → va_D A (LW G ho fo' h0 a0 a1 ra rb u0 u1 u2 u3 hm am mo hd fd') → va_S A s.heap H locs → lv_has ls 9 [(5, .int (Int32.ofNat n)), (4, .ref hd), (3, .ref ho), (2, .ref hm), (1, .ref h0), (0, .ref b)] → W p l e room_1 s m args below meth c H locs (cells + 1) (slots + 6) Q (F0 m 1884 ls [])) :
    W p l e room_1 s m args below meth c H locs cells slots Q (F0 m 1189 ls []) := by
  obtain ⟨hx, hb, hml, hown, hg⟩ := id hC
  obtain ⟨q, b9, m9, e5, e6, hok, hRel9⟩ := hst u0 u1 u2 u3 mo hRel
  skip
  refine lv_aload_n hx hb dL_law_1189 rfl (lv_at hl 4 rfl) ?_
  refine W.widen (k := cells + 1) (n := slots + 6) (by omega) (by omega) ?_
  refine kMi (As := []) (rest := []) hC (c_X5_assembled (G := G) e5) kq2_12 kc_X5_assembled (by decide) 0 (ci := 3) rfl rfl hP hK hD hE hS hA (out := (fun v : Ob × Ob × (Nat → Ob) × (Nat → Ob) => (LW G ho fo h0 a0 a1 ra rb v.1 v.2.1 v.2.2.1 v.2.2.2 hm am mo hd fd))) (wr := [(ho, .inl (G.2.2.1 2, 1, .inr (.inl fo)))] ++ (wX6 G hm am mo ++ [(hd, .inl (G.2.2.1 5, 1, .inr (.inr (.inr (.inl fd)))))])) (lpm0 _ _ _) (fun v => (lpm0 _ _ _).symm) hl.1 (Nat.le_of_ble_eq_true rfl) hcs dL_law_1190 (fun r9 v9 H locs hw hP hD hS => ?_)
  obtain ⟨hr9, hv9⟩ := hw
  subst hv9
  rw [hok] at hr9
  subst hr9
  have hP : va_P (gD G) vwCl (LW G ho fo h0 a0 a1 ra rb q.2.1 q.2.2.1 q.2.2.2.1 q.2.2.2.2 hm am mo hd fd) H := hP
  have hD : va_D A (LW G ho fo h0 a0 a1 ra rb q.2.1 q.2.2.1 q.2.2.2.1 q.2.2.2.2 hm am mo hd fd) := hD
  refine lv_aload_n hx hb dL_law_1193 rfl (lv_at hl 3 rfl) ?_
  refine kMi (As := []) (rest := [.int b9]) hC (c_X6_assembled (G := G) (N := N) e6) kq6_154 kc_X6_assembled (by decide) 0 (ci := 4) rfl rfl hP hK hD hE hS hA (out := fun v : Ob => (LW G ho fo h0 a0 a1 ra rb q.2.1 q.2.2.1 q.2.2.2.1 q.2.2.2.2 hm am v hd fd)) (wr := [(ho, .inl (G.2.2.1 2, 1, .inr (.inl fo)))] ++ (wAll G h0 a0 q.2.1 a1 q.2.2.1 ra rb q.2.2.2.1 q.2.2.2.2 ++ [(hd, .inl (G.2.2.1 5, 1, .inr (.inr (.inr (.inl fd)))))])) (lpm3 _ _ _ _) (fun v => (lpm3 _ _ _ _).symm) hl.1 (Nat.le_of_ble_eq_true rfl) hcs dL_law_1194 (fun r9 v9 H locs hw hP hD hS => ?_)
  obtain ⟨hr9, hv9⟩ := hw
  subst hv9
  subst hr9
  have hP : va_P (gD G) vwCl (LW G ho fo h0 a0 a1 ra rb q.2.1 q.2.2.1 q.2.2.2.1 q.2.2.2.2 hm am m9 hd fd) H := hP
  have hD : va_D A (LW G ho fo h0 a0 a1 ra rb q.2.1 q.2.2.1 q.2.2.2.1 q.2.2.2.2 hm am m9 hd fd) := hD
  refine lv_icmp_eq (tgt := 1884) hx hb dL_law_1197 (by decide) (fun _ => ?_) (fun h => absurd rfl h)
  exact kk fo fd q.2.1 q.2.2.1 q.2.2.2.1 q.2.2.2.2 m9 H locs ls hRel9 hP hD hS (lv_sub hl [0, 1, 2, 3, 4, 5] rfl)
def S_dissenting (Rel : Cst → Ob → Prop) (N : Nat) : Prop := ∀ (u0 u1 : Ob) (u2 u3 : Nat → Ob) (mo : Ob), Rel (u0, u1, u2, u3) mo → ∃ q b m9, f_X5_dissenting N u0 u1 u2 u3 = some q ∧ f_X6_dissenting N mo = some (b, m9) ∧ okX 3 3 q.1 b (m9.1 7) ∧ Rel q.2 m9
set_option maxRecDepth 100000 in
set_option maxHeartbeats 4000000 in
theorem w_dissenting {p : Program} {l : Launch} {e : Env} {s : State} {m : MethodId} {args : Array Value} {below : List Frame} {meth : Method} {c : Code} {H : Heap} {locs : List Loc} {cells slots : Nat} {Q : State → Prop} {ls : Array Slot} {A : Nat → Prop} {G : Gp} {b L n : Nat} {xs : Nat → Int32} {ho h0 hm hd : Nat} {fo : Nat → Int64} {fd : Nat → UInt64} {a0 a1 am : Nat → Nat} {ra rb : Nat → Nat → Nat} {u0 u1 mo : Ob} {u2 u3 : Nat → Ob} {Rel : Cst → Ob → Prop} {N : Nat}
    (hst : S_dissenting Rel N) (hRel : Rel (u0, u1, u2, u3) mo) (hC : CallFix p m c code 9 s args lw_g RL) (hlf : l.stackTraces = false) (hX : va_X b L xs s s.heap) (hbl : b < s.heap.size) (hbA : ¬ A b) (hL : L ≤ 3072) (hn : n + 6 ≤ L) (hP : va_P (gD G) vwCl (LW G ho fo h0 a0 a1 ra rb u0 u1 u2 u3 hm am mo hd fd) H) (hK : va_K (gD G) vwCl (gT G) s) (hD : va_D A (LW G ho fo h0 a0 a1 ra rb u0 u1 u2 u3 hm am mo hd fd)) (hE : Ev (gE G) A s) (hS : va_S A s.heap H locs) (hA : ∀ q : Nat, s.heap.size ≤ q → A q) (hl : lv_has ls 9 [(5, .int (Int32.ofNat n)), (4, .ref hd), (3, .ref ho), (2, .ref hm), (1, .ref h0), (0, .ref b)]) (hcs : cells + 1 ≤ 601024 ∧ slots + 6 ≤ 7293034)
    (kk : ∀ (fo' : Nat → Int64) (fd' : Nat → UInt64) (u0 u1 : Ob) (u2 u3 : Nat → Ob) (mo : Ob) (H : Heap) (locs : List Loc) (ls : Array Slot), Rel (u0, u1, u2, u3) mo → va_P (gD G) vwCl (LW G ho fo' h0 a0 a1 ra rb u0 u1 u2 u3 hm am mo hd fd') H → va_D A (LW G ho fo' h0 a0 a1 ra rb u0 u1 u2 u3 hm am mo hd fd') → va_S A s.heap H locs → lv_has ls 9 [(5, .int (Int32.ofNat n)), (4, .ref hd), (3, .ref ho), (2, .ref hm), (1, .ref h0), (0, .ref b)] → W p l e room_1 s m args below meth c H locs (cells + 1) (slots + 6) Q (F0 m 1884 ls [])) :
    W p l e room_1 s m args below meth c H locs cells slots Q (F0 m 1202 ls []) := by
  obtain ⟨hx, hb, hml, hown, hg⟩ := id hC
  obtain ⟨q, b9, m9, e5, e6, hok, hRel9⟩ := hst u0 u1 u2 u3 mo hRel
  skip
  refine lv_aload_n hx hb dL_law_1202 rfl (lv_at hl 4 rfl) ?_
  refine lv_aload_n hx hb dL_law_1203 rfl (lv_at hl 2 rfl) ?_
  refine kH (As := [.ref h0, .ref ho]) (rest := []) hC (c_L_dissenting hlf (G := G) (fo := fo) e5 (okX_hk1 hok)) kq4_99 kc_L_dissenting (by decide) hP hK hD hE hS hA (out := (fun v : (Nat → Int64) × Ob × Ob × (Nat → Ob) × (Nat → Ob) => (LW G ho v.1 h0 a0 a1 ra rb v.2.1 v.2.2.1 v.2.2.2.1 v.2.2.2.2 hm am mo hd fd))) (wr := wX6 G hm am mo ++ [(hd, .inl (G.2.2.1 5, 1, .inr (.inr (.inr (.inl fd)))))]) (lpm1 _ _ _ _) (fun v => (lpm1 _ _ _ _).symm) hl.1 (Nat.le_of_ble_eq_true rfl) hcs dL_law_1204 (fun r9 v9 H locs hw hP hD hS => ?_)
  obtain ⟨hr9, hv9⟩ := hw
  subst hv9
  rw [okX_hc hok] at hr9
  subst hr9
  have hP : va_P (gD G) vwCl (LW G ho (hoI fo q.1) h0 a0 a1 ra rb q.2.1 q.2.2.1 q.2.2.2.1 q.2.2.2.2 hm am mo hd fd) H := hP
  have hD : va_D A (LW G ho (hoI fo q.1) h0 a0 a1 ra rb q.2.1 q.2.2.1 q.2.2.2.1 q.2.2.2.2 hm am mo hd fd) := hD
  refine lv_istore (lv' := [(6, .int (m9.1 7)), (5, .int (Int32.ofNat n)), (4, .ref hd), (3, .ref ho), (2, .ref hm), (1, .ref h0), (0, .ref b)]) hx hb dL_law_1207 hl (by decide) rfl (fun ls hl => ?_)
  refine lv_aload_n hx hb dL_law_1209 rfl (lv_at hl 4 rfl) ?_
  refine kMi (As := []) (rest := []) hC (c_X6_dissenting (G := G) (N := N) e6) kq6_174 kc_X6_dissenting (by decide) 0 (ci := 4) rfl rfl hP hK hD hE hS hA (out := fun v : Ob => (LW G ho (hoI fo q.1) h0 a0 a1 ra rb q.2.1 q.2.2.1 q.2.2.2.1 q.2.2.2.2 hm am v hd fd)) (wr := [(ho, .inl (G.2.2.1 2, 1, .inr (.inl (hoI fo q.1))))] ++ (wAll G h0 a0 q.2.1 a1 q.2.2.1 ra rb q.2.2.2.1 q.2.2.2.2 ++ [(hd, .inl (G.2.2.1 5, 1, .inr (.inr (.inr (.inl fd)))))])) (lpm3 _ _ _ _) (fun v => (lpm3 _ _ _ _).symm) hl.1 (Nat.le_of_ble_eq_true rfl) hcs dL_law_1210 (fun r9 v9 H locs hw hP hD hS => ?_)
  obtain ⟨hr9, hv9⟩ := hw
  subst hv9
  subst hr9
  have hP : va_P (gD G) vwCl (LW G ho (hoI fo q.1) h0 a0 a1 ra rb q.2.1 q.2.2.1 q.2.2.2.1 q.2.2.2.2 hm am m9 hd fd) H := hP
  have hD : va_D A (LW G ho (hoI fo q.1) h0 a0 a1 ra rb q.2.1 q.2.2.1 q.2.2.2.1 q.2.2.2.2 hm am m9 hd fd) := hD
  refine lv_istore (lv' := [(7, .int b9), (6, .int (m9.1 7)), (5, .int (Int32.ofNat n)), (4, .ref hd), (3, .ref ho), (2, .ref hm), (1, .ref h0), (0, .ref b)]) hx hb dL_law_1213 hl (by decide) rfl (fun ls hl => ?_)
  refine lv_aload_n hx hb dL_law_1215 rfl (lv_at hl 5 rfl) ?_
  refine kMi (As := []) (rest := []) hC (c_X6_thrown (G := G) (N := N) (q := m9.1 7) rfl) kq5_72 kc_X6_thrown (by decide) 0 (ci := 4) rfl rfl hP hK hD hE hS hA (out := fun v : Ob => (LW G ho (hoI fo q.1) h0 a0 a1 ra rb q.2.1 q.2.2.1 q.2.2.2.1 q.2.2.2.2 hm am v hd fd)) (wr := [(ho, .inl (G.2.2.1 2, 1, .inr (.inl (hoI fo q.1))))] ++ (wAll G h0 a0 q.2.1 a1 q.2.2.1 ra rb q.2.2.2.1 q.2.2.2.2 ++ [(hd, .inl (G.2.2.1 5, 1, .inr (.inr (.inr (.inl fd)))))])) (lpm3 _ _ _ _) (fun v => (lpm3 _ _ _ _).symm) hl.1 (Nat.le_of_ble_eq_true rfl) hcs dL_law_1216 (fun r9 v9 H locs hw hP hD hS => ?_)
  obtain ⟨hr9, hv9⟩ := hw
  subst hv9
  subst hr9
  have hP : va_P (gD G) vwCl (LW G ho (hoI fo q.1) h0 a0 a1 ra rb q.2.1 q.2.2.1 q.2.2.2.1 q.2.2.2.2 hm am m9 hd fd) H := hP
  have hD : va_D A (LW G ho (hoI fo q.1) h0 a0 a1 ra rb q.2.1 q.2.2.1 q.2.2.2.1 q.2.2.2.2 hm am m9 hd fd) := hD
  refine lv_iload hx hb dL_law_1219 (lv_at hl 1 rfl) ?_
  refine lv_icmp_eq (tgt := 1226) hx hb dL_law_1221 (by decide) (fun _ => ?_) (fun h => absurd rfl h)
  refine lv_iload hx hb dL_law_1226 (lv_at hl 1 rfl) ?_
  refine lv_if_ne (tgt := 1243) hx hb dL_law_1228 (by decide) (fun h9 => ?_) (fun h9 => ?_)
  · skip
    refine lv_goto (tgt := 1884) hx hb dL_law_1243 (by decide) ?_
    exact kk (hoI fo q.1) fd q.2.1 q.2.2.1 q.2.2.2.1 q.2.2.2.2 m9 H locs ls hRel9 hP hD hS (lv_sub hl [2, 3, 4, 5, 6, 7] rfl)
  · have hq := okX_r hok ((okX_hc hok).trans h9)
    refine lv_aload_n hx hb dL_law_1231 rfl (lv_at hl 4 rfl) ?_
    refine lv_iconst (v := (0 : Int32)) hx hb dL_law_1232 (by decide) ?_
    refine va_lald (f := (hoI fo q.1)) hx hb hK hP 0 2 rfl rfl (vin (by decide)) dL_law_1233 ?_
    have hv : (hoI fo q.1) (0 : Int32).toNatClampNeg = b9.toInt64 := by rw [hq]; rfl
    rw [hv]
    refine lv_iload hx hb dL_law_1234 (lv_at hl 0 rfl) ?_
    refine lv_i2l (v := b9.toInt64) hx hb dL_law_1236 rfl ?_
    refine lc_eq (tgt := 1243) hx hb dL_law_1237 dL_law_1238 (by decide) (fun _ => ?_) (fun h => absurd rfl h)
    refine lv_goto (tgt := 1884) hx hb dL_law_1243 (by decide) ?_
    exact kk (hoI fo q.1) fd q.2.1 q.2.2.1 q.2.2.2.1 q.2.2.2.2 m9 H locs ls hRel9 hP hD hS (lv_sub hl [2, 3, 4, 5, 6, 7] rfl)
def S_weakest (Rel : Cst → Ob → Prop) (N : Nat) : Prop := ∀ (u0 u1 : Ob) (u2 u3 : Nat → Ob) (mo : Ob), Rel (u0, u1, u2, u3) mo → ∃ q b m9, f_X5_weakest N u0 u1 u2 u3 = some q ∧ f_X6_weakest N mo = some (b, m9) ∧ q = b ∧ Rel (u0, u1, u2, u3) m9
set_option maxRecDepth 100000 in
set_option maxHeartbeats 4000000 in
theorem w_weakest {p : Program} {l : Launch} {e : Env} {s : State} {m : MethodId} {args : Array Value} {below : List Frame} {meth : Method} {c : Code} {H : Heap} {locs : List Loc} {cells slots : Nat} {Q : State → Prop} {ls : Array Slot} {A : Nat → Prop} {G : Gp} {b L n : Nat} {xs : Nat → Int32} {ho h0 hm hd : Nat} {fo : Nat → Int64} {fd : Nat → UInt64} {a0 a1 am : Nat → Nat} {ra rb : Nat → Nat → Nat} {u0 u1 mo : Ob} {u2 u3 : Nat → Ob} {Rel : Cst → Ob → Prop} {N : Nat}
    (hst : S_weakest Rel N) (hRel : Rel (u0, u1, u2, u3) mo) (hC : CallFix p m c code 9 s args lw_g RL) (hlf : l.stackTraces = false) (hX : va_X b L xs s s.heap) (hbl : b < s.heap.size) (hbA : ¬ A b) (hL : L ≤ 3072) (hn : n + 6 ≤ L) (hP : va_P (gD G) vwCl (LW G ho fo h0 a0 a1 ra rb u0 u1 u2 u3 hm am mo hd fd) H) (hK : va_K (gD G) vwCl (gT G) s) (hD : va_D A (LW G ho fo h0 a0 a1 ra rb u0 u1 u2 u3 hm am mo hd fd)) (hE : Ev (gE G) A s) (hS : va_S A s.heap H locs) (hA : ∀ q : Nat, s.heap.size ≤ q → A q) (hl : lv_has ls 9 [(5, .int (Int32.ofNat n)), (4, .ref hd), (3, .ref ho), (2, .ref hm), (1, .ref h0), (0, .ref b)]) (hcs : cells + 1 ≤ 601024 ∧ slots + 6 ≤ 7293034)
    (kk : ∀ (fo' : Nat → Int64) (fd' : Nat → UInt64) (u0 u1 : Ob) (u2 u3 : Nat → Ob) (mo : Ob) (H : Heap) (locs : List Loc) (ls : Array Slot), Rel (u0, u1, u2, u3) mo → va_P (gD G) vwCl (LW G ho fo' h0 a0 a1 ra rb u0 u1 u2 u3 hm am mo hd fd') H → va_D A (LW G ho fo' h0 a0 a1 ra rb u0 u1 u2 u3 hm am mo hd fd') → va_S A s.heap H locs → lv_has ls 9 [(5, .int (Int32.ofNat n)), (4, .ref hd), (3, .ref ho), (2, .ref hm), (1, .ref h0), (0, .ref b)] → W p l e room_1 s m args below meth c H locs (cells + 1) (slots + 6) Q (F0 m 1884 ls [])) :
    W p l e room_1 s m args below meth c H locs cells slots Q (F0 m 1246 ls []) := by
  obtain ⟨hx, hb, hml, hown, hg⟩ := id hC
  obtain ⟨q, b9, m9, e5, e6, hok, hRel9⟩ := hst u0 u1 u2 u3 mo hRel
  skip
  refine lv_aload_n hx hb dL_law_1246 rfl (lv_at hl 4 rfl) ?_
  refine W.widen (k := cells + 1) (n := slots + 6) (by omega) (by omega) ?_
  refine kMi (As := []) (rest := []) hC (c_X5_weakest (G := G) e5) kq2_73 kc_X5_weakest (by decide) 0 (ci := 3) rfl rfl hP hK hD hE hS hA (out := (fun v : Ob × Ob × (Nat → Ob) × (Nat → Ob) => (LW G ho fo h0 a0 a1 ra rb v.1 v.2.1 v.2.2.1 v.2.2.2 hm am mo hd fd))) (wr := [(ho, .inl (G.2.2.1 2, 1, .inr (.inl fo)))] ++ (wX6 G hm am mo ++ [(hd, .inl (G.2.2.1 5, 1, .inr (.inr (.inr (.inl fd)))))])) (lpm0 _ _ _) (fun v => (lpm0 _ _ _).symm) hl.1 (Nat.le_of_ble_eq_true rfl) hcs dL_law_1247 (fun r9 v9 H locs hw hP hD hS => ?_)
  obtain ⟨hr9, hv9⟩ := hw
  subst hv9
  rw [hok] at hr9
  subst hr9
  have hP : va_P (gD G) vwCl (LW G ho fo h0 a0 a1 ra rb u0 u1 u2 u3 hm am mo hd fd) H := hP
  have hD : va_D A (LW G ho fo h0 a0 a1 ra rb u0 u1 u2 u3 hm am mo hd fd) := hD
  refine lv_aload_n hx hb dL_law_1250 rfl (lv_at hl 3 rfl) ?_
  refine kMi (As := []) (rest := [.int b9]) hC (c_X6_weakest (G := G) (N := N) e6) kq6_130 kc_X6_weakest (by decide) 0 (ci := 4) rfl rfl hP hK hD hE hS hA (out := fun v : Ob => (LW G ho fo h0 a0 a1 ra rb u0 u1 u2 u3 hm am v hd fd)) (wr := [(ho, .inl (G.2.2.1 2, 1, .inr (.inl fo)))] ++ (wAll G h0 a0 u0 a1 u1 ra rb u2 u3 ++ [(hd, .inl (G.2.2.1 5, 1, .inr (.inr (.inr (.inl fd)))))])) (lpm3 _ _ _ _) (fun v => (lpm3 _ _ _ _).symm) hl.1 (Nat.le_of_ble_eq_true rfl) hcs dL_law_1251 (fun r9 v9 H locs hw hP hD hS => ?_)
  obtain ⟨hr9, hv9⟩ := hw
  subst hv9
  subst hr9
  have hP : va_P (gD G) vwCl (LW G ho fo h0 a0 a1 ra rb u0 u1 u2 u3 hm am m9 hd fd) H := hP
  have hD : va_D A (LW G ho fo h0 a0 a1 ra rb u0 u1 u2 u3 hm am m9 hd fd) := hD
  refine lv_icmp_eq (tgt := 1884) hx hb dL_law_1254 (by decide) (fun _ => ?_) (fun h => absurd rfl h)
  exact kk fo fd u0 u1 u2 u3 m9 H locs ls hRel9 hP hD hS (lv_sub hl [0, 1, 2, 3, 4, 5] rfl)
def S_fix (Rel : Cst → Ob → Prop) (N : Nat) : Prop := ∀ (u0 u1 : Ob) (u2 u3 : Nat → Ob) (mo : Ob), Rel (u0, u1, u2, u3) mo → ∀ (x1 : Int32) (x2 : Int32), ∃ q b m9, f_X5_fix N x1 x2 u0 u1 u2 u3 = some q ∧ f_X6_fix N x1 x2 mo = some (b, m9) ∧ okX 2 1 q.1 b (m9.1 7) ∧ Rel q.2 m9
set_option maxRecDepth 100000 in
set_option maxHeartbeats 4000000 in
theorem w_fix {p : Program} {l : Launch} {e : Env} {s : State} {m : MethodId} {args : Array Value} {below : List Frame} {meth : Method} {c : Code} {H : Heap} {locs : List Loc} {cells slots : Nat} {Q : State → Prop} {ls : Array Slot} {A : Nat → Prop} {G : Gp} {b L n : Nat} {xs : Nat → Int32} {ho h0 hm hd : Nat} {fo : Nat → Int64} {fd : Nat → UInt64} {a0 a1 am : Nat → Nat} {ra rb : Nat → Nat → Nat} {u0 u1 mo : Ob} {u2 u3 : Nat → Ob} {Rel : Cst → Ob → Prop} {N : Nat}
    (hst : S_fix Rel N) (hRel : Rel (u0, u1, u2, u3) mo) (hC : CallFix p m c code 9 s args lw_g RL) (hlf : l.stackTraces = false) (hX : va_X b L xs s s.heap) (hbl : b < s.heap.size) (hbA : ¬ A b) (hL : L ≤ 3072) (hn : n + 6 ≤ L) (hP : va_P (gD G) vwCl (LW G ho fo h0 a0 a1 ra rb u0 u1 u2 u3 hm am mo hd fd) H) (hK : va_K (gD G) vwCl (gT G) s) (hD : va_D A (LW G ho fo h0 a0 a1 ra rb u0 u1 u2 u3 hm am mo hd fd)) (hE : Ev (gE G) A s) (hS : va_S A s.heap H locs) (hA : ∀ q : Nat, s.heap.size ≤ q → A q) (hl : lv_has ls 9 [(5, .int (Int32.ofNat n)), (4, .ref hd), (3, .ref ho), (2, .ref hm), (1, .ref h0), (0, .ref b)]) (hcs : cells + 1 ≤ 601024 ∧ slots + 6 ≤ 7293034)
    (kk : ∀ (fo' : Nat → Int64) (fd' : Nat → UInt64) (u0 u1 : Ob) (u2 u3 : Nat → Ob) (mo : Ob) (H : Heap) (locs : List Loc) (ls : Array Slot), Rel (u0, u1, u2, u3) mo → va_P (gD G) vwCl (LW G ho fo' h0 a0 a1 ra rb u0 u1 u2 u3 hm am mo hd fd') H → va_D A (LW G ho fo' h0 a0 a1 ra rb u0 u1 u2 u3 hm am mo hd fd') → va_S A s.heap H locs → lv_has ls 9 [(5, .int (Int32.ofNat n)), (4, .ref hd), (3, .ref ho), (2, .ref hm), (1, .ref h0), (0, .ref b)] → W p l e room_1 s m args below meth c H locs (cells + 1) (slots + 6) Q (F0 m 1884 ls [])) :
    W p l e room_1 s m args below meth c H locs cells slots Q (F0 m 1259 ls []) := by
  obtain ⟨hx, hb, hml, hown, hg⟩ := id hC
  obtain ⟨q, b9, m9, e5, e6, hok, hRel9⟩ := hst u0 u1 u2 u3 mo hRel (xs (n + 1)) (xs (n + 2))
  skip
  refine lv_aload_n hx hb dL_law_1259 rfl (lv_at hl 4 rfl) ?_
  refine sc (k := 1) (kI := 1) 5 0 (by decide) hx hb hX hbl hbA hS hl rfl rfl (by omega) hL dL_law_1260 dL_law_1261 dL_law_1263 dL_law_1264 dL_law_1265 ?_
  refine sc (k := 2) (kI := 2) 5 0 (by decide) hx hb hX hbl hbA hS hl rfl rfl (by omega) hL dL_law_1266 dL_law_1267 dL_law_1269 dL_law_1270 dL_law_1271 ?_
  refine lv_aload_n hx hb dL_law_1272 rfl (lv_at hl 2 rfl) ?_
  refine kH (As := [.ref h0, .int (xs (n + 1)), .int (xs (n + 2)), .ref ho]) (rest := []) hC (c_L_fix hlf (G := G) (fo := fo) e5 (okX_hk hok)) kq4_107 kc_L_fix (by decide) hP hK hD hE hS hA (out := (fun v : (Nat → Int64) × Ob × Ob × (Nat → Ob) × (Nat → Ob) => (LW G ho v.1 h0 a0 a1 ra rb v.2.1 v.2.2.1 v.2.2.2.1 v.2.2.2.2 hm am mo hd fd))) (wr := wX6 G hm am mo ++ [(hd, .inl (G.2.2.1 5, 1, .inr (.inr (.inr (.inl fd)))))]) (lpm1 _ _ _ _) (fun v => (lpm1 _ _ _ _).symm) hl.1 (Nat.le_of_ble_eq_true rfl) hcs dL_law_1273 (fun r9 v9 H locs hw hP hD hS => ?_)
  obtain ⟨hr9, hv9⟩ := hw
  subst hv9
  rw [okX_hc hok] at hr9
  subst hr9
  have hP : va_P (gD G) vwCl (LW G ho (hoI fo q.1) h0 a0 a1 ra rb q.2.1 q.2.2.1 q.2.2.2.1 q.2.2.2.2 hm am mo hd fd) H := hP
  have hD : va_D A (LW G ho (hoI fo q.1) h0 a0 a1 ra rb q.2.1 q.2.2.1 q.2.2.2.1 q.2.2.2.2 hm am mo hd fd) := hD
  refine lv_istore (lv' := [(6, .int (m9.1 7)), (5, .int (Int32.ofNat n)), (4, .ref hd), (3, .ref ho), (2, .ref hm), (1, .ref h0), (0, .ref b)]) hx hb dL_law_1276 hl (by decide) rfl (fun ls hl => ?_)
  refine lv_aload_n hx hb dL_law_1278 rfl (lv_at hl 4 rfl) ?_
  refine sc (k := 1) (kI := 1) 6 1 (by decide) hx hb hX hbl hbA hS hl rfl rfl (by omega) hL dL_law_1279 dL_law_1280 dL_law_1282 dL_law_1283 dL_law_1284 ?_
  refine sc (k := 2) (kI := 2) 6 1 (by decide) hx hb hX hbl hbA hS hl rfl rfl (by omega) hL dL_law_1285 dL_law_1286 dL_law_1288 dL_law_1289 dL_law_1290 ?_
  refine kMi (As := [.int (xs (n + 1)), .int (xs (n + 2))]) (rest := []) hC (c_X6_fix (G := G) (N := N) e6) kq6_178 kc_X6_fix (by decide) 0 (ci := 4) rfl rfl hP hK hD hE hS hA (out := fun v : Ob => (LW G ho (hoI fo q.1) h0 a0 a1 ra rb q.2.1 q.2.2.1 q.2.2.2.1 q.2.2.2.2 hm am v hd fd)) (wr := [(ho, .inl (G.2.2.1 2, 1, .inr (.inl (hoI fo q.1))))] ++ (wAll G h0 a0 q.2.1 a1 q.2.2.1 ra rb q.2.2.2.1 q.2.2.2.2 ++ [(hd, .inl (G.2.2.1 5, 1, .inr (.inr (.inr (.inl fd)))))])) (lpm3 _ _ _ _) (fun v => (lpm3 _ _ _ _).symm) hl.1 (Nat.le_of_ble_eq_true rfl) hcs dL_law_1291 (fun r9 v9 H locs hw hP hD hS => ?_)
  obtain ⟨hr9, hv9⟩ := hw
  subst hv9
  subst hr9
  have hP : va_P (gD G) vwCl (LW G ho (hoI fo q.1) h0 a0 a1 ra rb q.2.1 q.2.2.1 q.2.2.2.1 q.2.2.2.2 hm am m9 hd fd) H := hP
  have hD : va_D A (LW G ho (hoI fo q.1) h0 a0 a1 ra rb q.2.1 q.2.2.1 q.2.2.2.1 q.2.2.2.2 hm am m9 hd fd) := hD
  refine lv_istore (lv' := [(7, .int b9), (6, .int (m9.1 7)), (5, .int (Int32.ofNat n)), (4, .ref hd), (3, .ref ho), (2, .ref hm), (1, .ref h0), (0, .ref b)]) hx hb dL_law_1294 hl (by decide) rfl (fun ls hl => ?_)
  refine lv_aload_n hx hb dL_law_1296 rfl (lv_at hl 5 rfl) ?_
  refine kMi (As := []) (rest := []) hC (c_X6_thrown (G := G) (N := N) (q := m9.1 7) rfl) kq5_72 kc_X6_thrown (by decide) 0 (ci := 4) rfl rfl hP hK hD hE hS hA (out := fun v : Ob => (LW G ho (hoI fo q.1) h0 a0 a1 ra rb q.2.1 q.2.2.1 q.2.2.2.1 q.2.2.2.2 hm am v hd fd)) (wr := [(ho, .inl (G.2.2.1 2, 1, .inr (.inl (hoI fo q.1))))] ++ (wAll G h0 a0 q.2.1 a1 q.2.2.1 ra rb q.2.2.2.1 q.2.2.2.2 ++ [(hd, .inl (G.2.2.1 5, 1, .inr (.inr (.inr (.inl fd)))))])) (lpm3 _ _ _ _) (fun v => (lpm3 _ _ _ _).symm) hl.1 (Nat.le_of_ble_eq_true rfl) hcs dL_law_1297 (fun r9 v9 H locs hw hP hD hS => ?_)
  obtain ⟨hr9, hv9⟩ := hw
  subst hv9
  subst hr9
  have hP : va_P (gD G) vwCl (LW G ho (hoI fo q.1) h0 a0 a1 ra rb q.2.1 q.2.2.1 q.2.2.2.1 q.2.2.2.2 hm am m9 hd fd) H := hP
  have hD : va_D A (LW G ho (hoI fo q.1) h0 a0 a1 ra rb q.2.1 q.2.2.1 q.2.2.2.1 q.2.2.2.2 hm am m9 hd fd) := hD
  refine lv_iload hx hb dL_law_1300 (lv_at hl 1 rfl) ?_
  refine lv_icmp_eq (tgt := 1307) hx hb dL_law_1302 (by decide) (fun _ => ?_) (fun h => absurd rfl h)
  refine lv_iload hx hb dL_law_1307 (lv_at hl 1 rfl) ?_
  refine lv_if_ne (tgt := 1324) hx hb dL_law_1309 (by decide) (fun h9 => ?_) (fun h9 => ?_)
  · skip
    refine lv_goto (tgt := 1884) hx hb dL_law_1324 (by decide) ?_
    exact kk (hoI fo q.1) fd q.2.1 q.2.2.1 q.2.2.2.1 q.2.2.2.2 m9 H locs ls hRel9 hP hD hS (lv_sub hl [2, 3, 4, 5, 6, 7] rfl)
  · have hq := okX_r hok ((okX_hc hok).trans h9)
    refine lv_aload_n hx hb dL_law_1312 rfl (lv_at hl 4 rfl) ?_
    refine lv_iconst (v := (0 : Int32)) hx hb dL_law_1313 (by decide) ?_
    refine va_lald (f := (hoI fo q.1)) hx hb hK hP 0 2 rfl rfl (vin (by decide)) dL_law_1314 ?_
    have hv : (hoI fo q.1) (0 : Int32).toNatClampNeg = b9.toInt64 := by rw [hq]; rfl
    rw [hv]
    refine lv_iload hx hb dL_law_1315 (lv_at hl 0 rfl) ?_
    refine lv_i2l (v := b9.toInt64) hx hb dL_law_1317 rfl ?_
    refine lc_eq (tgt := 1324) hx hb dL_law_1318 dL_law_1319 (by decide) (fun _ => ?_) (fun h => absurd rfl h)
    refine lv_goto (tgt := 1884) hx hb dL_law_1324 (by decide) ?_
    exact kk (hoI fo q.1) fd q.2.1 q.2.2.1 q.2.2.2.1 q.2.2.2.2 m9 H locs ls hRel9 hP hD hS (lv_sub hl [2, 3, 4, 5, 6, 7] rfl)
def S_clock (Rel : Cst → Ob → Prop) (N : Nat) : Prop := ∀ (u0 u1 : Ob) (u2 u3 : Nat → Ob) (mo : Ob), Rel (u0, u1, u2, u3) mo → ∀ (x1 : Int32), ∃ q b m9, f_X5_clock N x1 u0 u1 u2 u3 = some q ∧ f_X6_clock N x1 mo = some (b, m9) ∧ okX 1 3 q.1 b (m9.1 7) ∧ Rel q.2 m9
set_option maxRecDepth 100000 in
set_option maxHeartbeats 4000000 in
theorem w_clock {p : Program} {l : Launch} {e : Env} {s : State} {m : MethodId} {args : Array Value} {below : List Frame} {meth : Method} {c : Code} {H : Heap} {locs : List Loc} {cells slots : Nat} {Q : State → Prop} {ls : Array Slot} {A : Nat → Prop} {G : Gp} {b L n : Nat} {xs : Nat → Int32} {ho h0 hm hd : Nat} {fo : Nat → Int64} {fd : Nat → UInt64} {a0 a1 am : Nat → Nat} {ra rb : Nat → Nat → Nat} {u0 u1 mo : Ob} {u2 u3 : Nat → Ob} {Rel : Cst → Ob → Prop} {N : Nat}
    (hst : S_clock Rel N) (hRel : Rel (u0, u1, u2, u3) mo) (hC : CallFix p m c code 9 s args lw_g RL) (hlf : l.stackTraces = false) (hX : va_X b L xs s s.heap) (hbl : b < s.heap.size) (hbA : ¬ A b) (hL : L ≤ 3072) (hn : n + 6 ≤ L) (hP : va_P (gD G) vwCl (LW G ho fo h0 a0 a1 ra rb u0 u1 u2 u3 hm am mo hd fd) H) (hK : va_K (gD G) vwCl (gT G) s) (hD : va_D A (LW G ho fo h0 a0 a1 ra rb u0 u1 u2 u3 hm am mo hd fd)) (hE : Ev (gE G) A s) (hS : va_S A s.heap H locs) (hA : ∀ q : Nat, s.heap.size ≤ q → A q) (hl : lv_has ls 9 [(5, .int (Int32.ofNat n)), (4, .ref hd), (3, .ref ho), (2, .ref hm), (1, .ref h0), (0, .ref b)]) (hcs : cells + 1 ≤ 601024 ∧ slots + 6 ≤ 7293034)
    (kk : ∀ (fo' : Nat → Int64) (fd' : Nat → UInt64) (u0 u1 : Ob) (u2 u3 : Nat → Ob) (mo : Ob) (H : Heap) (locs : List Loc) (ls : Array Slot), Rel (u0, u1, u2, u3) mo → va_P (gD G) vwCl (LW G ho fo' h0 a0 a1 ra rb u0 u1 u2 u3 hm am mo hd fd') H → va_D A (LW G ho fo' h0 a0 a1 ra rb u0 u1 u2 u3 hm am mo hd fd') → va_S A s.heap H locs → lv_has ls 9 [(5, .int (Int32.ofNat n)), (4, .ref hd), (3, .ref ho), (2, .ref hm), (1, .ref h0), (0, .ref b)] → W p l e room_1 s m args below meth c H locs (cells + 1) (slots + 6) Q (F0 m 1884 ls [])) :
    W p l e room_1 s m args below meth c H locs cells slots Q (F0 m 1327 ls []) := by
  obtain ⟨hx, hb, hml, hown, hg⟩ := id hC
  obtain ⟨q, b9, m9, e5, e6, hok, hRel9⟩ := hst u0 u1 u2 u3 mo hRel (xs (n + 1))
  skip
  refine lv_aload_n hx hb dL_law_1327 rfl (lv_at hl 4 rfl) ?_
  refine sc (k := 1) (kI := 1) 5 0 (by decide) hx hb hX hbl hbA hS hl rfl rfl (by omega) hL dL_law_1328 dL_law_1329 dL_law_1331 dL_law_1332 dL_law_1333 ?_
  refine lv_aload_n hx hb dL_law_1334 rfl (lv_at hl 2 rfl) ?_
  refine kH (As := [.ref h0, .int (xs (n + 1)), .ref ho]) (rest := []) hC (c_L_clock hlf (G := G) (fo := fo) e5 (okX_hk hok)) kq4_116 kc_L_clock (by decide) hP hK hD hE hS hA (out := (fun v : (Nat → Int64) × Ob × Ob × (Nat → Ob) × (Nat → Ob) => (LW G ho v.1 h0 a0 a1 ra rb v.2.1 v.2.2.1 v.2.2.2.1 v.2.2.2.2 hm am mo hd fd))) (wr := wX6 G hm am mo ++ [(hd, .inl (G.2.2.1 5, 1, .inr (.inr (.inr (.inl fd)))))]) (lpm1 _ _ _ _) (fun v => (lpm1 _ _ _ _).symm) hl.1 (Nat.le_of_ble_eq_true rfl) hcs dL_law_1335 (fun r9 v9 H locs hw hP hD hS => ?_)
  obtain ⟨hr9, hv9⟩ := hw
  subst hv9
  rw [okX_hc hok] at hr9
  subst hr9
  have hP : va_P (gD G) vwCl (LW G ho (hoL fo q.1) h0 a0 a1 ra rb q.2.1 q.2.2.1 q.2.2.2.1 q.2.2.2.2 hm am mo hd fd) H := hP
  have hD : va_D A (LW G ho (hoL fo q.1) h0 a0 a1 ra rb q.2.1 q.2.2.1 q.2.2.2.1 q.2.2.2.2 hm am mo hd fd) := hD
  refine lv_istore (lv' := [(6, .int (m9.1 7)), (5, .int (Int32.ofNat n)), (4, .ref hd), (3, .ref ho), (2, .ref hm), (1, .ref h0), (0, .ref b)]) hx hb dL_law_1338 hl (by decide) rfl (fun ls hl => ?_)
  refine lv_aload_n hx hb dL_law_1340 rfl (lv_at hl 4 rfl) ?_
  refine sc (k := 1) (kI := 1) 6 1 (by decide) hx hb hX hbl hbA hS hl rfl rfl (by omega) hL dL_law_1341 dL_law_1342 dL_law_1344 dL_law_1345 dL_law_1346 ?_
  refine kMl (As := [.int (xs (n + 1))]) (rest := []) hC (c_X6_clock (G := G) (N := N) e6) kq6_182 kc_X6_clock (by decide) 0 (ci := 4) rfl rfl hP hK hD hE hS hA (out := fun v : Ob => (LW G ho (hoL fo q.1) h0 a0 a1 ra rb q.2.1 q.2.2.1 q.2.2.2.1 q.2.2.2.2 hm am v hd fd)) (wr := [(ho, .inl (G.2.2.1 2, 1, .inr (.inl (hoL fo q.1))))] ++ (wAll G h0 a0 q.2.1 a1 q.2.2.1 ra rb q.2.2.2.1 q.2.2.2.2 ++ [(hd, .inl (G.2.2.1 5, 1, .inr (.inr (.inr (.inl fd)))))])) (lpm3 _ _ _ _) (fun v => (lpm3 _ _ _ _).symm) hl.1 (Nat.le_of_ble_eq_true rfl) hcs dL_law_1347 (fun r9 v9 H locs hw hP hD hS => ?_)
  obtain ⟨hr9, hv9⟩ := hw
  subst hv9
  subst hr9
  have hP : va_P (gD G) vwCl (LW G ho (hoL fo q.1) h0 a0 a1 ra rb q.2.1 q.2.2.1 q.2.2.2.1 q.2.2.2.2 hm am m9 hd fd) H := hP
  have hD : va_D A (LW G ho (hoL fo q.1) h0 a0 a1 ra rb q.2.1 q.2.2.1 q.2.2.2.1 q.2.2.2.2 hm am m9 hd fd) := hD
  refine lv_lstore (lv' := [(7, .long b9), (6, .int (m9.1 7)), (5, .int (Int32.ofNat n)), (4, .ref hd), (3, .ref ho), (2, .ref hm), (1, .ref h0), (0, .ref b)]) hx hb dL_law_1350 hl (by decide) rfl (fun ls hl => ?_)
  refine lv_aload_n hx hb dL_law_1352 rfl (lv_at hl 5 rfl) ?_
  refine kMi (As := []) (rest := []) hC (c_X6_thrown (G := G) (N := N) (q := m9.1 7) rfl) kq5_72 kc_X6_thrown (by decide) 0 (ci := 4) rfl rfl hP hK hD hE hS hA (out := fun v : Ob => (LW G ho (hoL fo q.1) h0 a0 a1 ra rb q.2.1 q.2.2.1 q.2.2.2.1 q.2.2.2.2 hm am v hd fd)) (wr := [(ho, .inl (G.2.2.1 2, 1, .inr (.inl (hoL fo q.1))))] ++ (wAll G h0 a0 q.2.1 a1 q.2.2.1 ra rb q.2.2.2.1 q.2.2.2.2 ++ [(hd, .inl (G.2.2.1 5, 1, .inr (.inr (.inr (.inl fd)))))])) (lpm3 _ _ _ _) (fun v => (lpm3 _ _ _ _).symm) hl.1 (Nat.le_of_ble_eq_true rfl) hcs dL_law_1353 (fun r9 v9 H locs hw hP hD hS => ?_)
  obtain ⟨hr9, hv9⟩ := hw
  subst hv9
  subst hr9
  have hP : va_P (gD G) vwCl (LW G ho (hoL fo q.1) h0 a0 a1 ra rb q.2.1 q.2.2.1 q.2.2.2.1 q.2.2.2.2 hm am m9 hd fd) H := hP
  have hD : va_D A (LW G ho (hoL fo q.1) h0 a0 a1 ra rb q.2.1 q.2.2.1 q.2.2.2.1 q.2.2.2.2 hm am m9 hd fd) := hD
  refine lv_iload hx hb dL_law_1356 (lv_at hl 1 rfl) ?_
  refine lv_icmp_eq (tgt := 1363) hx hb dL_law_1358 (by decide) (fun _ => ?_) (fun h => absurd rfl h)
  refine lv_iload hx hb dL_law_1363 (lv_at hl 1 rfl) ?_
  refine lv_if_ne (tgt := 1379) hx hb dL_law_1365 (by decide) (fun h9 => ?_) (fun h9 => ?_)
  · skip
    refine lv_goto (tgt := 1884) hx hb dL_law_1379 (by decide) ?_
    exact kk (hoL fo q.1) fd q.2.1 q.2.2.1 q.2.2.2.1 q.2.2.2.2 m9 H locs ls hRel9 hP hD hS (lv_sub hl [2, 3, 4, 5, 6, 7] rfl)
  · have hq := okX_r hok ((okX_hc hok).trans h9)
    refine lv_aload_n hx hb dL_law_1368 rfl (lv_at hl 4 rfl) ?_
    refine lv_iconst (v := (0 : Int32)) hx hb dL_law_1369 (by decide) ?_
    refine va_lald (f := (hoL fo q.1)) hx hb hK hP 0 2 rfl rfl (vin (by decide)) dL_law_1370 ?_
    have hv : (hoL fo q.1) (0 : Int32).toNatClampNeg = b9 := by rw [hq]; rfl
    rw [hv]
    refine lv_lload hx hb dL_law_1371 (lv_at hl 0 rfl) ?_
    refine lc_eq (tgt := 1379) hx hb dL_law_1373 dL_law_1374 (by decide) (fun _ => ?_) (fun h => absurd rfl h)
    refine lv_goto (tgt := 1884) hx hb dL_law_1379 (by decide) ?_
    exact kk (hoL fo q.1) fd q.2.1 q.2.2.1 q.2.2.2.1 q.2.2.2.2 m9 H locs ls hRel9 hP hD hS (lv_sub hl [2, 3, 4, 5, 6, 7] rfl)
def S_deviation (Rel : Cst → Ob → Prop) (N : Nat) : Prop := ∀ (u0 u1 : Ob) (u2 u3 : Nat → Ob) (mo : Ob), Rel (u0, u1, u2, u3) mo → ∃ q b m9, f_X5_deviation N u0 u1 u2 u3 = some q ∧ f_X6_deviation N mo = some (b, m9) ∧ okX 3 3 q.1 b (m9.1 7) ∧ Rel q.2 m9 ∧ (∀ r, q.1 = .inr r → vf_n64 (FP.f2d r) ∧ FP.dcmp (FP.f2d r) (FP.f2d r) = some .eq)
set_option maxRecDepth 100000 in
set_option maxHeartbeats 4000000 in
theorem w_deviation {p : Program} {l : Launch} {e : Env} {s : State} {m : MethodId} {args : Array Value} {below : List Frame} {meth : Method} {c : Code} {H : Heap} {locs : List Loc} {cells slots : Nat} {Q : State → Prop} {ls : Array Slot} {A : Nat → Prop} {G : Gp} {b L n : Nat} {xs : Nat → Int32} {ho h0 hm hd : Nat} {fo : Nat → Int64} {fd : Nat → UInt64} {a0 a1 am : Nat → Nat} {ra rb : Nat → Nat → Nat} {u0 u1 mo : Ob} {u2 u3 : Nat → Ob} {Rel : Cst → Ob → Prop} {N : Nat}
    (hst : S_deviation Rel N) (hRel : Rel (u0, u1, u2, u3) mo) (hC : CallFix p m c code 9 s args lw_g RL) (hlf : l.stackTraces = false) (hX : va_X b L xs s s.heap) (hbl : b < s.heap.size) (hbA : ¬ A b) (hL : L ≤ 3072) (hn : n + 6 ≤ L) (hP : va_P (gD G) vwCl (LW G ho fo h0 a0 a1 ra rb u0 u1 u2 u3 hm am mo hd fd) H) (hK : va_K (gD G) vwCl (gT G) s) (hD : va_D A (LW G ho fo h0 a0 a1 ra rb u0 u1 u2 u3 hm am mo hd fd)) (hE : Ev (gE G) A s) (hS : va_S A s.heap H locs) (hA : ∀ q : Nat, s.heap.size ≤ q → A q) (hl : lv_has ls 9 [(5, .int (Int32.ofNat n)), (4, .ref hd), (3, .ref ho), (2, .ref hm), (1, .ref h0), (0, .ref b)]) (hcs : cells + 1 ≤ 601024 ∧ slots + 6 ≤ 7293034)
    (kk : ∀ (fo' : Nat → Int64) (fd' : Nat → UInt64) (u0 u1 : Ob) (u2 u3 : Nat → Ob) (mo : Ob) (H : Heap) (locs : List Loc) (ls : Array Slot), Rel (u0, u1, u2, u3) mo → va_P (gD G) vwCl (LW G ho fo' h0 a0 a1 ra rb u0 u1 u2 u3 hm am mo hd fd') H → va_D A (LW G ho fo' h0 a0 a1 ra rb u0 u1 u2 u3 hm am mo hd fd') → va_S A s.heap H locs → lv_has ls 9 [(5, .int (Int32.ofNat n)), (4, .ref hd), (3, .ref ho), (2, .ref hm), (1, .ref h0), (0, .ref b)] → W p l e room_1 s m args below meth c H locs (cells + 1) (slots + 6) Q (F0 m 1884 ls [])) :
    W p l e room_1 s m args below meth c H locs cells slots Q (F0 m 1382 ls []) := by
  obtain ⟨hx, hb, hml, hown, hg⟩ := id hC
  obtain ⟨q, b9, m9, e5, e6, hok, hRel9, hnn⟩ := hst u0 u1 u2 u3 mo hRel
  skip
  refine lv_aload_n hx hb dL_law_1382 rfl (lv_at hl 4 rfl) ?_
  refine lv_aload hx hb dL_law_1383 (lv_at hl 1 rfl) ?_
  refine kH (As := [.ref h0, .ref hd]) (rest := []) hC (c_L_deviation hlf (G := G) (fo := fd) e5 (okX_hk1 hok) (fun r h => (hnn r h).1)) kq4_127 kc_L_deviation (by decide) hP hK hD hE hS hA (out := (fun v : (Nat → UInt64) × Ob × Ob × (Nat → Ob) × (Nat → Ob) => (LW G ho fo h0 a0 a1 ra rb v.2.1 v.2.2.1 v.2.2.2.1 v.2.2.2.2 hm am mo hd v.1))) (wr := [(ho, .inl (G.2.2.1 2, 1, .inr (.inl fo)))] ++ wX6 G hm am mo) (lpm2 _ _ _ _) (fun v => (lpm2 _ _ _ _).symm) hl.1 (Nat.le_of_ble_eq_true rfl) hcs dL_law_1385 (fun r9 v9 H locs hw hP hD hS => ?_)
  obtain ⟨hr9, hv9⟩ := hw
  subst hv9
  rw [okX_hc hok] at hr9
  subst hr9
  have hP : va_P (gD G) vwCl (LW G ho fo h0 a0 a1 ra rb q.2.1 q.2.2.1 q.2.2.2.1 q.2.2.2.2 hm am mo hd (hoF fd q.1)) H := hP
  have hD : va_D A (LW G ho fo h0 a0 a1 ra rb q.2.1 q.2.2.1 q.2.2.2.1 q.2.2.2.2 hm am mo hd (hoF fd q.1)) := hD
  refine lv_istore (lv' := [(6, .int (m9.1 7)), (5, .int (Int32.ofNat n)), (4, .ref hd), (3, .ref ho), (2, .ref hm), (1, .ref h0), (0, .ref b)]) hx hb dL_law_1388 hl (by decide) rfl (fun ls hl => ?_)
  refine lv_aload_n hx hb dL_law_1390 rfl (lv_at hl 4 rfl) ?_
  refine kMf (As := []) (rest := []) hC (c_X6_deviation (G := G) (N := N) e6) kq6_188 kc_X6_deviation (by decide) 0 (ci := 4) rfl rfl hP hK hD hE hS hA (out := fun v : Ob => (LW G ho fo h0 a0 a1 ra rb q.2.1 q.2.2.1 q.2.2.2.1 q.2.2.2.2 hm am v hd (hoF fd q.1))) (wr := [(ho, .inl (G.2.2.1 2, 1, .inr (.inl fo)))] ++ (wAll G h0 a0 q.2.1 a1 q.2.2.1 ra rb q.2.2.2.1 q.2.2.2.2 ++ [(hd, .inl (G.2.2.1 5, 1, .inr (.inr (.inr (.inl (hoF fd q.1))))))])) (lpm3 _ _ _ _) (fun v => (lpm3 _ _ _ _).symm) hl.1 (Nat.le_of_ble_eq_true rfl) hcs dL_law_1391 (fun r9 v9 H locs hw hP hD hS => ?_)
  obtain ⟨hr9, hv9⟩ := hw
  subst hv9
  subst hr9
  have hP : va_P (gD G) vwCl (LW G ho fo h0 a0 a1 ra rb q.2.1 q.2.2.1 q.2.2.2.1 q.2.2.2.2 hm am m9 hd (hoF fd q.1)) H := hP
  have hD : va_D A (LW G ho fo h0 a0 a1 ra rb q.2.1 q.2.2.1 q.2.2.2.1 q.2.2.2.2 hm am m9 hd (hoF fd q.1)) := hD
  refine lv_fstore (lv' := [(7, .float b9), (6, .int (m9.1 7)), (5, .int (Int32.ofNat n)), (4, .ref hd), (3, .ref ho), (2, .ref hm), (1, .ref h0), (0, .ref b)]) hx hb dL_law_1394 hl (by decide) rfl (fun ls hl => ?_)
  refine lv_aload_n hx hb dL_law_1396 rfl (lv_at hl 5 rfl) ?_
  refine kMi (As := []) (rest := []) hC (c_X6_thrown (G := G) (N := N) (q := m9.1 7) rfl) kq5_72 kc_X6_thrown (by decide) 0 (ci := 4) rfl rfl hP hK hD hE hS hA (out := fun v : Ob => (LW G ho fo h0 a0 a1 ra rb q.2.1 q.2.2.1 q.2.2.2.1 q.2.2.2.2 hm am v hd (hoF fd q.1))) (wr := [(ho, .inl (G.2.2.1 2, 1, .inr (.inl fo)))] ++ (wAll G h0 a0 q.2.1 a1 q.2.2.1 ra rb q.2.2.2.1 q.2.2.2.2 ++ [(hd, .inl (G.2.2.1 5, 1, .inr (.inr (.inr (.inl (hoF fd q.1))))))])) (lpm3 _ _ _ _) (fun v => (lpm3 _ _ _ _).symm) hl.1 (Nat.le_of_ble_eq_true rfl) hcs dL_law_1397 (fun r9 v9 H locs hw hP hD hS => ?_)
  obtain ⟨hr9, hv9⟩ := hw
  subst hv9
  subst hr9
  have hP : va_P (gD G) vwCl (LW G ho fo h0 a0 a1 ra rb q.2.1 q.2.2.1 q.2.2.2.1 q.2.2.2.2 hm am m9 hd (hoF fd q.1)) H := hP
  have hD : va_D A (LW G ho fo h0 a0 a1 ra rb q.2.1 q.2.2.1 q.2.2.2.1 q.2.2.2.2 hm am m9 hd (hoF fd q.1)) := hD
  refine lv_iload hx hb dL_law_1400 (lv_at hl 1 rfl) ?_
  refine lv_icmp_eq (tgt := 1407) hx hb dL_law_1402 (by decide) (fun _ => ?_) (fun h => absurd rfl h)
  refine lv_iload hx hb dL_law_1407 (lv_at hl 1 rfl) ?_
  refine lv_if_ne (tgt := 1445) hx hb dL_law_1409 (by decide) (fun h9 => ?_) (fun h9 => ?_)
  · skip
    refine lv_goto (tgt := 1884) hx hb dL_law_1445 (by decide) ?_
    exact kk fo (hoF fd q.1) q.2.1 q.2.2.1 q.2.2.2.1 q.2.2.2.2 m9 H locs ls hRel9 hP hD hS (lv_sub hl [2, 3, 4, 5, 6, 7] rfl)
  · have hq := okX_r hok ((okX_hc hok).trans h9)
    refine lv_aload hx hb dL_law_1412 (lv_at hl 3 rfl) ?_
    refine lv_iconst (v := (0 : Int32)) hx hb dL_law_1414 (by decide) ?_
    have hP9 := va_P_perm hP (lpm4 _ _ _ _)
    refine va_dald (f := (hoF fd q.1)) hx hb hK hP9 0 5 rfl rfl (vin (by decide)) dL_law_1415 ?_
    have hv : (hoF fd q.1) (0 : Int32).toNatClampNeg = FP.f2d b9 := by rw [hq]; rfl
    rw [hv]
    refine lv_fload hx hb dL_law_1416 (lv_at hl 0 rfl) ?_
    refine lv_f2d hx hb dL_law_1418 (hnn b9 hq).1 ?_
    refine lv_dcmp hx hb dL_law_1419 ?_
    rw [(hnn b9 hq).2]
    refine lv_if_eq (tgt := 1445) hx hb dL_law_1420 (by decide) (fun _ => ?_) (fun h => absurd rfl h)
    refine lv_goto (tgt := 1884) hx hb dL_law_1445 (by decide) ?_
    exact kk fo (hoF fd q.1) q.2.1 q.2.2.1 q.2.2.2.1 q.2.2.2.2 m9 H locs ls hRel9 hP hD hS (lv_sub hl [2, 3, 4, 5, 6, 7] rfl)
def S_estimate (Rel : Cst → Ob → Prop) (N : Nat) : Prop := ∀ (u0 u1 : Ob) (u2 u3 : Nat → Ob) (mo : Ob), Rel (u0, u1, u2, u3) mo → ∃ q b m9, f_X5_estimate N u0 u1 u2 u3 = some q ∧ f_X6_estimate N mo = some (b, m9) ∧ okX 3 3 q.1 b (m9.1 7) ∧ Rel q.2 m9
set_option maxRecDepth 100000 in
set_option maxHeartbeats 4000000 in
theorem w_estimate {p : Program} {l : Launch} {e : Env} {s : State} {m : MethodId} {args : Array Value} {below : List Frame} {meth : Method} {c : Code} {H : Heap} {locs : List Loc} {cells slots : Nat} {Q : State → Prop} {ls : Array Slot} {A : Nat → Prop} {G : Gp} {b L n : Nat} {xs : Nat → Int32} {ho h0 hm hd : Nat} {fo : Nat → Int64} {fd : Nat → UInt64} {a0 a1 am : Nat → Nat} {ra rb : Nat → Nat → Nat} {u0 u1 mo : Ob} {u2 u3 : Nat → Ob} {Rel : Cst → Ob → Prop} {N : Nat}
    (hst : S_estimate Rel N) (hRel : Rel (u0, u1, u2, u3) mo) (hC : CallFix p m c code 9 s args lw_g RL) (hlf : l.stackTraces = false) (hX : va_X b L xs s s.heap) (hbl : b < s.heap.size) (hbA : ¬ A b) (hL : L ≤ 3072) (hn : n + 6 ≤ L) (hP : va_P (gD G) vwCl (LW G ho fo h0 a0 a1 ra rb u0 u1 u2 u3 hm am mo hd fd) H) (hK : va_K (gD G) vwCl (gT G) s) (hD : va_D A (LW G ho fo h0 a0 a1 ra rb u0 u1 u2 u3 hm am mo hd fd)) (hE : Ev (gE G) A s) (hS : va_S A s.heap H locs) (hA : ∀ q : Nat, s.heap.size ≤ q → A q) (hl : lv_has ls 9 [(5, .int (Int32.ofNat n)), (4, .ref hd), (3, .ref ho), (2, .ref hm), (1, .ref h0), (0, .ref b)]) (hcs : cells + 1 ≤ 601024 ∧ slots + 6 ≤ 7293034)
    (kk : ∀ (fo' : Nat → Int64) (fd' : Nat → UInt64) (u0 u1 : Ob) (u2 u3 : Nat → Ob) (mo : Ob) (H : Heap) (locs : List Loc) (ls : Array Slot), Rel (u0, u1, u2, u3) mo → va_P (gD G) vwCl (LW G ho fo' h0 a0 a1 ra rb u0 u1 u2 u3 hm am mo hd fd') H → va_D A (LW G ho fo' h0 a0 a1 ra rb u0 u1 u2 u3 hm am mo hd fd') → va_S A s.heap H locs → lv_has ls 9 [(5, .int (Int32.ofNat n)), (4, .ref hd), (3, .ref ho), (2, .ref hm), (1, .ref h0), (0, .ref b)] → W p l e room_1 s m args below meth c H locs (cells + 1) (slots + 6) Q (F0 m 1884 ls [])) :
    W p l e room_1 s m args below meth c H locs cells slots Q (F0 m 1448 ls []) := by
  obtain ⟨hx, hb, hml, hown, hg⟩ := id hC
  obtain ⟨q, b9, m9, e5, e6, hok, hRel9⟩ := hst u0 u1 u2 u3 mo hRel
  skip
  refine lv_aload_n hx hb dL_law_1448 rfl (lv_at hl 4 rfl) ?_
  refine lv_aload_n hx hb dL_law_1449 rfl (lv_at hl 2 rfl) ?_
  refine kH (As := [.ref h0, .ref ho]) (rest := []) hC (c_L_estimate hlf (G := G) (fo := fo) e5 (okX_hk1 hok)) kq4_147 kc_L_estimate (by decide) hP hK hD hE hS hA (out := (fun v : (Nat → Int64) × Ob × Ob × (Nat → Ob) × (Nat → Ob) => (LW G ho v.1 h0 a0 a1 ra rb v.2.1 v.2.2.1 v.2.2.2.1 v.2.2.2.2 hm am mo hd fd))) (wr := wX6 G hm am mo ++ [(hd, .inl (G.2.2.1 5, 1, .inr (.inr (.inr (.inl fd)))))]) (lpm1 _ _ _ _) (fun v => (lpm1 _ _ _ _).symm) hl.1 (Nat.le_of_ble_eq_true rfl) hcs dL_law_1450 (fun r9 v9 H locs hw hP hD hS => ?_)
  obtain ⟨hr9, hv9⟩ := hw
  subst hv9
  rw [okX_hc hok] at hr9
  subst hr9
  have hP : va_P (gD G) vwCl (LW G ho (hoL fo q.1) h0 a0 a1 ra rb q.2.1 q.2.2.1 q.2.2.2.1 q.2.2.2.2 hm am mo hd fd) H := hP
  have hD : va_D A (LW G ho (hoL fo q.1) h0 a0 a1 ra rb q.2.1 q.2.2.1 q.2.2.2.1 q.2.2.2.2 hm am mo hd fd) := hD
  refine lv_istore (lv' := [(6, .int (m9.1 7)), (5, .int (Int32.ofNat n)), (4, .ref hd), (3, .ref ho), (2, .ref hm), (1, .ref h0), (0, .ref b)]) hx hb dL_law_1453 hl (by decide) rfl (fun ls hl => ?_)
  refine lv_aload_n hx hb dL_law_1455 rfl (lv_at hl 4 rfl) ?_
  refine kMl (As := []) (rest := []) hC (c_X6_estimate (G := G) (N := N) e6) kq6_192 kc_X6_estimate (by decide) 0 (ci := 4) rfl rfl hP hK hD hE hS hA (out := fun v : Ob => (LW G ho (hoL fo q.1) h0 a0 a1 ra rb q.2.1 q.2.2.1 q.2.2.2.1 q.2.2.2.2 hm am v hd fd)) (wr := [(ho, .inl (G.2.2.1 2, 1, .inr (.inl (hoL fo q.1))))] ++ (wAll G h0 a0 q.2.1 a1 q.2.2.1 ra rb q.2.2.2.1 q.2.2.2.2 ++ [(hd, .inl (G.2.2.1 5, 1, .inr (.inr (.inr (.inl fd)))))])) (lpm3 _ _ _ _) (fun v => (lpm3 _ _ _ _).symm) hl.1 (Nat.le_of_ble_eq_true rfl) hcs dL_law_1456 (fun r9 v9 H locs hw hP hD hS => ?_)
  obtain ⟨hr9, hv9⟩ := hw
  subst hv9
  subst hr9
  have hP : va_P (gD G) vwCl (LW G ho (hoL fo q.1) h0 a0 a1 ra rb q.2.1 q.2.2.1 q.2.2.2.1 q.2.2.2.2 hm am m9 hd fd) H := hP
  have hD : va_D A (LW G ho (hoL fo q.1) h0 a0 a1 ra rb q.2.1 q.2.2.1 q.2.2.2.1 q.2.2.2.2 hm am m9 hd fd) := hD
  refine lv_lstore (lv' := [(7, .long b9), (6, .int (m9.1 7)), (5, .int (Int32.ofNat n)), (4, .ref hd), (3, .ref ho), (2, .ref hm), (1, .ref h0), (0, .ref b)]) hx hb dL_law_1459 hl (by decide) rfl (fun ls hl => ?_)
  refine lv_aload_n hx hb dL_law_1461 rfl (lv_at hl 5 rfl) ?_
  refine kMi (As := []) (rest := []) hC (c_X6_thrown (G := G) (N := N) (q := m9.1 7) rfl) kq5_72 kc_X6_thrown (by decide) 0 (ci := 4) rfl rfl hP hK hD hE hS hA (out := fun v : Ob => (LW G ho (hoL fo q.1) h0 a0 a1 ra rb q.2.1 q.2.2.1 q.2.2.2.1 q.2.2.2.2 hm am v hd fd)) (wr := [(ho, .inl (G.2.2.1 2, 1, .inr (.inl (hoL fo q.1))))] ++ (wAll G h0 a0 q.2.1 a1 q.2.2.1 ra rb q.2.2.2.1 q.2.2.2.2 ++ [(hd, .inl (G.2.2.1 5, 1, .inr (.inr (.inr (.inl fd)))))])) (lpm3 _ _ _ _) (fun v => (lpm3 _ _ _ _).symm) hl.1 (Nat.le_of_ble_eq_true rfl) hcs dL_law_1462 (fun r9 v9 H locs hw hP hD hS => ?_)
  obtain ⟨hr9, hv9⟩ := hw
  subst hv9
  subst hr9
  have hP : va_P (gD G) vwCl (LW G ho (hoL fo q.1) h0 a0 a1 ra rb q.2.1 q.2.2.1 q.2.2.2.1 q.2.2.2.2 hm am m9 hd fd) H := hP
  have hD : va_D A (LW G ho (hoL fo q.1) h0 a0 a1 ra rb q.2.1 q.2.2.1 q.2.2.2.1 q.2.2.2.2 hm am m9 hd fd) := hD
  refine lv_iload hx hb dL_law_1465 (lv_at hl 1 rfl) ?_
  refine lv_icmp_eq (tgt := 1472) hx hb dL_law_1467 (by decide) (fun _ => ?_) (fun h => absurd rfl h)
  refine lv_iload hx hb dL_law_1472 (lv_at hl 1 rfl) ?_
  refine lv_if_ne (tgt := 1488) hx hb dL_law_1474 (by decide) (fun h9 => ?_) (fun h9 => ?_)
  · skip
    refine lv_goto (tgt := 1884) hx hb dL_law_1488 (by decide) ?_
    exact kk (hoL fo q.1) fd q.2.1 q.2.2.1 q.2.2.2.1 q.2.2.2.2 m9 H locs ls hRel9 hP hD hS (lv_sub hl [2, 3, 4, 5, 6, 7] rfl)
  · have hq := okX_r hok ((okX_hc hok).trans h9)
    refine lv_aload_n hx hb dL_law_1477 rfl (lv_at hl 4 rfl) ?_
    refine lv_iconst (v := (0 : Int32)) hx hb dL_law_1478 (by decide) ?_
    refine va_lald (f := (hoL fo q.1)) hx hb hK hP 0 2 rfl rfl (vin (by decide)) dL_law_1479 ?_
    have hv : (hoL fo q.1) (0 : Int32).toNatClampNeg = b9 := by rw [hq]; rfl
    rw [hv]
    refine lv_lload hx hb dL_law_1480 (lv_at hl 0 rfl) ?_
    refine lc_eq (tgt := 1488) hx hb dL_law_1482 dL_law_1483 (by decide) (fun _ => ?_) (fun h => absurd rfl h)
    refine lv_goto (tgt := 1884) hx hb dL_law_1488 (by decide) ?_
    exact kk (hoL fo q.1) fd q.2.1 q.2.2.1 q.2.2.2.1 q.2.2.2.2 m9 H locs ls hRel9 hP hD hS (lv_sub hl [2, 3, 4, 5, 6, 7] rfl)
def S_set (Rel : Cst → Ob → Prop) (N : Nat) : Prop := ∀ (u0 u1 : Ob) (u2 u3 : Nat → Ob) (mo : Ob), Rel (u0, u1, u2, u3) mo → ∀ (x1 : Int32) (x2 : Int32), ∃ q b m9, f_X5_set N x1 x2 u0 u1 u2 u3 = some q ∧ f_X6_set N x1 x2 mo = some (b, m9) ∧ okX 1 1 q.1 b (m9.1 7) ∧ Rel q.2 m9
set_option maxRecDepth 100000 in
set_option maxHeartbeats 4000000 in
theorem w_set {p : Program} {l : Launch} {e : Env} {s : State} {m : MethodId} {args : Array Value} {below : List Frame} {meth : Method} {c : Code} {H : Heap} {locs : List Loc} {cells slots : Nat} {Q : State → Prop} {ls : Array Slot} {A : Nat → Prop} {G : Gp} {b L n : Nat} {xs : Nat → Int32} {ho h0 hm hd : Nat} {fo : Nat → Int64} {fd : Nat → UInt64} {a0 a1 am : Nat → Nat} {ra rb : Nat → Nat → Nat} {u0 u1 mo : Ob} {u2 u3 : Nat → Ob} {Rel : Cst → Ob → Prop} {N : Nat}
    (hst : S_set Rel N) (hRel : Rel (u0, u1, u2, u3) mo) (hC : CallFix p m c code 9 s args lw_g RL) (hlf : l.stackTraces = false) (hX : va_X b L xs s s.heap) (hbl : b < s.heap.size) (hbA : ¬ A b) (hL : L ≤ 3072) (hn : n + 6 ≤ L) (hP : va_P (gD G) vwCl (LW G ho fo h0 a0 a1 ra rb u0 u1 u2 u3 hm am mo hd fd) H) (hK : va_K (gD G) vwCl (gT G) s) (hD : va_D A (LW G ho fo h0 a0 a1 ra rb u0 u1 u2 u3 hm am mo hd fd)) (hE : Ev (gE G) A s) (hS : va_S A s.heap H locs) (hA : ∀ q : Nat, s.heap.size ≤ q → A q) (hl : lv_has ls 9 [(5, .int (Int32.ofNat n)), (4, .ref hd), (3, .ref ho), (2, .ref hm), (1, .ref h0), (0, .ref b)]) (hcs : cells + 1 ≤ 601024 ∧ slots + 6 ≤ 7293034)
    (kk : ∀ (fo' : Nat → Int64) (fd' : Nat → UInt64) (u0 u1 : Ob) (u2 u3 : Nat → Ob) (mo : Ob) (H : Heap) (locs : List Loc) (ls : Array Slot), Rel (u0, u1, u2, u3) mo → va_P (gD G) vwCl (LW G ho fo' h0 a0 a1 ra rb u0 u1 u2 u3 hm am mo hd fd') H → va_D A (LW G ho fo' h0 a0 a1 ra rb u0 u1 u2 u3 hm am mo hd fd') → va_S A s.heap H locs → lv_has ls 9 [(5, .int (Int32.ofNat n)), (4, .ref hd), (3, .ref ho), (2, .ref hm), (1, .ref h0), (0, .ref b)] → W p l e room_1 s m args below meth c H locs (cells + 1) (slots + 6) Q (F0 m 1884 ls [])) :
    W p l e room_1 s m args below meth c H locs cells slots Q (F0 m 1491 ls []) := by
  obtain ⟨hx, hb, hml, hown, hg⟩ := id hC
  obtain ⟨q, b9, m9, e5, e6, hok, hRel9⟩ := hst u0 u1 u2 u3 mo hRel (xs (n + 1)) (xs (n + 2))
  skip
  refine lv_aload_n hx hb dL_law_1491 rfl (lv_at hl 4 rfl) ?_
  refine sc (k := 1) (kI := 1) 5 0 (by decide) hx hb hX hbl hbA hS hl rfl rfl (by omega) hL dL_law_1492 dL_law_1493 dL_law_1495 dL_law_1496 dL_law_1497 ?_
  refine sc (k := 2) (kI := 2) 5 0 (by decide) hx hb hX hbl hbA hS hl rfl rfl (by omega) hL dL_law_1498 dL_law_1499 dL_law_1501 dL_law_1502 dL_law_1503 ?_
  refine lv_aload_n hx hb dL_law_1504 rfl (lv_at hl 2 rfl) ?_
  refine kH (As := [.ref h0, .int (xs (n + 1)), .int (xs (n + 2)), .ref ho]) (rest := []) hC (c_L_set hlf (G := G) (fo := fo) e5 (okX_hk1 hok)) kq4_161 kc_L_set (by decide) hP hK hD hE hS hA (out := (fun v : (Nat → Int64) × Ob × Ob × (Nat → Ob) × (Nat → Ob) => (LW G ho v.1 h0 a0 a1 ra rb v.2.1 v.2.2.1 v.2.2.2.1 v.2.2.2.2 hm am mo hd fd))) (wr := wX6 G hm am mo ++ [(hd, .inl (G.2.2.1 5, 1, .inr (.inr (.inr (.inl fd)))))]) (lpm1 _ _ _ _) (fun v => (lpm1 _ _ _ _).symm) hl.1 (Nat.le_of_ble_eq_true rfl) hcs dL_law_1505 (fun r9 v9 H locs hw hP hD hS => ?_)
  obtain ⟨hr9, hv9⟩ := hw
  subst hv9
  rw [okX_hc hok] at hr9
  subst hr9
  have hP : va_P (gD G) vwCl (LW G ho (hoI fo q.1) h0 a0 a1 ra rb q.2.1 q.2.2.1 q.2.2.2.1 q.2.2.2.2 hm am mo hd fd) H := hP
  have hD : va_D A (LW G ho (hoI fo q.1) h0 a0 a1 ra rb q.2.1 q.2.2.1 q.2.2.2.1 q.2.2.2.2 hm am mo hd fd) := hD
  refine lv_istore (lv' := [(6, .int (m9.1 7)), (5, .int (Int32.ofNat n)), (4, .ref hd), (3, .ref ho), (2, .ref hm), (1, .ref h0), (0, .ref b)]) hx hb dL_law_1508 hl (by decide) rfl (fun ls hl => ?_)
  refine lv_aload_n hx hb dL_law_1510 rfl (lv_at hl 4 rfl) ?_
  refine sc (k := 1) (kI := 1) 6 1 (by decide) hx hb hX hbl hbA hS hl rfl rfl (by omega) hL dL_law_1511 dL_law_1512 dL_law_1514 dL_law_1515 dL_law_1516 ?_
  refine sc (k := 2) (kI := 2) 6 1 (by decide) hx hb hX hbl hbA hS hl rfl rfl (by omega) hL dL_law_1517 dL_law_1518 dL_law_1520 dL_law_1521 dL_law_1522 ?_
  refine kMi (As := [.int (xs (n + 1)), .int (xs (n + 2))]) (rest := []) hC (c_X6_set (G := G) (N := N) e6) kq6_200 kc_X6_set (by decide) 0 (ci := 4) rfl rfl hP hK hD hE hS hA (out := fun v : Ob => (LW G ho (hoI fo q.1) h0 a0 a1 ra rb q.2.1 q.2.2.1 q.2.2.2.1 q.2.2.2.2 hm am v hd fd)) (wr := [(ho, .inl (G.2.2.1 2, 1, .inr (.inl (hoI fo q.1))))] ++ (wAll G h0 a0 q.2.1 a1 q.2.2.1 ra rb q.2.2.2.1 q.2.2.2.2 ++ [(hd, .inl (G.2.2.1 5, 1, .inr (.inr (.inr (.inl fd)))))])) (lpm3 _ _ _ _) (fun v => (lpm3 _ _ _ _).symm) hl.1 (Nat.le_of_ble_eq_true rfl) hcs dL_law_1523 (fun r9 v9 H locs hw hP hD hS => ?_)
  obtain ⟨hr9, hv9⟩ := hw
  subst hv9
  subst hr9
  have hP : va_P (gD G) vwCl (LW G ho (hoI fo q.1) h0 a0 a1 ra rb q.2.1 q.2.2.1 q.2.2.2.1 q.2.2.2.2 hm am m9 hd fd) H := hP
  have hD : va_D A (LW G ho (hoI fo q.1) h0 a0 a1 ra rb q.2.1 q.2.2.1 q.2.2.2.1 q.2.2.2.2 hm am m9 hd fd) := hD
  refine lv_istore (lv' := [(7, .int b9), (6, .int (m9.1 7)), (5, .int (Int32.ofNat n)), (4, .ref hd), (3, .ref ho), (2, .ref hm), (1, .ref h0), (0, .ref b)]) hx hb dL_law_1526 hl (by decide) rfl (fun ls hl => ?_)
  refine lv_aload_n hx hb dL_law_1528 rfl (lv_at hl 5 rfl) ?_
  refine kMi (As := []) (rest := []) hC (c_X6_thrown (G := G) (N := N) (q := m9.1 7) rfl) kq5_72 kc_X6_thrown (by decide) 0 (ci := 4) rfl rfl hP hK hD hE hS hA (out := fun v : Ob => (LW G ho (hoI fo q.1) h0 a0 a1 ra rb q.2.1 q.2.2.1 q.2.2.2.1 q.2.2.2.2 hm am v hd fd)) (wr := [(ho, .inl (G.2.2.1 2, 1, .inr (.inl (hoI fo q.1))))] ++ (wAll G h0 a0 q.2.1 a1 q.2.2.1 ra rb q.2.2.2.1 q.2.2.2.2 ++ [(hd, .inl (G.2.2.1 5, 1, .inr (.inr (.inr (.inl fd)))))])) (lpm3 _ _ _ _) (fun v => (lpm3 _ _ _ _).symm) hl.1 (Nat.le_of_ble_eq_true rfl) hcs dL_law_1529 (fun r9 v9 H locs hw hP hD hS => ?_)
  obtain ⟨hr9, hv9⟩ := hw
  subst hv9
  subst hr9
  have hP : va_P (gD G) vwCl (LW G ho (hoI fo q.1) h0 a0 a1 ra rb q.2.1 q.2.2.1 q.2.2.2.1 q.2.2.2.2 hm am m9 hd fd) H := hP
  have hD : va_D A (LW G ho (hoI fo q.1) h0 a0 a1 ra rb q.2.1 q.2.2.1 q.2.2.2.1 q.2.2.2.2 hm am m9 hd fd) := hD
  refine lv_iload hx hb dL_law_1532 (lv_at hl 1 rfl) ?_
  refine lv_icmp_eq (tgt := 1539) hx hb dL_law_1534 (by decide) (fun _ => ?_) (fun h => absurd rfl h)
  refine lv_iload hx hb dL_law_1539 (lv_at hl 1 rfl) ?_
  refine lv_if_ne (tgt := 1556) hx hb dL_law_1541 (by decide) (fun h9 => ?_) (fun h9 => ?_)
  · skip
    refine lv_goto (tgt := 1884) hx hb dL_law_1556 (by decide) ?_
    exact kk (hoI fo q.1) fd q.2.1 q.2.2.1 q.2.2.2.1 q.2.2.2.2 m9 H locs ls hRel9 hP hD hS (lv_sub hl [2, 3, 4, 5, 6, 7] rfl)
  · have hq := okX_r hok ((okX_hc hok).trans h9)
    refine lv_aload_n hx hb dL_law_1544 rfl (lv_at hl 4 rfl) ?_
    refine lv_iconst (v := (0 : Int32)) hx hb dL_law_1545 (by decide) ?_
    refine va_lald (f := (hoI fo q.1)) hx hb hK hP 0 2 rfl rfl (vin (by decide)) dL_law_1546 ?_
    have hv : (hoI fo q.1) (0 : Int32).toNatClampNeg = b9.toInt64 := by rw [hq]; rfl
    rw [hv]
    refine lv_iload hx hb dL_law_1547 (lv_at hl 0 rfl) ?_
    refine lv_i2l (v := b9.toInt64) hx hb dL_law_1549 rfl ?_
    refine lc_eq (tgt := 1556) hx hb dL_law_1550 dL_law_1551 (by decide) (fun _ => ?_) (fun h => absurd rfl h)
    refine lv_goto (tgt := 1884) hx hb dL_law_1556 (by decide) ?_
    exact kk (hoI fo q.1) fd q.2.1 q.2.2.1 q.2.2.2.1 q.2.2.2.2 m9 H locs ls hRel9 hP hD hS (lv_sub hl [2, 3, 4, 5, 6, 7] rfl)
def S_discipline (Rel : Cst → Ob → Prop) (N : Nat) : Prop := ∀ (u0 u1 : Ob) (u2 u3 : Nat → Ob) (mo : Ob), Rel (u0, u1, u2, u3) mo → ∃ q b m9, f_X5_discipline N u0 u1 u2 u3 = some q ∧ f_X6_discipline N mo = some (b, m9) ∧ okX 3 0 q.1 b (m9.1 7) ∧ Rel q.2 m9
set_option maxRecDepth 100000 in
set_option maxHeartbeats 4000000 in
theorem w_discipline {p : Program} {l : Launch} {e : Env} {s : State} {m : MethodId} {args : Array Value} {below : List Frame} {meth : Method} {c : Code} {H : Heap} {locs : List Loc} {cells slots : Nat} {Q : State → Prop} {ls : Array Slot} {A : Nat → Prop} {G : Gp} {b L n : Nat} {xs : Nat → Int32} {ho h0 hm hd : Nat} {fo : Nat → Int64} {fd : Nat → UInt64} {a0 a1 am : Nat → Nat} {ra rb : Nat → Nat → Nat} {u0 u1 mo : Ob} {u2 u3 : Nat → Ob} {Rel : Cst → Ob → Prop} {N : Nat}
    (hst : S_discipline Rel N) (hRel : Rel (u0, u1, u2, u3) mo) (hC : CallFix p m c code 9 s args lw_g RL) (hlf : l.stackTraces = false) (hX : va_X b L xs s s.heap) (hbl : b < s.heap.size) (hbA : ¬ A b) (hL : L ≤ 3072) (hn : n + 6 ≤ L) (hP : va_P (gD G) vwCl (LW G ho fo h0 a0 a1 ra rb u0 u1 u2 u3 hm am mo hd fd) H) (hK : va_K (gD G) vwCl (gT G) s) (hD : va_D A (LW G ho fo h0 a0 a1 ra rb u0 u1 u2 u3 hm am mo hd fd)) (hE : Ev (gE G) A s) (hS : va_S A s.heap H locs) (hA : ∀ q : Nat, s.heap.size ≤ q → A q) (hl : lv_has ls 9 [(5, .int (Int32.ofNat n)), (4, .ref hd), (3, .ref ho), (2, .ref hm), (1, .ref h0), (0, .ref b)]) (hcs : cells + 1 ≤ 601024 ∧ slots + 6 ≤ 7293034)
    (kk : ∀ (fo' : Nat → Int64) (fd' : Nat → UInt64) (u0 u1 : Ob) (u2 u3 : Nat → Ob) (mo : Ob) (H : Heap) (locs : List Loc) (ls : Array Slot), Rel (u0, u1, u2, u3) mo → va_P (gD G) vwCl (LW G ho fo' h0 a0 a1 ra rb u0 u1 u2 u3 hm am mo hd fd') H → va_D A (LW G ho fo' h0 a0 a1 ra rb u0 u1 u2 u3 hm am mo hd fd') → va_S A s.heap H locs → lv_has ls 9 [(5, .int (Int32.ofNat n)), (4, .ref hd), (3, .ref ho), (2, .ref hm), (1, .ref h0), (0, .ref b)] → W p l e room_1 s m args below meth c H locs (cells + 1) (slots + 6) Q (F0 m 1884 ls [])) :
    W p l e room_1 s m args below meth c H locs cells slots Q (F0 m 1559 ls []) := by
  obtain ⟨hx, hb, hml, hown, hg⟩ := id hC
  obtain ⟨q, b9, m9, e5, e6, hok, hRel9⟩ := hst u0 u1 u2 u3 mo hRel
  skip
  refine lv_aload_n hx hb dL_law_1559 rfl (lv_at hl 4 rfl) ?_
  refine lv_aload_n hx hb dL_law_1560 rfl (lv_at hl 2 rfl) ?_
  refine kH (As := [.ref h0, .ref ho]) (rest := []) hC (c_L_discipline hlf (G := G) (fo := fo) e5 (okX_hk hok)) kq4_172 kc_L_discipline (by decide) hP hK hD hE hS hA (out := (fun v : (Nat → Int64) × Ob × Ob × (Nat → Ob) × (Nat → Ob) => (LW G ho v.1 h0 a0 a1 ra rb v.2.1 v.2.2.1 v.2.2.2.1 v.2.2.2.2 hm am mo hd fd))) (wr := wX6 G hm am mo ++ [(hd, .inl (G.2.2.1 5, 1, .inr (.inr (.inr (.inl fd)))))]) (lpm1 _ _ _ _) (fun v => (lpm1 _ _ _ _).symm) hl.1 (Nat.le_of_ble_eq_true rfl) hcs dL_law_1561 (fun r9 v9 H locs hw hP hD hS => ?_)
  obtain ⟨hr9, hv9⟩ := hw
  subst hv9
  rw [okX_hc hok] at hr9
  subst hr9
  have hP : va_P (gD G) vwCl (LW G ho (hoI fo q.1) h0 a0 a1 ra rb q.2.1 q.2.2.1 q.2.2.2.1 q.2.2.2.2 hm am mo hd fd) H := hP
  have hD : va_D A (LW G ho (hoI fo q.1) h0 a0 a1 ra rb q.2.1 q.2.2.1 q.2.2.2.1 q.2.2.2.2 hm am mo hd fd) := hD
  refine lv_istore (lv' := [(6, .int (m9.1 7)), (5, .int (Int32.ofNat n)), (4, .ref hd), (3, .ref ho), (2, .ref hm), (1, .ref h0), (0, .ref b)]) hx hb dL_law_1564 hl (by decide) rfl (fun ls hl => ?_)
  refine lv_aload_n hx hb dL_law_1566 rfl (lv_at hl 4 rfl) ?_
  refine kMi (As := []) (rest := []) hC (c_X6_discipline (G := G) (N := N) e6) kq6_205 kc_X6_discipline (by decide) 0 (ci := 4) rfl rfl hP hK hD hE hS hA (out := fun v : Ob => (LW G ho (hoI fo q.1) h0 a0 a1 ra rb q.2.1 q.2.2.1 q.2.2.2.1 q.2.2.2.2 hm am v hd fd)) (wr := [(ho, .inl (G.2.2.1 2, 1, .inr (.inl (hoI fo q.1))))] ++ (wAll G h0 a0 q.2.1 a1 q.2.2.1 ra rb q.2.2.2.1 q.2.2.2.2 ++ [(hd, .inl (G.2.2.1 5, 1, .inr (.inr (.inr (.inl fd)))))])) (lpm3 _ _ _ _) (fun v => (lpm3 _ _ _ _).symm) hl.1 (Nat.le_of_ble_eq_true rfl) hcs dL_law_1567 (fun r9 v9 H locs hw hP hD hS => ?_)
  obtain ⟨hr9, hv9⟩ := hw
  subst hv9
  subst hr9
  have hP : va_P (gD G) vwCl (LW G ho (hoI fo q.1) h0 a0 a1 ra rb q.2.1 q.2.2.1 q.2.2.2.1 q.2.2.2.2 hm am m9 hd fd) H := hP
  have hD : va_D A (LW G ho (hoI fo q.1) h0 a0 a1 ra rb q.2.1 q.2.2.1 q.2.2.2.1 q.2.2.2.2 hm am m9 hd fd) := hD
  refine lv_istore (lv' := [(7, .int b9), (6, .int (m9.1 7)), (5, .int (Int32.ofNat n)), (4, .ref hd), (3, .ref ho), (2, .ref hm), (1, .ref h0), (0, .ref b)]) hx hb dL_law_1570 hl (by decide) rfl (fun ls hl => ?_)
  refine lv_aload_n hx hb dL_law_1572 rfl (lv_at hl 5 rfl) ?_
  refine kMi (As := []) (rest := []) hC (c_X6_thrown (G := G) (N := N) (q := m9.1 7) rfl) kq5_72 kc_X6_thrown (by decide) 0 (ci := 4) rfl rfl hP hK hD hE hS hA (out := fun v : Ob => (LW G ho (hoI fo q.1) h0 a0 a1 ra rb q.2.1 q.2.2.1 q.2.2.2.1 q.2.2.2.2 hm am v hd fd)) (wr := [(ho, .inl (G.2.2.1 2, 1, .inr (.inl (hoI fo q.1))))] ++ (wAll G h0 a0 q.2.1 a1 q.2.2.1 ra rb q.2.2.2.1 q.2.2.2.2 ++ [(hd, .inl (G.2.2.1 5, 1, .inr (.inr (.inr (.inl fd)))))])) (lpm3 _ _ _ _) (fun v => (lpm3 _ _ _ _).symm) hl.1 (Nat.le_of_ble_eq_true rfl) hcs dL_law_1573 (fun r9 v9 H locs hw hP hD hS => ?_)
  obtain ⟨hr9, hv9⟩ := hw
  subst hv9
  subst hr9
  have hP : va_P (gD G) vwCl (LW G ho (hoI fo q.1) h0 a0 a1 ra rb q.2.1 q.2.2.1 q.2.2.2.1 q.2.2.2.2 hm am m9 hd fd) H := hP
  have hD : va_D A (LW G ho (hoI fo q.1) h0 a0 a1 ra rb q.2.1 q.2.2.1 q.2.2.2.1 q.2.2.2.2 hm am m9 hd fd) := hD
  refine lv_iload hx hb dL_law_1576 (lv_at hl 1 rfl) ?_
  refine lv_icmp_eq (tgt := 1583) hx hb dL_law_1578 (by decide) (fun _ => ?_) (fun h => absurd rfl h)
  refine lv_iload hx hb dL_law_1583 (lv_at hl 1 rfl) ?_
  refine lv_if_ne (tgt := 1600) hx hb dL_law_1585 (by decide) (fun h9 => ?_) (fun h9 => ?_)
  · skip
    refine lv_goto (tgt := 1884) hx hb dL_law_1600 (by decide) ?_
    exact kk (hoI fo q.1) fd q.2.1 q.2.2.1 q.2.2.2.1 q.2.2.2.2 m9 H locs ls hRel9 hP hD hS (lv_sub hl [2, 3, 4, 5, 6, 7] rfl)
  · have hq := okX_r hok ((okX_hc hok).trans h9)
    refine lv_aload_n hx hb dL_law_1588 rfl (lv_at hl 4 rfl) ?_
    refine lv_iconst (v := (0 : Int32)) hx hb dL_law_1589 (by decide) ?_
    refine va_lald (f := (hoI fo q.1)) hx hb hK hP 0 2 rfl rfl (vin (by decide)) dL_law_1590 ?_
    have hv : (hoI fo q.1) (0 : Int32).toNatClampNeg = b9.toInt64 := by rw [hq]; rfl
    rw [hv]
    refine lv_iload hx hb dL_law_1591 (lv_at hl 0 rfl) ?_
    refine lv_i2l (v := b9.toInt64) hx hb dL_law_1593 rfl ?_
    refine lc_eq (tgt := 1600) hx hb dL_law_1594 dL_law_1595 (by decide) (fun _ => ?_) (fun h => absurd rfl h)
    refine lv_goto (tgt := 1884) hx hb dL_law_1600 (by decide) ?_
    exact kk (hoI fo q.1) fd q.2.1 q.2.2.1 q.2.2.2.1 q.2.2.2.2 m9 H locs ls hRel9 hP hD hS (lv_sub hl [2, 3, 4, 5, 6, 7] rfl)
def S_forget (Rel : Cst → Ob → Prop) (N : Nat) : Prop := ∀ (u0 u1 : Ob) (u2 u3 : Nat → Ob) (mo : Ob), Rel (u0, u1, u2, u3) mo → ∃ q b m9, f_X5_forget N u0 u1 u2 u3 = some q ∧ f_X6_forget N mo = some (b, m9) ∧ q.1 = b ∧ Rel q.2 m9
set_option maxRecDepth 100000 in
set_option maxHeartbeats 4000000 in
theorem w_forget {p : Program} {l : Launch} {e : Env} {s : State} {m : MethodId} {args : Array Value} {below : List Frame} {meth : Method} {c : Code} {H : Heap} {locs : List Loc} {cells slots : Nat} {Q : State → Prop} {ls : Array Slot} {A : Nat → Prop} {G : Gp} {b L n : Nat} {xs : Nat → Int32} {ho h0 hm hd : Nat} {fo : Nat → Int64} {fd : Nat → UInt64} {a0 a1 am : Nat → Nat} {ra rb : Nat → Nat → Nat} {u0 u1 mo : Ob} {u2 u3 : Nat → Ob} {Rel : Cst → Ob → Prop} {N : Nat}
    (hst : S_forget Rel N) (hRel : Rel (u0, u1, u2, u3) mo) (hC : CallFix p m c code 9 s args lw_g RL) (hlf : l.stackTraces = false) (hX : va_X b L xs s s.heap) (hbl : b < s.heap.size) (hbA : ¬ A b) (hL : L ≤ 3072) (hn : n + 6 ≤ L) (hP : va_P (gD G) vwCl (LW G ho fo h0 a0 a1 ra rb u0 u1 u2 u3 hm am mo hd fd) H) (hK : va_K (gD G) vwCl (gT G) s) (hD : va_D A (LW G ho fo h0 a0 a1 ra rb u0 u1 u2 u3 hm am mo hd fd)) (hE : Ev (gE G) A s) (hS : va_S A s.heap H locs) (hA : ∀ q : Nat, s.heap.size ≤ q → A q) (hl : lv_has ls 9 [(5, .int (Int32.ofNat n)), (4, .ref hd), (3, .ref ho), (2, .ref hm), (1, .ref h0), (0, .ref b)]) (hcs : cells + 1 ≤ 601024 ∧ slots + 6 ≤ 7293034)
    (kk : ∀ (fo' : Nat → Int64) (fd' : Nat → UInt64) (u0 u1 : Ob) (u2 u3 : Nat → Ob) (mo : Ob) (H : Heap) (locs : List Loc) (ls : Array Slot), Rel (u0, u1, u2, u3) mo → va_P (gD G) vwCl (LW G ho fo' h0 a0 a1 ra rb u0 u1 u2 u3 hm am mo hd fd') H → va_D A (LW G ho fo' h0 a0 a1 ra rb u0 u1 u2 u3 hm am mo hd fd') → va_S A s.heap H locs → lv_has ls 9 [(5, .int (Int32.ofNat n)), (4, .ref hd), (3, .ref ho), (2, .ref hm), (1, .ref h0), (0, .ref b)] → W p l e room_1 s m args below meth c H locs (cells + 1) (slots + 6) Q (F0 m 1884 ls [])) :
    W p l e room_1 s m args below meth c H locs cells slots Q (F0 m 1603 ls []) := by
  obtain ⟨hx, hb, hml, hown, hg⟩ := id hC
  obtain ⟨q, b9, m9, e5, e6, hok, hRel9⟩ := hst u0 u1 u2 u3 mo hRel
  skip
  refine lv_aload_n hx hb dL_law_1603 rfl (lv_at hl 4 rfl) ?_
  refine W.widen (k := cells + 1) (n := slots + 6) (by omega) (by omega) ?_
  refine kMi (As := []) (rest := []) hC (c_X5_forget (G := G) e5) kq2_84 kc_X5_forget (by decide) 0 (ci := 3) rfl rfl hP hK hD hE hS hA (out := (fun v : Ob × Ob × (Nat → Ob) × (Nat → Ob) => (LW G ho fo h0 a0 a1 ra rb v.1 v.2.1 v.2.2.1 v.2.2.2 hm am mo hd fd))) (wr := [(ho, .inl (G.2.2.1 2, 1, .inr (.inl fo)))] ++ (wX6 G hm am mo ++ [(hd, .inl (G.2.2.1 5, 1, .inr (.inr (.inr (.inl fd)))))])) (lpm0 _ _ _) (fun v => (lpm0 _ _ _).symm) hl.1 (Nat.le_of_ble_eq_true rfl) hcs dL_law_1604 (fun r9 v9 H locs hw hP hD hS => ?_)
  obtain ⟨hr9, hv9⟩ := hw
  subst hv9
  rw [hok] at hr9
  subst hr9
  have hP : va_P (gD G) vwCl (LW G ho fo h0 a0 a1 ra rb q.2.1 q.2.2.1 q.2.2.2.1 q.2.2.2.2 hm am mo hd fd) H := hP
  have hD : va_D A (LW G ho fo h0 a0 a1 ra rb q.2.1 q.2.2.1 q.2.2.2.1 q.2.2.2.2 hm am mo hd fd) := hD
  refine lv_aload_n hx hb dL_law_1607 rfl (lv_at hl 3 rfl) ?_
  refine kMi (As := []) (rest := [.int b9]) hC (c_X6_forget (G := G) (N := N) e6) kq6_210 kc_X6_forget (by decide) 0 (ci := 4) rfl rfl hP hK hD hE hS hA (out := fun v : Ob => (LW G ho fo h0 a0 a1 ra rb q.2.1 q.2.2.1 q.2.2.2.1 q.2.2.2.2 hm am v hd fd)) (wr := [(ho, .inl (G.2.2.1 2, 1, .inr (.inl fo)))] ++ (wAll G h0 a0 q.2.1 a1 q.2.2.1 ra rb q.2.2.2.1 q.2.2.2.2 ++ [(hd, .inl (G.2.2.1 5, 1, .inr (.inr (.inr (.inl fd)))))])) (lpm3 _ _ _ _) (fun v => (lpm3 _ _ _ _).symm) hl.1 (Nat.le_of_ble_eq_true rfl) hcs dL_law_1608 (fun r9 v9 H locs hw hP hD hS => ?_)
  obtain ⟨hr9, hv9⟩ := hw
  subst hv9
  subst hr9
  have hP : va_P (gD G) vwCl (LW G ho fo h0 a0 a1 ra rb q.2.1 q.2.2.1 q.2.2.2.1 q.2.2.2.2 hm am m9 hd fd) H := hP
  have hD : va_D A (LW G ho fo h0 a0 a1 ra rb q.2.1 q.2.2.1 q.2.2.2.1 q.2.2.2.2 hm am m9 hd fd) := hD
  refine lv_icmp_eq (tgt := 1884) hx hb dL_law_1611 (by decide) (fun _ => ?_) (fun h => absurd rfl h)
  exact kk fo fd q.2.1 q.2.2.1 q.2.2.2.1 q.2.2.2.2 m9 H locs ls hRel9 hP hD hS (lv_sub hl [0, 1, 2, 3, 4, 5] rfl)
def S_writeTime (Rel : Cst → Ob → Prop) (N : Nat) : Prop := ∀ (u0 u1 : Ob) (u2 u3 : Nat → Ob) (mo : Ob), Rel (u0, u1, u2, u3) mo → ∀ (x1 : Int32), ∃ q b m9, f_X5_writeTime N x1 u0 u1 u2 u3 = some q ∧ f_X6_writeTime N x1 mo = some (b, m9) ∧ okX 1 1 q.1 b (m9.1 7) ∧ Rel q.2 m9
set_option maxRecDepth 100000 in
set_option maxHeartbeats 4000000 in
theorem w_writeTime {p : Program} {l : Launch} {e : Env} {s : State} {m : MethodId} {args : Array Value} {below : List Frame} {meth : Method} {c : Code} {H : Heap} {locs : List Loc} {cells slots : Nat} {Q : State → Prop} {ls : Array Slot} {A : Nat → Prop} {G : Gp} {b L n : Nat} {xs : Nat → Int32} {ho h0 hm hd : Nat} {fo : Nat → Int64} {fd : Nat → UInt64} {a0 a1 am : Nat → Nat} {ra rb : Nat → Nat → Nat} {u0 u1 mo : Ob} {u2 u3 : Nat → Ob} {Rel : Cst → Ob → Prop} {N : Nat}
    (hst : S_writeTime Rel N) (hRel : Rel (u0, u1, u2, u3) mo) (hC : CallFix p m c code 9 s args lw_g RL) (hlf : l.stackTraces = false) (hX : va_X b L xs s s.heap) (hbl : b < s.heap.size) (hbA : ¬ A b) (hL : L ≤ 3072) (hn : n + 6 ≤ L) (hP : va_P (gD G) vwCl (LW G ho fo h0 a0 a1 ra rb u0 u1 u2 u3 hm am mo hd fd) H) (hK : va_K (gD G) vwCl (gT G) s) (hD : va_D A (LW G ho fo h0 a0 a1 ra rb u0 u1 u2 u3 hm am mo hd fd)) (hE : Ev (gE G) A s) (hS : va_S A s.heap H locs) (hA : ∀ q : Nat, s.heap.size ≤ q → A q) (hl : lv_has ls 9 [(5, .int (Int32.ofNat n)), (4, .ref hd), (3, .ref ho), (2, .ref hm), (1, .ref h0), (0, .ref b)]) (hcs : cells + 1 ≤ 601024 ∧ slots + 6 ≤ 7293034)
    (kk : ∀ (fo' : Nat → Int64) (fd' : Nat → UInt64) (u0 u1 : Ob) (u2 u3 : Nat → Ob) (mo : Ob) (H : Heap) (locs : List Loc) (ls : Array Slot), Rel (u0, u1, u2, u3) mo → va_P (gD G) vwCl (LW G ho fo' h0 a0 a1 ra rb u0 u1 u2 u3 hm am mo hd fd') H → va_D A (LW G ho fo' h0 a0 a1 ra rb u0 u1 u2 u3 hm am mo hd fd') → va_S A s.heap H locs → lv_has ls 9 [(5, .int (Int32.ofNat n)), (4, .ref hd), (3, .ref ho), (2, .ref hm), (1, .ref h0), (0, .ref b)] → W p l e room_1 s m args below meth c H locs (cells + 1) (slots + 6) Q (F0 m 1884 ls [])) :
    W p l e room_1 s m args below meth c H locs cells slots Q (F0 m 1616 ls []) := by
  obtain ⟨hx, hb, hml, hown, hg⟩ := id hC
  obtain ⟨q, b9, m9, e5, e6, hok, hRel9⟩ := hst u0 u1 u2 u3 mo hRel (xs (n + 1))
  skip
  refine lv_aload_n hx hb dL_law_1616 rfl (lv_at hl 4 rfl) ?_
  refine sc (k := 1) (kI := 1) 5 0 (by decide) hx hb hX hbl hbA hS hl rfl rfl (by omega) hL dL_law_1617 dL_law_1618 dL_law_1620 dL_law_1621 dL_law_1622 ?_
  refine lv_aload_n hx hb dL_law_1623 rfl (lv_at hl 2 rfl) ?_
  refine kH (As := [.ref h0, .int (xs (n + 1)), .ref ho]) (rest := []) hC (c_L_writeTime hlf (G := G) (fo := fo) e5 (okX_hk1 hok)) kq4_180 kc_L_writeTime (by decide) hP hK hD hE hS hA (out := (fun v : (Nat → Int64) × Ob × Ob × (Nat → Ob) × (Nat → Ob) => (LW G ho v.1 h0 a0 a1 ra rb v.2.1 v.2.2.1 v.2.2.2.1 v.2.2.2.2 hm am mo hd fd))) (wr := wX6 G hm am mo ++ [(hd, .inl (G.2.2.1 5, 1, .inr (.inr (.inr (.inl fd)))))]) (lpm1 _ _ _ _) (fun v => (lpm1 _ _ _ _).symm) hl.1 (Nat.le_of_ble_eq_true rfl) hcs dL_law_1624 (fun r9 v9 H locs hw hP hD hS => ?_)
  obtain ⟨hr9, hv9⟩ := hw
  subst hv9
  rw [okX_hc hok] at hr9
  subst hr9
  have hP : va_P (gD G) vwCl (LW G ho (hoI fo q.1) h0 a0 a1 ra rb q.2.1 q.2.2.1 q.2.2.2.1 q.2.2.2.2 hm am mo hd fd) H := hP
  have hD : va_D A (LW G ho (hoI fo q.1) h0 a0 a1 ra rb q.2.1 q.2.2.1 q.2.2.2.1 q.2.2.2.2 hm am mo hd fd) := hD
  refine lv_istore (lv' := [(6, .int (m9.1 7)), (5, .int (Int32.ofNat n)), (4, .ref hd), (3, .ref ho), (2, .ref hm), (1, .ref h0), (0, .ref b)]) hx hb dL_law_1627 hl (by decide) rfl (fun ls hl => ?_)
  refine lv_aload_n hx hb dL_law_1629 rfl (lv_at hl 4 rfl) ?_
  refine sc (k := 1) (kI := 1) 6 1 (by decide) hx hb hX hbl hbA hS hl rfl rfl (by omega) hL dL_law_1630 dL_law_1631 dL_law_1633 dL_law_1634 dL_law_1635 ?_
  refine kMi (As := [.int (xs (n + 1))]) (rest := []) hC (c_X6_writeTime (G := G) (N := N) e6) kq6_214 kc_X6_writeTime (by decide) 0 (ci := 4) rfl rfl hP hK hD hE hS hA (out := fun v : Ob => (LW G ho (hoI fo q.1) h0 a0 a1 ra rb q.2.1 q.2.2.1 q.2.2.2.1 q.2.2.2.2 hm am v hd fd)) (wr := [(ho, .inl (G.2.2.1 2, 1, .inr (.inl (hoI fo q.1))))] ++ (wAll G h0 a0 q.2.1 a1 q.2.2.1 ra rb q.2.2.2.1 q.2.2.2.2 ++ [(hd, .inl (G.2.2.1 5, 1, .inr (.inr (.inr (.inl fd)))))])) (lpm3 _ _ _ _) (fun v => (lpm3 _ _ _ _).symm) hl.1 (Nat.le_of_ble_eq_true rfl) hcs dL_law_1636 (fun r9 v9 H locs hw hP hD hS => ?_)
  obtain ⟨hr9, hv9⟩ := hw
  subst hv9
  subst hr9
  have hP : va_P (gD G) vwCl (LW G ho (hoI fo q.1) h0 a0 a1 ra rb q.2.1 q.2.2.1 q.2.2.2.1 q.2.2.2.2 hm am m9 hd fd) H := hP
  have hD : va_D A (LW G ho (hoI fo q.1) h0 a0 a1 ra rb q.2.1 q.2.2.1 q.2.2.2.1 q.2.2.2.2 hm am m9 hd fd) := hD
  refine lv_istore (lv' := [(7, .int b9), (6, .int (m9.1 7)), (5, .int (Int32.ofNat n)), (4, .ref hd), (3, .ref ho), (2, .ref hm), (1, .ref h0), (0, .ref b)]) hx hb dL_law_1639 hl (by decide) rfl (fun ls hl => ?_)
  refine lv_aload_n hx hb dL_law_1641 rfl (lv_at hl 5 rfl) ?_
  refine kMi (As := []) (rest := []) hC (c_X6_thrown (G := G) (N := N) (q := m9.1 7) rfl) kq5_72 kc_X6_thrown (by decide) 0 (ci := 4) rfl rfl hP hK hD hE hS hA (out := fun v : Ob => (LW G ho (hoI fo q.1) h0 a0 a1 ra rb q.2.1 q.2.2.1 q.2.2.2.1 q.2.2.2.2 hm am v hd fd)) (wr := [(ho, .inl (G.2.2.1 2, 1, .inr (.inl (hoI fo q.1))))] ++ (wAll G h0 a0 q.2.1 a1 q.2.2.1 ra rb q.2.2.2.1 q.2.2.2.2 ++ [(hd, .inl (G.2.2.1 5, 1, .inr (.inr (.inr (.inl fd)))))])) (lpm3 _ _ _ _) (fun v => (lpm3 _ _ _ _).symm) hl.1 (Nat.le_of_ble_eq_true rfl) hcs dL_law_1642 (fun r9 v9 H locs hw hP hD hS => ?_)
  obtain ⟨hr9, hv9⟩ := hw
  subst hv9
  subst hr9
  have hP : va_P (gD G) vwCl (LW G ho (hoI fo q.1) h0 a0 a1 ra rb q.2.1 q.2.2.1 q.2.2.2.1 q.2.2.2.2 hm am m9 hd fd) H := hP
  have hD : va_D A (LW G ho (hoI fo q.1) h0 a0 a1 ra rb q.2.1 q.2.2.1 q.2.2.2.1 q.2.2.2.2 hm am m9 hd fd) := hD
  refine lv_iload hx hb dL_law_1645 (lv_at hl 1 rfl) ?_
  refine lv_icmp_eq (tgt := 1652) hx hb dL_law_1647 (by decide) (fun _ => ?_) (fun h => absurd rfl h)
  refine lv_iload hx hb dL_law_1652 (lv_at hl 1 rfl) ?_
  refine lv_if_ne (tgt := 1669) hx hb dL_law_1654 (by decide) (fun h9 => ?_) (fun h9 => ?_)
  · skip
    refine lv_goto (tgt := 1884) hx hb dL_law_1669 (by decide) ?_
    exact kk (hoI fo q.1) fd q.2.1 q.2.2.1 q.2.2.2.1 q.2.2.2.2 m9 H locs ls hRel9 hP hD hS (lv_sub hl [2, 3, 4, 5, 6, 7] rfl)
  · have hq := okX_r hok ((okX_hc hok).trans h9)
    refine lv_aload_n hx hb dL_law_1657 rfl (lv_at hl 4 rfl) ?_
    refine lv_iconst (v := (0 : Int32)) hx hb dL_law_1658 (by decide) ?_
    refine va_lald (f := (hoI fo q.1)) hx hb hK hP 0 2 rfl rfl (vin (by decide)) dL_law_1659 ?_
    have hv : (hoI fo q.1) (0 : Int32).toNatClampNeg = b9.toInt64 := by rw [hq]; rfl
    rw [hv]
    refine lv_iload hx hb dL_law_1660 (lv_at hl 0 rfl) ?_
    refine lv_i2l (v := b9.toInt64) hx hb dL_law_1662 rfl ?_
    refine lc_eq (tgt := 1669) hx hb dL_law_1663 dL_law_1664 (by decide) (fun _ => ?_) (fun h => absurd rfl h)
    refine lv_goto (tgt := 1884) hx hb dL_law_1669 (by decide) ?_
    exact kk (hoI fo q.1) fd q.2.1 q.2.2.1 q.2.2.2.1 q.2.2.2.2 m9 H locs ls hRel9 hP hD hS (lv_sub hl [2, 3, 4, 5, 6, 7] rfl)
def S_writtenByte (Rel : Cst → Ob → Prop) (N : Nat) : Prop := ∀ (u0 u1 : Ob) (u2 u3 : Nat → Ob) (mo : Ob), Rel (u0, u1, u2, u3) mo → ∀ (x1 : Int32), ∃ q b m9, f_X5_writtenByte N x1 u0 u1 u2 u3 = some q ∧ f_X6_writtenByte N x1 mo = some (b, m9) ∧ okX 2 2 q.1 b (m9.1 7) ∧ Rel q.2 m9
set_option maxRecDepth 100000 in
set_option maxHeartbeats 4000000 in
theorem w_writtenByte {p : Program} {l : Launch} {e : Env} {s : State} {m : MethodId} {args : Array Value} {below : List Frame} {meth : Method} {c : Code} {H : Heap} {locs : List Loc} {cells slots : Nat} {Q : State → Prop} {ls : Array Slot} {A : Nat → Prop} {G : Gp} {b L n : Nat} {xs : Nat → Int32} {ho h0 hm hd : Nat} {fo : Nat → Int64} {fd : Nat → UInt64} {a0 a1 am : Nat → Nat} {ra rb : Nat → Nat → Nat} {u0 u1 mo : Ob} {u2 u3 : Nat → Ob} {Rel : Cst → Ob → Prop} {N : Nat}
    (hst : S_writtenByte Rel N) (hRel : Rel (u0, u1, u2, u3) mo) (hC : CallFix p m c code 9 s args lw_g RL) (hlf : l.stackTraces = false) (hX : va_X b L xs s s.heap) (hbl : b < s.heap.size) (hbA : ¬ A b) (hL : L ≤ 3072) (hn : n + 6 ≤ L) (hP : va_P (gD G) vwCl (LW G ho fo h0 a0 a1 ra rb u0 u1 u2 u3 hm am mo hd fd) H) (hK : va_K (gD G) vwCl (gT G) s) (hD : va_D A (LW G ho fo h0 a0 a1 ra rb u0 u1 u2 u3 hm am mo hd fd)) (hE : Ev (gE G) A s) (hS : va_S A s.heap H locs) (hA : ∀ q : Nat, s.heap.size ≤ q → A q) (hl : lv_has ls 9 [(5, .int (Int32.ofNat n)), (4, .ref hd), (3, .ref ho), (2, .ref hm), (1, .ref h0), (0, .ref b)]) (hcs : cells + 1 ≤ 601024 ∧ slots + 6 ≤ 7293034)
    (kk : ∀ (fo' : Nat → Int64) (fd' : Nat → UInt64) (u0 u1 : Ob) (u2 u3 : Nat → Ob) (mo : Ob) (H : Heap) (locs : List Loc) (ls : Array Slot), Rel (u0, u1, u2, u3) mo → va_P (gD G) vwCl (LW G ho fo' h0 a0 a1 ra rb u0 u1 u2 u3 hm am mo hd fd') H → va_D A (LW G ho fo' h0 a0 a1 ra rb u0 u1 u2 u3 hm am mo hd fd') → va_S A s.heap H locs → lv_has ls 9 [(5, .int (Int32.ofNat n)), (4, .ref hd), (3, .ref ho), (2, .ref hm), (1, .ref h0), (0, .ref b)] → W p l e room_1 s m args below meth c H locs (cells + 1) (slots + 6) Q (F0 m 1884 ls [])) :
    W p l e room_1 s m args below meth c H locs cells slots Q (F0 m 1672 ls []) := by
  obtain ⟨hx, hb, hml, hown, hg⟩ := id hC
  obtain ⟨q, b9, m9, e5, e6, hok, hRel9⟩ := hst u0 u1 u2 u3 mo hRel (xs (n + 1))
  skip
  refine lv_aload_n hx hb dL_law_1672 rfl (lv_at hl 4 rfl) ?_
  refine sc (k := 1) (kI := 1) 5 0 (by decide) hx hb hX hbl hbA hS hl rfl rfl (by omega) hL dL_law_1673 dL_law_1674 dL_law_1676 dL_law_1677 dL_law_1678 ?_
  refine lv_aload_n hx hb dL_law_1679 rfl (lv_at hl 2 rfl) ?_
  refine kH (As := [.ref h0, .int (xs (n + 1)), .ref ho]) (rest := []) hC (c_L_writtenByte hlf (G := G) (fo := fo) e5 (okX_hk1 hok)) kq4_195 kc_L_writtenByte (by decide) hP hK hD hE hS hA (out := (fun v : (Nat → Int64) × Ob × Ob × (Nat → Ob) × (Nat → Ob) => (LW G ho v.1 h0 a0 a1 ra rb v.2.1 v.2.2.1 v.2.2.2.1 v.2.2.2.2 hm am mo hd fd))) (wr := wX6 G hm am mo ++ [(hd, .inl (G.2.2.1 5, 1, .inr (.inr (.inr (.inl fd)))))]) (lpm1 _ _ _ _) (fun v => (lpm1 _ _ _ _).symm) hl.1 (Nat.le_of_ble_eq_true rfl) hcs dL_law_1680 (fun r9 v9 H locs hw hP hD hS => ?_)
  obtain ⟨hr9, hv9⟩ := hw
  subst hv9
  rw [okX_hc hok] at hr9
  subst hr9
  have hP : va_P (gD G) vwCl (LW G ho (hoI fo q.1) h0 a0 a1 ra rb q.2.1 q.2.2.1 q.2.2.2.1 q.2.2.2.2 hm am mo hd fd) H := hP
  have hD : va_D A (LW G ho (hoI fo q.1) h0 a0 a1 ra rb q.2.1 q.2.2.1 q.2.2.2.1 q.2.2.2.2 hm am mo hd fd) := hD
  refine lv_istore (lv' := [(6, .int (m9.1 7)), (5, .int (Int32.ofNat n)), (4, .ref hd), (3, .ref ho), (2, .ref hm), (1, .ref h0), (0, .ref b)]) hx hb dL_law_1683 hl (by decide) rfl (fun ls hl => ?_)
  refine lv_aload_n hx hb dL_law_1685 rfl (lv_at hl 4 rfl) ?_
  refine sc (k := 1) (kI := 1) 6 1 (by decide) hx hb hX hbl hbA hS hl rfl rfl (by omega) hL dL_law_1686 dL_law_1687 dL_law_1689 dL_law_1690 dL_law_1691 ?_
  refine kMi (As := [.int (xs (n + 1))]) (rest := []) hC (c_X6_writtenByte (G := G) (N := N) e6) kq6_226 kc_X6_writtenByte (by decide) 0 (ci := 4) rfl rfl hP hK hD hE hS hA (out := fun v : Ob => (LW G ho (hoI fo q.1) h0 a0 a1 ra rb q.2.1 q.2.2.1 q.2.2.2.1 q.2.2.2.2 hm am v hd fd)) (wr := [(ho, .inl (G.2.2.1 2, 1, .inr (.inl (hoI fo q.1))))] ++ (wAll G h0 a0 q.2.1 a1 q.2.2.1 ra rb q.2.2.2.1 q.2.2.2.2 ++ [(hd, .inl (G.2.2.1 5, 1, .inr (.inr (.inr (.inl fd)))))])) (lpm3 _ _ _ _) (fun v => (lpm3 _ _ _ _).symm) hl.1 (Nat.le_of_ble_eq_true rfl) hcs dL_law_1692 (fun r9 v9 H locs hw hP hD hS => ?_)
  obtain ⟨hr9, hv9⟩ := hw
  subst hv9
  subst hr9
  have hP : va_P (gD G) vwCl (LW G ho (hoI fo q.1) h0 a0 a1 ra rb q.2.1 q.2.2.1 q.2.2.2.1 q.2.2.2.2 hm am m9 hd fd) H := hP
  have hD : va_D A (LW G ho (hoI fo q.1) h0 a0 a1 ra rb q.2.1 q.2.2.1 q.2.2.2.1 q.2.2.2.2 hm am m9 hd fd) := hD
  refine lv_istore (lv' := [(7, .int b9), (6, .int (m9.1 7)), (5, .int (Int32.ofNat n)), (4, .ref hd), (3, .ref ho), (2, .ref hm), (1, .ref h0), (0, .ref b)]) hx hb dL_law_1695 hl (by decide) rfl (fun ls hl => ?_)
  refine lv_aload_n hx hb dL_law_1697 rfl (lv_at hl 5 rfl) ?_
  refine kMi (As := []) (rest := []) hC (c_X6_thrown (G := G) (N := N) (q := m9.1 7) rfl) kq5_72 kc_X6_thrown (by decide) 0 (ci := 4) rfl rfl hP hK hD hE hS hA (out := fun v : Ob => (LW G ho (hoI fo q.1) h0 a0 a1 ra rb q.2.1 q.2.2.1 q.2.2.2.1 q.2.2.2.2 hm am v hd fd)) (wr := [(ho, .inl (G.2.2.1 2, 1, .inr (.inl (hoI fo q.1))))] ++ (wAll G h0 a0 q.2.1 a1 q.2.2.1 ra rb q.2.2.2.1 q.2.2.2.2 ++ [(hd, .inl (G.2.2.1 5, 1, .inr (.inr (.inr (.inl fd)))))])) (lpm3 _ _ _ _) (fun v => (lpm3 _ _ _ _).symm) hl.1 (Nat.le_of_ble_eq_true rfl) hcs dL_law_1698 (fun r9 v9 H locs hw hP hD hS => ?_)
  obtain ⟨hr9, hv9⟩ := hw
  subst hv9
  subst hr9
  have hP : va_P (gD G) vwCl (LW G ho (hoI fo q.1) h0 a0 a1 ra rb q.2.1 q.2.2.1 q.2.2.2.1 q.2.2.2.2 hm am m9 hd fd) H := hP
  have hD : va_D A (LW G ho (hoI fo q.1) h0 a0 a1 ra rb q.2.1 q.2.2.1 q.2.2.2.1 q.2.2.2.2 hm am m9 hd fd) := hD
  refine lv_iload hx hb dL_law_1701 (lv_at hl 1 rfl) ?_
  refine lv_icmp_eq (tgt := 1708) hx hb dL_law_1703 (by decide) (fun _ => ?_) (fun h => absurd rfl h)
  refine lv_iload hx hb dL_law_1708 (lv_at hl 1 rfl) ?_
  refine lv_if_ne (tgt := 1725) hx hb dL_law_1710 (by decide) (fun h9 => ?_) (fun h9 => ?_)
  · skip
    refine lv_goto (tgt := 1884) hx hb dL_law_1725 (by decide) ?_
    exact kk (hoI fo q.1) fd q.2.1 q.2.2.1 q.2.2.2.1 q.2.2.2.2 m9 H locs ls hRel9 hP hD hS (lv_sub hl [2, 3, 4, 5, 6, 7] rfl)
  · have hq := okX_r hok ((okX_hc hok).trans h9)
    refine lv_aload_n hx hb dL_law_1713 rfl (lv_at hl 4 rfl) ?_
    refine lv_iconst (v := (0 : Int32)) hx hb dL_law_1714 (by decide) ?_
    refine va_lald (f := (hoI fo q.1)) hx hb hK hP 0 2 rfl rfl (vin (by decide)) dL_law_1715 ?_
    have hv : (hoI fo q.1) (0 : Int32).toNatClampNeg = b9.toInt64 := by rw [hq]; rfl
    rw [hv]
    refine lv_iload hx hb dL_law_1716 (lv_at hl 0 rfl) ?_
    refine lv_i2l (v := b9.toInt64) hx hb dL_law_1718 rfl ?_
    refine lc_eq (tgt := 1725) hx hb dL_law_1719 dL_law_1720 (by decide) (fun _ => ?_) (fun h => absurd rfl h)
    refine lv_goto (tgt := 1884) hx hb dL_law_1725 (by decide) ?_
    exact kk (hoI fo q.1) fd q.2.1 q.2.2.1 q.2.2.2.1 q.2.2.2.2 m9 H locs ls hRel9 hP hD hS (lv_sub hl [2, 3, 4, 5, 6, 7] rfl)
def S_undo (Rel : Cst → Ob → Prop) (N : Nat) : Prop := ∀ (u0 u1 : Ob) (u2 u3 : Nat → Ob) (mo : Ob), Rel (u0, u1, u2, u3) mo → ∃ q b m9, f_X5_undo N u0 u1 u2 u3 = some q ∧ f_X6_undo N mo = some (b, m9) ∧ okX 0 0 q.1 b (m9.1 7) ∧ Rel q.2 m9
set_option maxRecDepth 100000 in
set_option maxHeartbeats 4000000 in
theorem w_undo {p : Program} {l : Launch} {e : Env} {s : State} {m : MethodId} {args : Array Value} {below : List Frame} {meth : Method} {c : Code} {H : Heap} {locs : List Loc} {cells slots : Nat} {Q : State → Prop} {ls : Array Slot} {A : Nat → Prop} {G : Gp} {b L n : Nat} {xs : Nat → Int32} {ho h0 hm hd : Nat} {fo : Nat → Int64} {fd : Nat → UInt64} {a0 a1 am : Nat → Nat} {ra rb : Nat → Nat → Nat} {u0 u1 mo : Ob} {u2 u3 : Nat → Ob} {Rel : Cst → Ob → Prop} {N : Nat}
    (hst : S_undo Rel N) (hRel : Rel (u0, u1, u2, u3) mo) (hC : CallFix p m c code 9 s args lw_g RL) (hlf : l.stackTraces = false) (hX : va_X b L xs s s.heap) (hbl : b < s.heap.size) (hbA : ¬ A b) (hL : L ≤ 3072) (hn : n + 6 ≤ L) (hP : va_P (gD G) vwCl (LW G ho fo h0 a0 a1 ra rb u0 u1 u2 u3 hm am mo hd fd) H) (hK : va_K (gD G) vwCl (gT G) s) (hD : va_D A (LW G ho fo h0 a0 a1 ra rb u0 u1 u2 u3 hm am mo hd fd)) (hE : Ev (gE G) A s) (hS : va_S A s.heap H locs) (hA : ∀ q : Nat, s.heap.size ≤ q → A q) (hl : lv_has ls 9 [(5, .int (Int32.ofNat n)), (4, .ref hd), (3, .ref ho), (2, .ref hm), (1, .ref h0), (0, .ref b)]) (hcs : cells + 1 ≤ 601024 ∧ slots + 6 ≤ 7293034)
    (kk : ∀ (fo' : Nat → Int64) (fd' : Nat → UInt64) (u0 u1 : Ob) (u2 u3 : Nat → Ob) (mo : Ob) (H : Heap) (locs : List Loc) (ls : Array Slot), Rel (u0, u1, u2, u3) mo → va_P (gD G) vwCl (LW G ho fo' h0 a0 a1 ra rb u0 u1 u2 u3 hm am mo hd fd') H → va_D A (LW G ho fo' h0 a0 a1 ra rb u0 u1 u2 u3 hm am mo hd fd') → va_S A s.heap H locs → lv_has ls 9 [(5, .int (Int32.ofNat n)), (4, .ref hd), (3, .ref ho), (2, .ref hm), (1, .ref h0), (0, .ref b)] → W p l e room_1 s m args below meth c H locs (cells + 1) (slots + 6) Q (F0 m 1884 ls [])) :
    W p l e room_1 s m args below meth c H locs cells slots Q (F0 m 1728 ls []) := by
  obtain ⟨hx, hb, hml, hown, hg⟩ := id hC
  obtain ⟨q, b9, m9, e5, e6, hok, hRel9⟩ := hst u0 u1 u2 u3 mo hRel
  skip
  refine lv_aload_n hx hb dL_law_1728 rfl (lv_at hl 4 rfl) ?_
  refine lv_aload_n hx hb dL_law_1729 rfl (lv_at hl 2 rfl) ?_
  refine kH (As := [.ref h0, .ref ho]) (rest := []) hC (c_L_undo hlf (G := G) (fo := fo) e5 (okX_hk1 hok)) kq4_203 kc_L_undo (by decide) hP hK hD hE hS hA (out := (fun v : (Nat → Int64) × Ob × Ob × (Nat → Ob) × (Nat → Ob) => (LW G ho v.1 h0 a0 a1 ra rb v.2.1 v.2.2.1 v.2.2.2.1 v.2.2.2.2 hm am mo hd fd))) (wr := wX6 G hm am mo ++ [(hd, .inl (G.2.2.1 5, 1, .inr (.inr (.inr (.inl fd)))))]) (lpm1 _ _ _ _) (fun v => (lpm1 _ _ _ _).symm) hl.1 (Nat.le_of_ble_eq_true rfl) hcs dL_law_1730 (fun r9 v9 H locs hw hP hD hS => ?_)
  obtain ⟨hr9, hv9⟩ := hw
  subst hv9
  rw [okX_hc hok] at hr9
  subst hr9
  have hP : va_P (gD G) vwCl (LW G ho (hoI fo q.1) h0 a0 a1 ra rb q.2.1 q.2.2.1 q.2.2.2.1 q.2.2.2.2 hm am mo hd fd) H := hP
  have hD : va_D A (LW G ho (hoI fo q.1) h0 a0 a1 ra rb q.2.1 q.2.2.1 q.2.2.2.1 q.2.2.2.2 hm am mo hd fd) := hD
  refine lv_istore (lv' := [(6, .int (m9.1 7)), (5, .int (Int32.ofNat n)), (4, .ref hd), (3, .ref ho), (2, .ref hm), (1, .ref h0), (0, .ref b)]) hx hb dL_law_1733 hl (by decide) rfl (fun ls hl => ?_)
  refine lv_aload_n hx hb dL_law_1735 rfl (lv_at hl 4 rfl) ?_
  refine kMi (As := []) (rest := []) hC (c_X6_undo (G := G) (N := N) e6) kq5_76 kc_X6_undo (by decide) 0 (ci := 4) rfl rfl hP hK hD hE hS hA (out := fun v : Ob => (LW G ho (hoI fo q.1) h0 a0 a1 ra rb q.2.1 q.2.2.1 q.2.2.2.1 q.2.2.2.2 hm am v hd fd)) (wr := [(ho, .inl (G.2.2.1 2, 1, .inr (.inl (hoI fo q.1))))] ++ (wAll G h0 a0 q.2.1 a1 q.2.2.1 ra rb q.2.2.2.1 q.2.2.2.2 ++ [(hd, .inl (G.2.2.1 5, 1, .inr (.inr (.inr (.inl fd)))))])) (lpm3 _ _ _ _) (fun v => (lpm3 _ _ _ _).symm) hl.1 (Nat.le_of_ble_eq_true rfl) hcs dL_law_1736 (fun r9 v9 H locs hw hP hD hS => ?_)
  obtain ⟨hr9, hv9⟩ := hw
  subst hv9
  subst hr9
  have hP : va_P (gD G) vwCl (LW G ho (hoI fo q.1) h0 a0 a1 ra rb q.2.1 q.2.2.1 q.2.2.2.1 q.2.2.2.2 hm am m9 hd fd) H := hP
  have hD : va_D A (LW G ho (hoI fo q.1) h0 a0 a1 ra rb q.2.1 q.2.2.1 q.2.2.2.1 q.2.2.2.2 hm am m9 hd fd) := hD
  refine lv_istore (lv' := [(7, .int b9), (6, .int (m9.1 7)), (5, .int (Int32.ofNat n)), (4, .ref hd), (3, .ref ho), (2, .ref hm), (1, .ref h0), (0, .ref b)]) hx hb dL_law_1739 hl (by decide) rfl (fun ls hl => ?_)
  refine lv_aload_n hx hb dL_law_1741 rfl (lv_at hl 5 rfl) ?_
  refine kMi (As := []) (rest := []) hC (c_X6_thrown (G := G) (N := N) (q := m9.1 7) rfl) kq5_72 kc_X6_thrown (by decide) 0 (ci := 4) rfl rfl hP hK hD hE hS hA (out := fun v : Ob => (LW G ho (hoI fo q.1) h0 a0 a1 ra rb q.2.1 q.2.2.1 q.2.2.2.1 q.2.2.2.2 hm am v hd fd)) (wr := [(ho, .inl (G.2.2.1 2, 1, .inr (.inl (hoI fo q.1))))] ++ (wAll G h0 a0 q.2.1 a1 q.2.2.1 ra rb q.2.2.2.1 q.2.2.2.2 ++ [(hd, .inl (G.2.2.1 5, 1, .inr (.inr (.inr (.inl fd)))))])) (lpm3 _ _ _ _) (fun v => (lpm3 _ _ _ _).symm) hl.1 (Nat.le_of_ble_eq_true rfl) hcs dL_law_1742 (fun r9 v9 H locs hw hP hD hS => ?_)
  obtain ⟨hr9, hv9⟩ := hw
  subst hv9
  subst hr9
  have hP : va_P (gD G) vwCl (LW G ho (hoI fo q.1) h0 a0 a1 ra rb q.2.1 q.2.2.1 q.2.2.2.1 q.2.2.2.2 hm am m9 hd fd) H := hP
  have hD : va_D A (LW G ho (hoI fo q.1) h0 a0 a1 ra rb q.2.1 q.2.2.1 q.2.2.2.1 q.2.2.2.2 hm am m9 hd fd) := hD
  refine lv_iload hx hb dL_law_1745 (lv_at hl 1 rfl) ?_
  refine lv_icmp_eq (tgt := 1752) hx hb dL_law_1747 (by decide) (fun _ => ?_) (fun h => absurd rfl h)
  refine lv_iload hx hb dL_law_1752 (lv_at hl 1 rfl) ?_
  refine lv_if_ne (tgt := 1769) hx hb dL_law_1754 (by decide) (fun h9 => ?_) (fun h9 => ?_)
  · skip
    refine lv_goto (tgt := 1884) hx hb dL_law_1769 (by decide) ?_
    exact kk (hoI fo q.1) fd q.2.1 q.2.2.1 q.2.2.2.1 q.2.2.2.2 m9 H locs ls hRel9 hP hD hS (lv_sub hl [2, 3, 4, 5, 6, 7] rfl)
  · have hq := okX_r hok ((okX_hc hok).trans h9)
    refine lv_aload_n hx hb dL_law_1757 rfl (lv_at hl 4 rfl) ?_
    refine lv_iconst (v := (0 : Int32)) hx hb dL_law_1758 (by decide) ?_
    refine va_lald (f := (hoI fo q.1)) hx hb hK hP 0 2 rfl rfl (vin (by decide)) dL_law_1759 ?_
    have hv : (hoI fo q.1) (0 : Int32).toNatClampNeg = b9.toInt64 := by rw [hq]; rfl
    rw [hv]
    refine lv_iload hx hb dL_law_1760 (lv_at hl 0 rfl) ?_
    refine lv_i2l (v := b9.toInt64) hx hb dL_law_1762 rfl ?_
    refine lc_eq (tgt := 1769) hx hb dL_law_1763 dL_law_1764 (by decide) (fun _ => ?_) (fun h => absurd rfl h)
    refine lv_goto (tgt := 1884) hx hb dL_law_1769 (by decide) ?_
    exact kk (hoI fo q.1) fd q.2.1 q.2.2.1 q.2.2.2.1 q.2.2.2.2 m9 H locs ls hRel9 hP hD hS (lv_sub hl [2, 3, 4, 5, 6, 7] rfl)
def S_save (Rel : Cst → Ob → Prop) (N : Nat) : Prop := ∀ (u0 u1 : Ob) (u2 u3 : Nat → Ob) (mo : Ob), Rel (u0, u1, u2, u3) mo → ∀ (x1 : Int32), ∃ q b m9, f_X5_save N x1 u0 u1 u2 u3 = some q ∧ f_X6_save N x1 mo = some (b, m9) ∧ okX 2 2 q.1 b (m9.1 7) ∧ Rel q.2 m9
set_option maxRecDepth 100000 in
set_option maxHeartbeats 4000000 in
theorem w_save {p : Program} {l : Launch} {e : Env} {s : State} {m : MethodId} {args : Array Value} {below : List Frame} {meth : Method} {c : Code} {H : Heap} {locs : List Loc} {cells slots : Nat} {Q : State → Prop} {ls : Array Slot} {A : Nat → Prop} {G : Gp} {b L n : Nat} {xs : Nat → Int32} {ho h0 hm hd : Nat} {fo : Nat → Int64} {fd : Nat → UInt64} {a0 a1 am : Nat → Nat} {ra rb : Nat → Nat → Nat} {u0 u1 mo : Ob} {u2 u3 : Nat → Ob} {Rel : Cst → Ob → Prop} {N : Nat}
    (hst : S_save Rel N) (hRel : Rel (u0, u1, u2, u3) mo) (hC : CallFix p m c code 9 s args lw_g RL) (hlf : l.stackTraces = false) (hX : va_X b L xs s s.heap) (hbl : b < s.heap.size) (hbA : ¬ A b) (hL : L ≤ 3072) (hn : n + 6 ≤ L) (hP : va_P (gD G) vwCl (LW G ho fo h0 a0 a1 ra rb u0 u1 u2 u3 hm am mo hd fd) H) (hK : va_K (gD G) vwCl (gT G) s) (hD : va_D A (LW G ho fo h0 a0 a1 ra rb u0 u1 u2 u3 hm am mo hd fd)) (hE : Ev (gE G) A s) (hS : va_S A s.heap H locs) (hA : ∀ q : Nat, s.heap.size ≤ q → A q) (hl : lv_has ls 9 [(5, .int (Int32.ofNat n)), (4, .ref hd), (3, .ref ho), (2, .ref hm), (1, .ref h0), (0, .ref b)]) (hcs : cells + 1 ≤ 601024 ∧ slots + 6 ≤ 7293034)
    (kk : ∀ (fo' : Nat → Int64) (fd' : Nat → UInt64) (u0 u1 : Ob) (u2 u3 : Nat → Ob) (mo : Ob) (H : Heap) (locs : List Loc) (ls : Array Slot), Rel (u0, u1, u2, u3) mo → va_P (gD G) vwCl (LW G ho fo' h0 a0 a1 ra rb u0 u1 u2 u3 hm am mo hd fd') H → va_D A (LW G ho fo' h0 a0 a1 ra rb u0 u1 u2 u3 hm am mo hd fd') → va_S A s.heap H locs → lv_has ls 9 [(5, .int (Int32.ofNat n)), (4, .ref hd), (3, .ref ho), (2, .ref hm), (1, .ref h0), (0, .ref b)] → W p l e room_1 s m args below meth c H locs (cells + 1) (slots + 6) Q (F0 m 1884 ls [])) :
    W p l e room_1 s m args below meth c H locs cells slots Q (F0 m 1772 ls []) := by
  obtain ⟨hx, hb, hml, hown, hg⟩ := id hC
  obtain ⟨q, b9, m9, e5, e6, hok, hRel9⟩ := hst u0 u1 u2 u3 mo hRel (xs (n + 1))
  skip
  refine lv_aload_n hx hb dL_law_1772 rfl (lv_at hl 4 rfl) ?_
  refine sc (k := 1) (kI := 1) 5 0 (by decide) hx hb hX hbl hbA hS hl rfl rfl (by omega) hL dL_law_1773 dL_law_1774 dL_law_1776 dL_law_1777 dL_law_1778 ?_
  refine lv_aload_n hx hb dL_law_1779 rfl (lv_at hl 2 rfl) ?_
  refine kH (As := [.ref h0, .int (xs (n + 1)), .ref ho]) (rest := []) hC (c_L_save hlf (G := G) (fo := fo) e5 (okX_hk1 hok)) kq4_211 kc_L_save (by decide) hP hK hD hE hS hA (out := (fun v : (Nat → Int64) × Ob × Ob × (Nat → Ob) × (Nat → Ob) => (LW G ho v.1 h0 a0 a1 ra rb v.2.1 v.2.2.1 v.2.2.2.1 v.2.2.2.2 hm am mo hd fd))) (wr := wX6 G hm am mo ++ [(hd, .inl (G.2.2.1 5, 1, .inr (.inr (.inr (.inl fd)))))]) (lpm1 _ _ _ _) (fun v => (lpm1 _ _ _ _).symm) hl.1 (Nat.le_of_ble_eq_true rfl) hcs dL_law_1780 (fun r9 v9 H locs hw hP hD hS => ?_)
  obtain ⟨hr9, hv9⟩ := hw
  subst hv9
  rw [okX_hc hok] at hr9
  subst hr9
  have hP : va_P (gD G) vwCl (LW G ho (hoI fo q.1) h0 a0 a1 ra rb q.2.1 q.2.2.1 q.2.2.2.1 q.2.2.2.2 hm am mo hd fd) H := hP
  have hD : va_D A (LW G ho (hoI fo q.1) h0 a0 a1 ra rb q.2.1 q.2.2.1 q.2.2.2.1 q.2.2.2.2 hm am mo hd fd) := hD
  refine lv_istore (lv' := [(6, .int (m9.1 7)), (5, .int (Int32.ofNat n)), (4, .ref hd), (3, .ref ho), (2, .ref hm), (1, .ref h0), (0, .ref b)]) hx hb dL_law_1783 hl (by decide) rfl (fun ls hl => ?_)
  refine lv_aload_n hx hb dL_law_1785 rfl (lv_at hl 4 rfl) ?_
  refine sc (k := 1) (kI := 1) 6 1 (by decide) hx hb hX hbl hbA hS hl rfl rfl (by omega) hL dL_law_1786 dL_law_1787 dL_law_1789 dL_law_1790 dL_law_1791 ?_
  refine kMi (As := [.int (xs (n + 1))]) (rest := []) hC (c_X6_save (G := G) (N := N) e6) kq5_80 kc_X6_save (by decide) 0 (ci := 4) rfl rfl hP hK hD hE hS hA (out := fun v : Ob => (LW G ho (hoI fo q.1) h0 a0 a1 ra rb q.2.1 q.2.2.1 q.2.2.2.1 q.2.2.2.2 hm am v hd fd)) (wr := [(ho, .inl (G.2.2.1 2, 1, .inr (.inl (hoI fo q.1))))] ++ (wAll G h0 a0 q.2.1 a1 q.2.2.1 ra rb q.2.2.2.1 q.2.2.2.2 ++ [(hd, .inl (G.2.2.1 5, 1, .inr (.inr (.inr (.inl fd)))))])) (lpm3 _ _ _ _) (fun v => (lpm3 _ _ _ _).symm) hl.1 (Nat.le_of_ble_eq_true rfl) hcs dL_law_1792 (fun r9 v9 H locs hw hP hD hS => ?_)
  obtain ⟨hr9, hv9⟩ := hw
  subst hv9
  subst hr9
  have hP : va_P (gD G) vwCl (LW G ho (hoI fo q.1) h0 a0 a1 ra rb q.2.1 q.2.2.1 q.2.2.2.1 q.2.2.2.2 hm am m9 hd fd) H := hP
  have hD : va_D A (LW G ho (hoI fo q.1) h0 a0 a1 ra rb q.2.1 q.2.2.1 q.2.2.2.1 q.2.2.2.2 hm am m9 hd fd) := hD
  refine lv_istore (lv' := [(7, .int b9), (6, .int (m9.1 7)), (5, .int (Int32.ofNat n)), (4, .ref hd), (3, .ref ho), (2, .ref hm), (1, .ref h0), (0, .ref b)]) hx hb dL_law_1795 hl (by decide) rfl (fun ls hl => ?_)
  refine lv_aload_n hx hb dL_law_1797 rfl (lv_at hl 5 rfl) ?_
  refine kMi (As := []) (rest := []) hC (c_X6_thrown (G := G) (N := N) (q := m9.1 7) rfl) kq5_72 kc_X6_thrown (by decide) 0 (ci := 4) rfl rfl hP hK hD hE hS hA (out := fun v : Ob => (LW G ho (hoI fo q.1) h0 a0 a1 ra rb q.2.1 q.2.2.1 q.2.2.2.1 q.2.2.2.2 hm am v hd fd)) (wr := [(ho, .inl (G.2.2.1 2, 1, .inr (.inl (hoI fo q.1))))] ++ (wAll G h0 a0 q.2.1 a1 q.2.2.1 ra rb q.2.2.2.1 q.2.2.2.2 ++ [(hd, .inl (G.2.2.1 5, 1, .inr (.inr (.inr (.inl fd)))))])) (lpm3 _ _ _ _) (fun v => (lpm3 _ _ _ _).symm) hl.1 (Nat.le_of_ble_eq_true rfl) hcs dL_law_1798 (fun r9 v9 H locs hw hP hD hS => ?_)
  obtain ⟨hr9, hv9⟩ := hw
  subst hv9
  subst hr9
  have hP : va_P (gD G) vwCl (LW G ho (hoI fo q.1) h0 a0 a1 ra rb q.2.1 q.2.2.1 q.2.2.2.1 q.2.2.2.2 hm am m9 hd fd) H := hP
  have hD : va_D A (LW G ho (hoI fo q.1) h0 a0 a1 ra rb q.2.1 q.2.2.1 q.2.2.2.1 q.2.2.2.2 hm am m9 hd fd) := hD
  refine lv_iload hx hb dL_law_1801 (lv_at hl 1 rfl) ?_
  refine lv_icmp_eq (tgt := 1808) hx hb dL_law_1803 (by decide) (fun _ => ?_) (fun h => absurd rfl h)
  refine lv_iload hx hb dL_law_1808 (lv_at hl 1 rfl) ?_
  refine lv_if_ne (tgt := 1825) hx hb dL_law_1810 (by decide) (fun h9 => ?_) (fun h9 => ?_)
  · skip
    refine lv_goto (tgt := 1884) hx hb dL_law_1825 (by decide) ?_
    exact kk (hoI fo q.1) fd q.2.1 q.2.2.1 q.2.2.2.1 q.2.2.2.2 m9 H locs ls hRel9 hP hD hS (lv_sub hl [2, 3, 4, 5, 6, 7] rfl)
  · have hq := okX_r hok ((okX_hc hok).trans h9)
    refine lv_aload_n hx hb dL_law_1813 rfl (lv_at hl 4 rfl) ?_
    refine lv_iconst (v := (0 : Int32)) hx hb dL_law_1814 (by decide) ?_
    refine va_lald (f := (hoI fo q.1)) hx hb hK hP 0 2 rfl rfl (vin (by decide)) dL_law_1815 ?_
    have hv : (hoI fo q.1) (0 : Int32).toNatClampNeg = b9.toInt64 := by rw [hq]; rfl
    rw [hv]
    refine lv_iload hx hb dL_law_1816 (lv_at hl 0 rfl) ?_
    refine lv_i2l (v := b9.toInt64) hx hb dL_law_1818 rfl ?_
    refine lc_eq (tgt := 1825) hx hb dL_law_1819 dL_law_1820 (by decide) (fun _ => ?_) (fun h => absurd rfl h)
    refine lv_goto (tgt := 1884) hx hb dL_law_1825 (by decide) ?_
    exact kk (hoI fo q.1) fd q.2.1 q.2.2.1 q.2.2.2.1 q.2.2.2.2 m9 H locs ls hRel9 hP hD hS (lv_sub hl [2, 3, 4, 5, 6, 7] rfl)
def S_restore (Rel : Cst → Ob → Prop) (N : Nat) : Prop := ∀ (u0 u1 : Ob) (u2 u3 : Nat → Ob) (mo : Ob), Rel (u0, u1, u2, u3) mo → ∀ (x1 : Int32), ∃ q b m9, f_X5_restore N x1 u0 u1 u2 u3 = some q ∧ f_X6_restore N x1 mo = some (b, m9) ∧ okX 2 0 q.1 b (m9.1 7) ∧ Rel q.2 m9
set_option maxRecDepth 100000 in
set_option maxHeartbeats 4000000 in
theorem w_restore {p : Program} {l : Launch} {e : Env} {s : State} {m : MethodId} {args : Array Value} {below : List Frame} {meth : Method} {c : Code} {H : Heap} {locs : List Loc} {cells slots : Nat} {Q : State → Prop} {ls : Array Slot} {A : Nat → Prop} {G : Gp} {b L n : Nat} {xs : Nat → Int32} {ho h0 hm hd : Nat} {fo : Nat → Int64} {fd : Nat → UInt64} {a0 a1 am : Nat → Nat} {ra rb : Nat → Nat → Nat} {u0 u1 mo : Ob} {u2 u3 : Nat → Ob} {Rel : Cst → Ob → Prop} {N : Nat}
    (hst : S_restore Rel N) (hRel : Rel (u0, u1, u2, u3) mo) (hC : CallFix p m c code 9 s args lw_g RL) (hlf : l.stackTraces = false) (hX : va_X b L xs s s.heap) (hbl : b < s.heap.size) (hbA : ¬ A b) (hL : L ≤ 3072) (hn : n + 6 ≤ L) (hP : va_P (gD G) vwCl (LW G ho fo h0 a0 a1 ra rb u0 u1 u2 u3 hm am mo hd fd) H) (hK : va_K (gD G) vwCl (gT G) s) (hD : va_D A (LW G ho fo h0 a0 a1 ra rb u0 u1 u2 u3 hm am mo hd fd)) (hE : Ev (gE G) A s) (hS : va_S A s.heap H locs) (hA : ∀ q : Nat, s.heap.size ≤ q → A q) (hl : lv_has ls 9 [(5, .int (Int32.ofNat n)), (4, .ref hd), (3, .ref ho), (2, .ref hm), (1, .ref h0), (0, .ref b)]) (hcs : cells + 1 ≤ 601024 ∧ slots + 6 ≤ 7293034)
    (kk : ∀ (fo' : Nat → Int64) (fd' : Nat → UInt64) (u0 u1 : Ob) (u2 u3 : Nat → Ob) (mo : Ob) (H : Heap) (locs : List Loc) (ls : Array Slot), Rel (u0, u1, u2, u3) mo → va_P (gD G) vwCl (LW G ho fo' h0 a0 a1 ra rb u0 u1 u2 u3 hm am mo hd fd') H → va_D A (LW G ho fo' h0 a0 a1 ra rb u0 u1 u2 u3 hm am mo hd fd') → va_S A s.heap H locs → lv_has ls 9 [(5, .int (Int32.ofNat n)), (4, .ref hd), (3, .ref ho), (2, .ref hm), (1, .ref h0), (0, .ref b)] → W p l e room_1 s m args below meth c H locs (cells + 1) (slots + 6) Q (F0 m 1884 ls [])) :
    W p l e room_1 s m args below meth c H locs cells slots Q (F0 m 1828 ls []) := by
  obtain ⟨hx, hb, hml, hown, hg⟩ := id hC
  obtain ⟨q, b9, m9, e5, e6, hok, hRel9⟩ := hst u0 u1 u2 u3 mo hRel (xs (n + 1))
  skip
  refine lv_aload_n hx hb dL_law_1828 rfl (lv_at hl 4 rfl) ?_
  refine sc (k := 1) (kI := 1) 5 0 (by decide) hx hb hX hbl hbA hS hl rfl rfl (by omega) hL dL_law_1829 dL_law_1830 dL_law_1832 dL_law_1833 dL_law_1834 ?_
  refine lv_aload_n hx hb dL_law_1835 rfl (lv_at hl 2 rfl) ?_
  refine kH (As := [.ref h0, .int (xs (n + 1)), .ref ho]) (rest := []) hC (c_L_restore hlf (G := G) (fo := fo) e5 (okX_hk hok)) kq4_219 kc_L_restore (by decide) hP hK hD hE hS hA (out := (fun v : (Nat → Int64) × Ob × Ob × (Nat → Ob) × (Nat → Ob) => (LW G ho v.1 h0 a0 a1 ra rb v.2.1 v.2.2.1 v.2.2.2.1 v.2.2.2.2 hm am mo hd fd))) (wr := wX6 G hm am mo ++ [(hd, .inl (G.2.2.1 5, 1, .inr (.inr (.inr (.inl fd)))))]) (lpm1 _ _ _ _) (fun v => (lpm1 _ _ _ _).symm) hl.1 (Nat.le_of_ble_eq_true rfl) hcs dL_law_1836 (fun r9 v9 H locs hw hP hD hS => ?_)
  obtain ⟨hr9, hv9⟩ := hw
  subst hv9
  rw [okX_hc hok] at hr9
  subst hr9
  have hP : va_P (gD G) vwCl (LW G ho (hoI fo q.1) h0 a0 a1 ra rb q.2.1 q.2.2.1 q.2.2.2.1 q.2.2.2.2 hm am mo hd fd) H := hP
  have hD : va_D A (LW G ho (hoI fo q.1) h0 a0 a1 ra rb q.2.1 q.2.2.1 q.2.2.2.1 q.2.2.2.2 hm am mo hd fd) := hD
  refine lv_istore (lv' := [(6, .int (m9.1 7)), (5, .int (Int32.ofNat n)), (4, .ref hd), (3, .ref ho), (2, .ref hm), (1, .ref h0), (0, .ref b)]) hx hb dL_law_1839 hl (by decide) rfl (fun ls hl => ?_)
  refine lv_aload_n hx hb dL_law_1841 rfl (lv_at hl 4 rfl) ?_
  refine sc (k := 1) (kI := 1) 6 1 (by decide) hx hb hX hbl hbA hS hl rfl rfl (by omega) hL dL_law_1842 dL_law_1843 dL_law_1845 dL_law_1846 dL_law_1847 ?_
  refine kMi (As := [.int (xs (n + 1))]) (rest := []) hC (c_X6_restore (G := G) (N := N) e6) kq5_87 kc_X6_restore (by decide) 0 (ci := 4) rfl rfl hP hK hD hE hS hA (out := fun v : Ob => (LW G ho (hoI fo q.1) h0 a0 a1 ra rb q.2.1 q.2.2.1 q.2.2.2.1 q.2.2.2.2 hm am v hd fd)) (wr := [(ho, .inl (G.2.2.1 2, 1, .inr (.inl (hoI fo q.1))))] ++ (wAll G h0 a0 q.2.1 a1 q.2.2.1 ra rb q.2.2.2.1 q.2.2.2.2 ++ [(hd, .inl (G.2.2.1 5, 1, .inr (.inr (.inr (.inl fd)))))])) (lpm3 _ _ _ _) (fun v => (lpm3 _ _ _ _).symm) hl.1 (Nat.le_of_ble_eq_true rfl) hcs dL_law_1848 (fun r9 v9 H locs hw hP hD hS => ?_)
  obtain ⟨hr9, hv9⟩ := hw
  subst hv9
  subst hr9
  have hP : va_P (gD G) vwCl (LW G ho (hoI fo q.1) h0 a0 a1 ra rb q.2.1 q.2.2.1 q.2.2.2.1 q.2.2.2.2 hm am m9 hd fd) H := hP
  have hD : va_D A (LW G ho (hoI fo q.1) h0 a0 a1 ra rb q.2.1 q.2.2.1 q.2.2.2.1 q.2.2.2.2 hm am m9 hd fd) := hD
  refine lv_istore (lv' := [(7, .int b9), (6, .int (m9.1 7)), (5, .int (Int32.ofNat n)), (4, .ref hd), (3, .ref ho), (2, .ref hm), (1, .ref h0), (0, .ref b)]) hx hb dL_law_1851 hl (by decide) rfl (fun ls hl => ?_)
  refine lv_aload_n hx hb dL_law_1853 rfl (lv_at hl 5 rfl) ?_
  refine kMi (As := []) (rest := []) hC (c_X6_thrown (G := G) (N := N) (q := m9.1 7) rfl) kq5_72 kc_X6_thrown (by decide) 0 (ci := 4) rfl rfl hP hK hD hE hS hA (out := fun v : Ob => (LW G ho (hoI fo q.1) h0 a0 a1 ra rb q.2.1 q.2.2.1 q.2.2.2.1 q.2.2.2.2 hm am v hd fd)) (wr := [(ho, .inl (G.2.2.1 2, 1, .inr (.inl (hoI fo q.1))))] ++ (wAll G h0 a0 q.2.1 a1 q.2.2.1 ra rb q.2.2.2.1 q.2.2.2.2 ++ [(hd, .inl (G.2.2.1 5, 1, .inr (.inr (.inr (.inl fd)))))])) (lpm3 _ _ _ _) (fun v => (lpm3 _ _ _ _).symm) hl.1 (Nat.le_of_ble_eq_true rfl) hcs dL_law_1854 (fun r9 v9 H locs hw hP hD hS => ?_)
  obtain ⟨hr9, hv9⟩ := hw
  subst hv9
  subst hr9
  have hP : va_P (gD G) vwCl (LW G ho (hoI fo q.1) h0 a0 a1 ra rb q.2.1 q.2.2.1 q.2.2.2.1 q.2.2.2.2 hm am m9 hd fd) H := hP
  have hD : va_D A (LW G ho (hoI fo q.1) h0 a0 a1 ra rb q.2.1 q.2.2.1 q.2.2.2.1 q.2.2.2.2 hm am m9 hd fd) := hD
  refine lv_iload hx hb dL_law_1857 (lv_at hl 1 rfl) ?_
  refine lv_icmp_eq (tgt := 1864) hx hb dL_law_1859 (by decide) (fun _ => ?_) (fun h => absurd rfl h)
  refine lv_iload hx hb dL_law_1864 (lv_at hl 1 rfl) ?_
  refine lv_if_ne (tgt := 1881) hx hb dL_law_1866 (by decide) (fun h9 => ?_) (fun h9 => ?_)
  · skip
    refine lv_goto (tgt := 1884) hx hb dL_law_1881 (by decide) ?_
    exact kk (hoI fo q.1) fd q.2.1 q.2.2.1 q.2.2.2.1 q.2.2.2.2 m9 H locs ls hRel9 hP hD hS (lv_sub hl [2, 3, 4, 5, 6, 7] rfl)
  · have hq := okX_r hok ((okX_hc hok).trans h9)
    refine lv_aload_n hx hb dL_law_1869 rfl (lv_at hl 4 rfl) ?_
    refine lv_iconst (v := (0 : Int32)) hx hb dL_law_1870 (by decide) ?_
    refine va_lald (f := (hoI fo q.1)) hx hb hK hP 0 2 rfl rfl (vin (by decide)) dL_law_1871 ?_
    have hv : (hoI fo q.1) (0 : Int32).toNatClampNeg = b9.toInt64 := by rw [hq]; rfl
    rw [hv]
    refine lv_iload hx hb dL_law_1872 (lv_at hl 0 rfl) ?_
    refine lv_i2l (v := b9.toInt64) hx hb dL_law_1874 rfl ?_
    refine lc_eq (tgt := 1881) hx hb dL_law_1875 dL_law_1876 (by decide) (fun _ => ?_) (fun h => absurd rfl h)
    refine lv_goto (tgt := 1884) hx hb dL_law_1881 (by decide) ?_
    exact kk (hoI fo q.1) fd q.2.1 q.2.2.1 q.2.2.2.1 q.2.2.2.2 m9 H locs ls hRel9 hP hD hS (lv_sub hl [2, 3, 4, 5, 6, 7] rfl)
