def S_append (Rel : Cst → Ob → Prop) (N : Nat) : Prop := ∀ (u0 u1 : Ob) (u2 u3 : Nat → Ob) (mo : Ob), Rel (u0, u1, u2, u3) mo → ∀ (x1 : Int32) (x2 : Int32) (x3 : Int32) (x4 : Int32) (x5 : Int32), ∃ q b m9, f_X5_append N x1 x2 x3 x4 x5 u0 u1 u2 u3 = some q ∧ f_X6_append N x1 x2 x3 x4 x5 mo = some (b, m9) ∧ okX 0 0 q.1 b (m9.1 7) ∧ Rel q.2 m9
set_option maxRecDepth 100000 in
set_option maxHeartbeats 4000000 in
theorem w_append {p : Program} {l : Launch} {e : Env} {s : State} {m : MethodId} {args : Array Value} {below : List Frame} {meth : Method} {c : Code} {H : Heap} {locs : List Loc} {cells slots : Nat} {Q : State → Prop} {ls : Array Slot} {A : Nat → Prop} {G : Gp} {b L n : Nat} {xs : Nat → Int32} {ho h0 hm hd : Nat} {fo : Nat → Int64} {fd : Nat → UInt64} {a0 a1 am : Nat → Nat} {ra rb : Nat → Nat → Nat} {u0 u1 mo : Ob} {u2 u3 : Nat → Ob} {Rel : Cst → Ob → Prop} {N : Nat}
    (hst : S_append Rel N) (hRel : Rel (u0, u1, u2, u3) mo) (hC : CallFix p m c code 9 s args lw_g RL) (hlf : l.stackTraces = false) (hX : va_X b L xs s s.heap) (hbl : b < s.heap.size) (hbA : ¬ A b) (hL : L ≤ 3072) (hn : n + 6 ≤ L) (hP : va_P (gD G) vwCl (LW G ho fo h0 a0 a1 ra rb u0 u1 u2 u3 hm am mo hd fd) H) (hK : va_K (gD G) vwCl (gT G) s) (hD : va_D A (LW G ho fo h0 a0 a1 ra rb u0 u1 u2 u3 hm am mo hd fd)) (hE : Ev (gE G) A s) (hS : va_S A s.heap H locs) (hA : ∀ q : Nat, s.heap.size ≤ q → A q) (hl : lv_has ls 9 [(5, .int (Int32.ofNat n)), (4, .ref hd), (3, .ref ho), (2, .ref hm), (1, .ref h0), (0, .ref b)]) (hcs : cells + 1 ≤ 601024 ∧ slots + 6 ≤ 7293034)
    (kk : ∀ (fo' : Nat → Int64) (fd' : Nat → UInt64) (u0 u1 : Ob) (u2 u3 : Nat → Ob) (mo : Ob) (H : Heap) (locs : List Loc) (ls : Array Slot), Rel (u0, u1, u2, u3) mo → va_P (gD G) vwCl (LW G ho fo' h0 a0 a1 ra rb u0 u1 u2 u3 hm am mo hd fd') H → va_D A (LW G ho fo' h0 a0 a1 ra rb u0 u1 u2 u3 hm am mo hd fd') → va_S A s.heap H locs → lv_has ls 9 [(5, .int (Int32.ofNat n)), (4, .ref hd), (3, .ref ho), (2, .ref hm), (1, .ref h0), (0, .ref b)] → W p l e room_1 s m args below meth c H locs (cells + 1) (slots + 6) Q (F0 m 1884 ls [])) :
    W p l e room_1 s m args below meth c H locs cells slots Q (F0 m 180 ls []) := by
  obtain ⟨hx, hb, hml, hown, hg⟩ := id hC
  obtain ⟨q, b9, m9, e5, e6, hok, hRel9⟩ := hst u0 u1 u2 u3 mo hRel (xs (n + 1)) (xs (n + 2)) (xs (n + 3)) (xs (n + 4)) (xs (n + 5))
  skip
  refine lv_aload_n hx hb dL_law_180 rfl (lv_at hl 4 rfl) ?_
  refine sc (k := 1) (kI := 1) 5 0 (by decide) hx hb hX hbl hbA hS hl rfl rfl (by omega) hL dL_law_181 dL_law_182 dL_law_184 dL_law_185 dL_law_186 ?_
  refine sc (k := 2) (kI := 2) 5 0 (by decide) hx hb hX hbl hbA hS hl rfl rfl (by omega) hL dL_law_187 dL_law_188 dL_law_190 dL_law_191 dL_law_192 ?_
  refine sc (k := 3) (kI := 3) 5 0 (by decide) hx hb hX hbl hbA hS hl rfl rfl (by omega) hL dL_law_193 dL_law_194 dL_law_196 dL_law_197 dL_law_198 ?_
  refine sc (k := 4) (kI := 4) 5 0 (by decide) hx hb hX hbl hbA hS hl rfl rfl (by omega) hL dL_law_199 dL_law_200 dL_law_202 dL_law_203 dL_law_204 ?_
  refine sc (k := 5) (kI := 5) 5 0 (by decide) hx hb hX hbl hbA hS hl rfl rfl (by omega) hL dL_law_205 dL_law_206 dL_law_208 dL_law_209 dL_law_210 ?_
  refine lv_aload_n hx hb dL_law_211 rfl (lv_at hl 2 rfl) ?_
  refine kH (As := [.ref h0, .int (xs (n + 1)), .int (xs (n + 2)), .int (xs (n + 3)), .int (xs (n + 4)), .int (xs (n + 5)), .ref ho]) (rest := []) hC (c_L_append hlf (G := G) (fo := fo) e5 (okX_hk1 hok)) kq2_103 kc_L_append (by decide) hP hK hD hE hS hA (out := (fun v : (Nat → Int64) × Ob × Ob × (Nat → Ob) × (Nat → Ob) => (LW G ho v.1 h0 a0 a1 ra rb v.2.1 v.2.2.1 v.2.2.2.1 v.2.2.2.2 hm am mo hd fd))) (wr := wX6 G hm am mo ++ [(hd, .inl (G.2.2.1 5, 1, .inr (.inr (.inr (.inl fd)))))]) (lpm1 _ _ _ _) (fun v => (lpm1 _ _ _ _).symm) hl.1 (Nat.le_of_ble_eq_true rfl) hcs dL_law_212 (fun r9 v9 H locs hw hP hD hS => ?_)
  obtain ⟨hr9, hv9⟩ := hw
  subst hv9
  rw [okX_hc hok] at hr9
  subst hr9
  have hP : va_P (gD G) vwCl (LW G ho (hoI fo q.1) h0 a0 a1 ra rb q.2.1 q.2.2.1 q.2.2.2.1 q.2.2.2.2 hm am mo hd fd) H := hP
  have hD : va_D A (LW G ho (hoI fo q.1) h0 a0 a1 ra rb q.2.1 q.2.2.1 q.2.2.2.1 q.2.2.2.2 hm am mo hd fd) := hD
  refine lv_istore (lv' := [(6, .int (m9.1 7)), (5, .int (Int32.ofNat n)), (4, .ref hd), (3, .ref ho), (2, .ref hm), (1, .ref h0), (0, .ref b)]) hx hb dL_law_215 hl (by decide) rfl (fun ls hl => ?_)
  refine lv_aload_n hx hb dL_law_217 rfl (lv_at hl 4 rfl) ?_
  refine sc (k := 1) (kI := 1) 6 1 (by decide) hx hb hX hbl hbA hS hl rfl rfl (by omega) hL dL_law_218 dL_law_219 dL_law_221 dL_law_222 dL_law_223 ?_
  refine sc (k := 2) (kI := 2) 6 1 (by decide) hx hb hX hbl hbA hS hl rfl rfl (by omega) hL dL_law_224 dL_law_225 dL_law_227 dL_law_228 dL_law_229 ?_
  refine sc (k := 3) (kI := 3) 6 1 (by decide) hx hb hX hbl hbA hS hl rfl rfl (by omega) hL dL_law_230 dL_law_231 dL_law_233 dL_law_234 dL_law_235 ?_
  refine sc (k := 4) (kI := 4) 6 1 (by decide) hx hb hX hbl hbA hS hl rfl rfl (by omega) hL dL_law_236 dL_law_237 dL_law_239 dL_law_240 dL_law_241 ?_
  refine sc (k := 5) (kI := 5) 6 1 (by decide) hx hb hX hbl hbA hS hl rfl rfl (by omega) hL dL_law_242 dL_law_243 dL_law_245 dL_law_246 dL_law_247 ?_
  refine kMi (As := [.int (xs (n + 1)), .int (xs (n + 2)), .int (xs (n + 3)), .int (xs (n + 4)), .int (xs (n + 5))]) (rest := []) hC (c_X6_append (G := G) (N := N) e6) kq5_148 kc_X6_append (by decide) 0 (ci := 4) rfl rfl hP hK hD hE hS hA (out := fun v : Ob => (LW G ho (hoI fo q.1) h0 a0 a1 ra rb q.2.1 q.2.2.1 q.2.2.2.1 q.2.2.2.2 hm am v hd fd)) (wr := [(ho, .inl (G.2.2.1 2, 1, .inr (.inl (hoI fo q.1))))] ++ (wAll G h0 a0 q.2.1 a1 q.2.2.1 ra rb q.2.2.2.1 q.2.2.2.2 ++ [(hd, .inl (G.2.2.1 5, 1, .inr (.inr (.inr (.inl fd)))))])) (lpm3 _ _ _ _) (fun v => (lpm3 _ _ _ _).symm) hl.1 (Nat.le_of_ble_eq_true rfl) hcs dL_law_248 (fun r9 v9 H locs hw hP hD hS => ?_)
  obtain ⟨hr9, hv9⟩ := hw
  subst hv9
  subst hr9
  have hP : va_P (gD G) vwCl (LW G ho (hoI fo q.1) h0 a0 a1 ra rb q.2.1 q.2.2.1 q.2.2.2.1 q.2.2.2.2 hm am m9 hd fd) H := hP
  have hD : va_D A (LW G ho (hoI fo q.1) h0 a0 a1 ra rb q.2.1 q.2.2.1 q.2.2.2.1 q.2.2.2.2 hm am m9 hd fd) := hD
  refine lv_istore (lv' := [(7, .int b9), (6, .int (m9.1 7)), (5, .int (Int32.ofNat n)), (4, .ref hd), (3, .ref ho), (2, .ref hm), (1, .ref h0), (0, .ref b)]) hx hb dL_law_251 hl (by decide) rfl (fun ls hl => ?_)
  refine lv_aload_n hx hb dL_law_253 rfl (lv_at hl 5 rfl) ?_
  refine kMi (As := []) (rest := []) hC (c_X6_thrown (G := G) (N := N) (q := m9.1 7) rfl) kq5_72 kc_X6_thrown (by decide) 0 (ci := 4) rfl rfl hP hK hD hE hS hA (out := fun v : Ob => (LW G ho (hoI fo q.1) h0 a0 a1 ra rb q.2.1 q.2.2.1 q.2.2.2.1 q.2.2.2.2 hm am v hd fd)) (wr := [(ho, .inl (G.2.2.1 2, 1, .inr (.inl (hoI fo q.1))))] ++ (wAll G h0 a0 q.2.1 a1 q.2.2.1 ra rb q.2.2.2.1 q.2.2.2.2 ++ [(hd, .inl (G.2.2.1 5, 1, .inr (.inr (.inr (.inl fd)))))])) (lpm3 _ _ _ _) (fun v => (lpm3 _ _ _ _).symm) hl.1 (Nat.le_of_ble_eq_true rfl) hcs dL_law_254 (fun r9 v9 H locs hw hP hD hS => ?_)
  obtain ⟨hr9, hv9⟩ := hw
  subst hv9
  subst hr9
  have hP : va_P (gD G) vwCl (LW G ho (hoI fo q.1) h0 a0 a1 ra rb q.2.1 q.2.2.1 q.2.2.2.1 q.2.2.2.2 hm am m9 hd fd) H := hP
  have hD : va_D A (LW G ho (hoI fo q.1) h0 a0 a1 ra rb q.2.1 q.2.2.1 q.2.2.2.1 q.2.2.2.2 hm am m9 hd fd) := hD
  refine lv_iload hx hb dL_law_257 (lv_at hl 1 rfl) ?_
  refine lv_icmp_eq (tgt := 264) hx hb dL_law_259 (by decide) (fun _ => ?_) (fun h => absurd rfl h)
  refine lv_iload hx hb dL_law_264 (lv_at hl 1 rfl) ?_
  refine lv_if_ne (tgt := 281) hx hb dL_law_266 (by decide) (fun h9 => ?_) (fun h9 => ?_)
  · skip
    refine lv_goto (tgt := 1884) hx hb dL_law_281 (by decide) ?_
    exact kk (hoI fo q.1) fd q.2.1 q.2.2.1 q.2.2.2.1 q.2.2.2.2 m9 H locs ls hRel9 hP hD hS (lv_sub hl [2, 3, 4, 5, 6, 7] rfl)
  · have hq := okX_r hok ((okX_hc hok).trans h9)
    refine lv_aload_n hx hb dL_law_269 rfl (lv_at hl 4 rfl) ?_
    refine lv_iconst (v := (0 : Int32)) hx hb dL_law_270 (by decide) ?_
    refine va_lald (f := (hoI fo q.1)) hx hb hK hP 0 2 rfl rfl (vin (by decide)) dL_law_271 ?_
    have hv : (hoI fo q.1) (0 : Int32).toNatClampNeg = b9.toInt64 := by rw [hq]; rfl
    rw [hv]
    refine lv_iload hx hb dL_law_272 (lv_at hl 0 rfl) ?_
    refine lv_i2l (v := b9.toInt64) hx hb dL_law_274 rfl ?_
    refine lc_eq (tgt := 281) hx hb dL_law_275 dL_law_276 (by decide) (fun _ => ?_) (fun h => absurd rfl h)
    refine lv_goto (tgt := 1884) hx hb dL_law_281 (by decide) ?_
    exact kk (hoI fo q.1) fd q.2.1 q.2.2.1 q.2.2.2.1 q.2.2.2.2 m9 H locs ls hRel9 hP hD hS (lv_sub hl [2, 3, 4, 5, 6, 7] rfl)
def S_load (Rel : Cst → Ob → Prop) (N : Nat) : Prop := ∀ (u0 u1 : Ob) (u2 u3 : Nat → Ob) (mo : Ob), Rel (u0, u1, u2, u3) mo → ∀ (x1 : Int32), ∃ q b m9, f_X5_load N x1 u0 u1 u2 u3 = some q ∧ f_X6_load N x1 mo = some (b, m9) ∧ okX 1 1 q.1 b (m9.1 7) ∧ Rel q.2 m9
set_option maxRecDepth 100000 in
set_option maxHeartbeats 4000000 in
theorem w_load {p : Program} {l : Launch} {e : Env} {s : State} {m : MethodId} {args : Array Value} {below : List Frame} {meth : Method} {c : Code} {H : Heap} {locs : List Loc} {cells slots : Nat} {Q : State → Prop} {ls : Array Slot} {A : Nat → Prop} {G : Gp} {b L n : Nat} {xs : Nat → Int32} {ho h0 hm hd : Nat} {fo : Nat → Int64} {fd : Nat → UInt64} {a0 a1 am : Nat → Nat} {ra rb : Nat → Nat → Nat} {u0 u1 mo : Ob} {u2 u3 : Nat → Ob} {Rel : Cst → Ob → Prop} {N : Nat}
    (hst : S_load Rel N) (hRel : Rel (u0, u1, u2, u3) mo) (hC : CallFix p m c code 9 s args lw_g RL) (hlf : l.stackTraces = false) (hX : va_X b L xs s s.heap) (hbl : b < s.heap.size) (hbA : ¬ A b) (hL : L ≤ 3072) (hn : n + 6 ≤ L) (hP : va_P (gD G) vwCl (LW G ho fo h0 a0 a1 ra rb u0 u1 u2 u3 hm am mo hd fd) H) (hK : va_K (gD G) vwCl (gT G) s) (hD : va_D A (LW G ho fo h0 a0 a1 ra rb u0 u1 u2 u3 hm am mo hd fd)) (hE : Ev (gE G) A s) (hS : va_S A s.heap H locs) (hA : ∀ q : Nat, s.heap.size ≤ q → A q) (hl : lv_has ls 9 [(5, .int (Int32.ofNat n)), (4, .ref hd), (3, .ref ho), (2, .ref hm), (1, .ref h0), (0, .ref b)]) (hcs : cells + 1 ≤ 601024 ∧ slots + 6 ≤ 7293034)
    (kk : ∀ (fo' : Nat → Int64) (fd' : Nat → UInt64) (u0 u1 : Ob) (u2 u3 : Nat → Ob) (mo : Ob) (H : Heap) (locs : List Loc) (ls : Array Slot), Rel (u0, u1, u2, u3) mo → va_P (gD G) vwCl (LW G ho fo' h0 a0 a1 ra rb u0 u1 u2 u3 hm am mo hd fd') H → va_D A (LW G ho fo' h0 a0 a1 ra rb u0 u1 u2 u3 hm am mo hd fd') → va_S A s.heap H locs → lv_has ls 9 [(5, .int (Int32.ofNat n)), (4, .ref hd), (3, .ref ho), (2, .ref hm), (1, .ref h0), (0, .ref b)] → W p l e room_1 s m args below meth c H locs (cells + 1) (slots + 6) Q (F0 m 1884 ls [])) :
    W p l e room_1 s m args below meth c H locs cells slots Q (F0 m 284 ls []) := by
  obtain ⟨hx, hb, hml, hown, hg⟩ := id hC
  obtain ⟨q, b9, m9, e5, e6, hok, hRel9⟩ := hst u0 u1 u2 u3 mo hRel (xs (n + 1))
  skip
  refine lv_aload_n hx hb dL_law_284 rfl (lv_at hl 4 rfl) ?_
  refine sc (k := 1) (kI := 1) 5 0 (by decide) hx hb hX hbl hbA hS hl rfl rfl (by omega) hL dL_law_285 dL_law_286 dL_law_288 dL_law_289 dL_law_290 ?_
  refine lv_aload_n hx hb dL_law_291 rfl (lv_at hl 2 rfl) ?_
  refine kH (As := [.ref h0, .int (xs (n + 1)), .ref ho]) (rest := []) hC (c_L_load hlf (G := G) (fo := fo) e5 (okX_hk1 hok)) kq2_183 kc_L_load (by decide) hP hK hD hE hS hA (out := (fun v : (Nat → Int64) × Ob × Ob × (Nat → Ob) × (Nat → Ob) => (LW G ho v.1 h0 a0 a1 ra rb v.2.1 v.2.2.1 v.2.2.2.1 v.2.2.2.2 hm am mo hd fd))) (wr := wX6 G hm am mo ++ [(hd, .inl (G.2.2.1 5, 1, .inr (.inr (.inr (.inl fd)))))]) (lpm1 _ _ _ _) (fun v => (lpm1 _ _ _ _).symm) hl.1 (Nat.le_of_ble_eq_true rfl) hcs dL_law_292 (fun r9 v9 H locs hw hP hD hS => ?_)
  obtain ⟨hr9, hv9⟩ := hw
  subst hv9
  rw [okX_hc hok] at hr9
  subst hr9
  have hP : va_P (gD G) vwCl (LW G ho (hoI fo q.1) h0 a0 a1 ra rb q.2.1 q.2.2.1 q.2.2.2.1 q.2.2.2.2 hm am mo hd fd) H := hP
  have hD : va_D A (LW G ho (hoI fo q.1) h0 a0 a1 ra rb q.2.1 q.2.2.1 q.2.2.2.1 q.2.2.2.2 hm am mo hd fd) := hD
  refine lv_istore (lv' := [(6, .int (m9.1 7)), (5, .int (Int32.ofNat n)), (4, .ref hd), (3, .ref ho), (2, .ref hm), (1, .ref h0), (0, .ref b)]) hx hb dL_law_295 hl (by decide) rfl (fun ls hl => ?_)
  refine lv_aload_n hx hb dL_law_297 rfl (lv_at hl 4 rfl) ?_
  refine sc (k := 1) (kI := 1) 6 1 (by decide) hx hb hX hbl hbA hS hl rfl rfl (by omega) hL dL_law_298 dL_law_299 dL_law_301 dL_law_302 dL_law_303 ?_
  refine kMi (As := [.int (xs (n + 1))]) (rest := []) hC (c_X6_load (G := G) (N := N) e6) kq5_152 kc_X6_load (by decide) 0 (ci := 4) rfl rfl hP hK hD hE hS hA (out := fun v : Ob => (LW G ho (hoI fo q.1) h0 a0 a1 ra rb q.2.1 q.2.2.1 q.2.2.2.1 q.2.2.2.2 hm am v hd fd)) (wr := [(ho, .inl (G.2.2.1 2, 1, .inr (.inl (hoI fo q.1))))] ++ (wAll G h0 a0 q.2.1 a1 q.2.2.1 ra rb q.2.2.2.1 q.2.2.2.2 ++ [(hd, .inl (G.2.2.1 5, 1, .inr (.inr (.inr (.inl fd)))))])) (lpm3 _ _ _ _) (fun v => (lpm3 _ _ _ _).symm) hl.1 (Nat.le_of_ble_eq_true rfl) hcs dL_law_304 (fun r9 v9 H locs hw hP hD hS => ?_)
  obtain ⟨hr9, hv9⟩ := hw
  subst hv9
  subst hr9
  have hP : va_P (gD G) vwCl (LW G ho (hoI fo q.1) h0 a0 a1 ra rb q.2.1 q.2.2.1 q.2.2.2.1 q.2.2.2.2 hm am m9 hd fd) H := hP
  have hD : va_D A (LW G ho (hoI fo q.1) h0 a0 a1 ra rb q.2.1 q.2.2.1 q.2.2.2.1 q.2.2.2.2 hm am m9 hd fd) := hD
  refine lv_istore (lv' := [(7, .int b9), (6, .int (m9.1 7)), (5, .int (Int32.ofNat n)), (4, .ref hd), (3, .ref ho), (2, .ref hm), (1, .ref h0), (0, .ref b)]) hx hb dL_law_307 hl (by decide) rfl (fun ls hl => ?_)
  refine lv_aload_n hx hb dL_law_309 rfl (lv_at hl 5 rfl) ?_
  refine kMi (As := []) (rest := []) hC (c_X6_thrown (G := G) (N := N) (q := m9.1 7) rfl) kq5_72 kc_X6_thrown (by decide) 0 (ci := 4) rfl rfl hP hK hD hE hS hA (out := fun v : Ob => (LW G ho (hoI fo q.1) h0 a0 a1 ra rb q.2.1 q.2.2.1 q.2.2.2.1 q.2.2.2.2 hm am v hd fd)) (wr := [(ho, .inl (G.2.2.1 2, 1, .inr (.inl (hoI fo q.1))))] ++ (wAll G h0 a0 q.2.1 a1 q.2.2.1 ra rb q.2.2.2.1 q.2.2.2.2 ++ [(hd, .inl (G.2.2.1 5, 1, .inr (.inr (.inr (.inl fd)))))])) (lpm3 _ _ _ _) (fun v => (lpm3 _ _ _ _).symm) hl.1 (Nat.le_of_ble_eq_true rfl) hcs dL_law_310 (fun r9 v9 H locs hw hP hD hS => ?_)
  obtain ⟨hr9, hv9⟩ := hw
  subst hv9
  subst hr9
  have hP : va_P (gD G) vwCl (LW G ho (hoI fo q.1) h0 a0 a1 ra rb q.2.1 q.2.2.1 q.2.2.2.1 q.2.2.2.2 hm am m9 hd fd) H := hP
  have hD : va_D A (LW G ho (hoI fo q.1) h0 a0 a1 ra rb q.2.1 q.2.2.1 q.2.2.2.1 q.2.2.2.2 hm am m9 hd fd) := hD
  refine lv_iload hx hb dL_law_313 (lv_at hl 1 rfl) ?_
  refine lv_icmp_eq (tgt := 320) hx hb dL_law_315 (by decide) (fun _ => ?_) (fun h => absurd rfl h)
  refine lv_iload hx hb dL_law_320 (lv_at hl 1 rfl) ?_
  refine lv_if_ne (tgt := 337) hx hb dL_law_322 (by decide) (fun h9 => ?_) (fun h9 => ?_)
  · skip
    refine lv_goto (tgt := 1884) hx hb dL_law_337 (by decide) ?_
    exact kk (hoI fo q.1) fd q.2.1 q.2.2.1 q.2.2.2.1 q.2.2.2.2 m9 H locs ls hRel9 hP hD hS (lv_sub hl [2, 3, 4, 5, 6, 7] rfl)
  · have hq := okX_r hok ((okX_hc hok).trans h9)
    refine lv_aload_n hx hb dL_law_325 rfl (lv_at hl 4 rfl) ?_
    refine lv_iconst (v := (0 : Int32)) hx hb dL_law_326 (by decide) ?_
    refine va_lald (f := (hoI fo q.1)) hx hb hK hP 0 2 rfl rfl (vin (by decide)) dL_law_327 ?_
    have hv : (hoI fo q.1) (0 : Int32).toNatClampNeg = b9.toInt64 := by rw [hq]; rfl
    rw [hv]
    refine lv_iload hx hb dL_law_328 (lv_at hl 0 rfl) ?_
    refine lv_i2l (v := b9.toInt64) hx hb dL_law_330 rfl ?_
    refine lc_eq (tgt := 337) hx hb dL_law_331 dL_law_332 (by decide) (fun _ => ?_) (fun h => absurd rfl h)
    refine lv_goto (tgt := 1884) hx hb dL_law_337 (by decide) ?_
    exact kk (hoI fo q.1) fd q.2.1 q.2.2.1 q.2.2.2.1 q.2.2.2.2 m9 H locs ls hRel9 hP hD hS (lv_sub hl [2, 3, 4, 5, 6, 7] rfl)
def S_errorPosition (Rel : Cst → Ob → Prop) (N : Nat) : Prop := ∀ (u0 u1 : Ob) (u2 u3 : Nat → Ob) (mo : Ob), Rel (u0, u1, u2, u3) mo → ∃ q b m9, f_X5_errorPosition N u0 u1 u2 u3 = some q ∧ f_X6_errorPosition N mo = some (b, m9) ∧ q = b ∧ Rel (u0, u1, u2, u3) m9
set_option maxRecDepth 100000 in
set_option maxHeartbeats 4000000 in
theorem w_errorPosition {p : Program} {l : Launch} {e : Env} {s : State} {m : MethodId} {args : Array Value} {below : List Frame} {meth : Method} {c : Code} {H : Heap} {locs : List Loc} {cells slots : Nat} {Q : State → Prop} {ls : Array Slot} {A : Nat → Prop} {G : Gp} {b L n : Nat} {xs : Nat → Int32} {ho h0 hm hd : Nat} {fo : Nat → Int64} {fd : Nat → UInt64} {a0 a1 am : Nat → Nat} {ra rb : Nat → Nat → Nat} {u0 u1 mo : Ob} {u2 u3 : Nat → Ob} {Rel : Cst → Ob → Prop} {N : Nat}
    (hst : S_errorPosition Rel N) (hRel : Rel (u0, u1, u2, u3) mo) (hC : CallFix p m c code 9 s args lw_g RL) (hlf : l.stackTraces = false) (hX : va_X b L xs s s.heap) (hbl : b < s.heap.size) (hbA : ¬ A b) (hL : L ≤ 3072) (hn : n + 6 ≤ L) (hP : va_P (gD G) vwCl (LW G ho fo h0 a0 a1 ra rb u0 u1 u2 u3 hm am mo hd fd) H) (hK : va_K (gD G) vwCl (gT G) s) (hD : va_D A (LW G ho fo h0 a0 a1 ra rb u0 u1 u2 u3 hm am mo hd fd)) (hE : Ev (gE G) A s) (hS : va_S A s.heap H locs) (hA : ∀ q : Nat, s.heap.size ≤ q → A q) (hl : lv_has ls 9 [(5, .int (Int32.ofNat n)), (4, .ref hd), (3, .ref ho), (2, .ref hm), (1, .ref h0), (0, .ref b)]) (hcs : cells + 1 ≤ 601024 ∧ slots + 6 ≤ 7293034)
    (kk : ∀ (fo' : Nat → Int64) (fd' : Nat → UInt64) (u0 u1 : Ob) (u2 u3 : Nat → Ob) (mo : Ob) (H : Heap) (locs : List Loc) (ls : Array Slot), Rel (u0, u1, u2, u3) mo → va_P (gD G) vwCl (LW G ho fo' h0 a0 a1 ra rb u0 u1 u2 u3 hm am mo hd fd') H → va_D A (LW G ho fo' h0 a0 a1 ra rb u0 u1 u2 u3 hm am mo hd fd') → va_S A s.heap H locs → lv_has ls 9 [(5, .int (Int32.ofNat n)), (4, .ref hd), (3, .ref ho), (2, .ref hm), (1, .ref h0), (0, .ref b)] → W p l e room_1 s m args below meth c H locs (cells + 1) (slots + 6) Q (F0 m 1884 ls [])) :
    W p l e room_1 s m args below meth c H locs cells slots Q (F0 m 340 ls []) := by
  obtain ⟨hx, hb, hml, hown, hg⟩ := id hC
  obtain ⟨q, b9, m9, e5, e6, hok, hRel9⟩ := hst u0 u1 u2 u3 mo hRel
  skip
  refine lv_aload_n hx hb dL_law_340 rfl (lv_at hl 4 rfl) ?_
  refine W.widen (k := cells + 1) (n := slots + 6) (by omega) (by omega) ?_
  refine kMi (As := []) (rest := []) hC (c_X5_errorPosition (G := G) e5) kq1_213 kc_X5_errorPosition (by decide) 0 (ci := 3) rfl rfl hP hK hD hE hS hA (out := (fun v : Ob × Ob × (Nat → Ob) × (Nat → Ob) => (LW G ho fo h0 a0 a1 ra rb v.1 v.2.1 v.2.2.1 v.2.2.2 hm am mo hd fd))) (wr := [(ho, .inl (G.2.2.1 2, 1, .inr (.inl fo)))] ++ (wX6 G hm am mo ++ [(hd, .inl (G.2.2.1 5, 1, .inr (.inr (.inr (.inl fd)))))])) (lpm0 _ _ _) (fun v => (lpm0 _ _ _).symm) hl.1 (Nat.le_of_ble_eq_true rfl) hcs dL_law_341 (fun r9 v9 H locs hw hP hD hS => ?_)
  obtain ⟨hr9, hv9⟩ := hw
  subst hv9
  rw [hok] at hr9
  subst hr9
  have hP : va_P (gD G) vwCl (LW G ho fo h0 a0 a1 ra rb u0 u1 u2 u3 hm am mo hd fd) H := hP
  have hD : va_D A (LW G ho fo h0 a0 a1 ra rb u0 u1 u2 u3 hm am mo hd fd) := hD
  refine lv_aload_n hx hb dL_law_344 rfl (lv_at hl 3 rfl) ?_
  refine kMi (As := []) (rest := [.int b9]) hC (c_X6_errorPosition (G := G) (N := N) e6) kq6_86 kc_X6_errorPosition (by decide) 0 (ci := 4) rfl rfl hP hK hD hE hS hA (out := fun v : Ob => (LW G ho fo h0 a0 a1 ra rb u0 u1 u2 u3 hm am v hd fd)) (wr := [(ho, .inl (G.2.2.1 2, 1, .inr (.inl fo)))] ++ (wAll G h0 a0 u0 a1 u1 ra rb u2 u3 ++ [(hd, .inl (G.2.2.1 5, 1, .inr (.inr (.inr (.inl fd)))))])) (lpm3 _ _ _ _) (fun v => (lpm3 _ _ _ _).symm) hl.1 (Nat.le_of_ble_eq_true rfl) hcs dL_law_345 (fun r9 v9 H locs hw hP hD hS => ?_)
  obtain ⟨hr9, hv9⟩ := hw
  subst hv9
  subst hr9
  have hP : va_P (gD G) vwCl (LW G ho fo h0 a0 a1 ra rb u0 u1 u2 u3 hm am m9 hd fd) H := hP
  have hD : va_D A (LW G ho fo h0 a0 a1 ra rb u0 u1 u2 u3 hm am m9 hd fd) := hD
  refine lv_icmp_eq (tgt := 1884) hx hb dL_law_348 (by decide) (fun _ => ?_) (fun h => absurd rfl h)
  exact kk fo fd u0 u1 u2 u3 m9 H locs ls hRel9 hP hD hS (lv_sub hl [0, 1, 2, 3, 4, 5] rfl)
def S_count (Rel : Cst → Ob → Prop) (N : Nat) : Prop := ∀ (u0 u1 : Ob) (u2 u3 : Nat → Ob) (mo : Ob), Rel (u0, u1, u2, u3) mo → ∀ (x1 : Int32), ∃ q b m9, f_X5_count N x1 u0 u1 u2 u3 = some q ∧ f_X6_count N x1 mo = some (b, m9) ∧ okX 1 1 q.1 b (m9.1 7) ∧ Rel q.2 m9
set_option maxRecDepth 100000 in
set_option maxHeartbeats 4000000 in
theorem w_count {p : Program} {l : Launch} {e : Env} {s : State} {m : MethodId} {args : Array Value} {below : List Frame} {meth : Method} {c : Code} {H : Heap} {locs : List Loc} {cells slots : Nat} {Q : State → Prop} {ls : Array Slot} {A : Nat → Prop} {G : Gp} {b L n : Nat} {xs : Nat → Int32} {ho h0 hm hd : Nat} {fo : Nat → Int64} {fd : Nat → UInt64} {a0 a1 am : Nat → Nat} {ra rb : Nat → Nat → Nat} {u0 u1 mo : Ob} {u2 u3 : Nat → Ob} {Rel : Cst → Ob → Prop} {N : Nat}
    (hst : S_count Rel N) (hRel : Rel (u0, u1, u2, u3) mo) (hC : CallFix p m c code 9 s args lw_g RL) (hlf : l.stackTraces = false) (hX : va_X b L xs s s.heap) (hbl : b < s.heap.size) (hbA : ¬ A b) (hL : L ≤ 3072) (hn : n + 6 ≤ L) (hP : va_P (gD G) vwCl (LW G ho fo h0 a0 a1 ra rb u0 u1 u2 u3 hm am mo hd fd) H) (hK : va_K (gD G) vwCl (gT G) s) (hD : va_D A (LW G ho fo h0 a0 a1 ra rb u0 u1 u2 u3 hm am mo hd fd)) (hE : Ev (gE G) A s) (hS : va_S A s.heap H locs) (hA : ∀ q : Nat, s.heap.size ≤ q → A q) (hl : lv_has ls 9 [(5, .int (Int32.ofNat n)), (4, .ref hd), (3, .ref ho), (2, .ref hm), (1, .ref h0), (0, .ref b)]) (hcs : cells + 1 ≤ 601024 ∧ slots + 6 ≤ 7293034)
    (kk : ∀ (fo' : Nat → Int64) (fd' : Nat → UInt64) (u0 u1 : Ob) (u2 u3 : Nat → Ob) (mo : Ob) (H : Heap) (locs : List Loc) (ls : Array Slot), Rel (u0, u1, u2, u3) mo → va_P (gD G) vwCl (LW G ho fo' h0 a0 a1 ra rb u0 u1 u2 u3 hm am mo hd fd') H → va_D A (LW G ho fo' h0 a0 a1 ra rb u0 u1 u2 u3 hm am mo hd fd') → va_S A s.heap H locs → lv_has ls 9 [(5, .int (Int32.ofNat n)), (4, .ref hd), (3, .ref ho), (2, .ref hm), (1, .ref h0), (0, .ref b)] → W p l e room_1 s m args below meth c H locs (cells + 1) (slots + 6) Q (F0 m 1884 ls [])) :
    W p l e room_1 s m args below meth c H locs cells slots Q (F0 m 353 ls []) := by
  obtain ⟨hx, hb, hml, hown, hg⟩ := id hC
  obtain ⟨q, b9, m9, e5, e6, hok, hRel9⟩ := hst u0 u1 u2 u3 mo hRel (xs (n + 1))
  skip
  refine lv_aload_n hx hb dL_law_353 rfl (lv_at hl 4 rfl) ?_
  refine sc (k := 1) (kI := 1) 5 0 (by decide) hx hb hX hbl hbA hS hl rfl rfl (by omega) hL dL_law_354 dL_law_355 dL_law_357 dL_law_358 dL_law_359 ?_
  refine lv_aload_n hx hb dL_law_360 rfl (lv_at hl 2 rfl) ?_
  refine kH (As := [.ref h0, .int (xs (n + 1)), .ref ho]) (rest := []) hC (c_L_count hlf (G := G) (fo := fo) e5 (okX_hk1 hok)) kq3_185 kc_L_count (by decide) hP hK hD hE hS hA (out := (fun v : (Nat → Int64) × Ob × Ob × (Nat → Ob) × (Nat → Ob) => (LW G ho v.1 h0 a0 a1 ra rb v.2.1 v.2.2.1 v.2.2.2.1 v.2.2.2.2 hm am mo hd fd))) (wr := wX6 G hm am mo ++ [(hd, .inl (G.2.2.1 5, 1, .inr (.inr (.inr (.inl fd)))))]) (lpm1 _ _ _ _) (fun v => (lpm1 _ _ _ _).symm) hl.1 (Nat.le_of_ble_eq_true rfl) hcs dL_law_361 (fun r9 v9 H locs hw hP hD hS => ?_)
  obtain ⟨hr9, hv9⟩ := hw
  subst hv9
  rw [okX_hc hok] at hr9
  subst hr9
  have hP : va_P (gD G) vwCl (LW G ho (hoI fo q.1) h0 a0 a1 ra rb q.2.1 q.2.2.1 q.2.2.2.1 q.2.2.2.2 hm am mo hd fd) H := hP
  have hD : va_D A (LW G ho (hoI fo q.1) h0 a0 a1 ra rb q.2.1 q.2.2.1 q.2.2.2.1 q.2.2.2.2 hm am mo hd fd) := hD
  refine lv_istore (lv' := [(6, .int (m9.1 7)), (5, .int (Int32.ofNat n)), (4, .ref hd), (3, .ref ho), (2, .ref hm), (1, .ref h0), (0, .ref b)]) hx hb dL_law_364 hl (by decide) rfl (fun ls hl => ?_)
  refine lv_aload_n hx hb dL_law_366 rfl (lv_at hl 4 rfl) ?_
  refine sc (k := 1) (kI := 1) 6 1 (by decide) hx hb hX hbl hbA hS hl rfl rfl (by omega) hL dL_law_367 dL_law_368 dL_law_370 dL_law_371 dL_law_372 ?_
  refine kMi (As := [.int (xs (n + 1))]) (rest := []) hC (c_X6_count (G := G) (N := N) e6) kq6_105 kc_X6_count (by decide) 0 (ci := 4) rfl rfl hP hK hD hE hS hA (out := fun v : Ob => (LW G ho (hoI fo q.1) h0 a0 a1 ra rb q.2.1 q.2.2.1 q.2.2.2.1 q.2.2.2.2 hm am v hd fd)) (wr := [(ho, .inl (G.2.2.1 2, 1, .inr (.inl (hoI fo q.1))))] ++ (wAll G h0 a0 q.2.1 a1 q.2.2.1 ra rb q.2.2.2.1 q.2.2.2.2 ++ [(hd, .inl (G.2.2.1 5, 1, .inr (.inr (.inr (.inl fd)))))])) (lpm3 _ _ _ _) (fun v => (lpm3 _ _ _ _).symm) hl.1 (Nat.le_of_ble_eq_true rfl) hcs dL_law_373 (fun r9 v9 H locs hw hP hD hS => ?_)
  obtain ⟨hr9, hv9⟩ := hw
  subst hv9
  subst hr9
  have hP : va_P (gD G) vwCl (LW G ho (hoI fo q.1) h0 a0 a1 ra rb q.2.1 q.2.2.1 q.2.2.2.1 q.2.2.2.2 hm am m9 hd fd) H := hP
  have hD : va_D A (LW G ho (hoI fo q.1) h0 a0 a1 ra rb q.2.1 q.2.2.1 q.2.2.2.1 q.2.2.2.2 hm am m9 hd fd) := hD
  refine lv_istore (lv' := [(7, .int b9), (6, .int (m9.1 7)), (5, .int (Int32.ofNat n)), (4, .ref hd), (3, .ref ho), (2, .ref hm), (1, .ref h0), (0, .ref b)]) hx hb dL_law_376 hl (by decide) rfl (fun ls hl => ?_)
  refine lv_aload_n hx hb dL_law_378 rfl (lv_at hl 5 rfl) ?_
  refine kMi (As := []) (rest := []) hC (c_X6_thrown (G := G) (N := N) (q := m9.1 7) rfl) kq5_72 kc_X6_thrown (by decide) 0 (ci := 4) rfl rfl hP hK hD hE hS hA (out := fun v : Ob => (LW G ho (hoI fo q.1) h0 a0 a1 ra rb q.2.1 q.2.2.1 q.2.2.2.1 q.2.2.2.2 hm am v hd fd)) (wr := [(ho, .inl (G.2.2.1 2, 1, .inr (.inl (hoI fo q.1))))] ++ (wAll G h0 a0 q.2.1 a1 q.2.2.1 ra rb q.2.2.2.1 q.2.2.2.2 ++ [(hd, .inl (G.2.2.1 5, 1, .inr (.inr (.inr (.inl fd)))))])) (lpm3 _ _ _ _) (fun v => (lpm3 _ _ _ _).symm) hl.1 (Nat.le_of_ble_eq_true rfl) hcs dL_law_379 (fun r9 v9 H locs hw hP hD hS => ?_)
  obtain ⟨hr9, hv9⟩ := hw
  subst hv9
  subst hr9
  have hP : va_P (gD G) vwCl (LW G ho (hoI fo q.1) h0 a0 a1 ra rb q.2.1 q.2.2.1 q.2.2.2.1 q.2.2.2.2 hm am m9 hd fd) H := hP
  have hD : va_D A (LW G ho (hoI fo q.1) h0 a0 a1 ra rb q.2.1 q.2.2.1 q.2.2.2.1 q.2.2.2.2 hm am m9 hd fd) := hD
  refine lv_iload hx hb dL_law_382 (lv_at hl 1 rfl) ?_
  refine lv_icmp_eq (tgt := 389) hx hb dL_law_384 (by decide) (fun _ => ?_) (fun h => absurd rfl h)
  refine lv_iload hx hb dL_law_389 (lv_at hl 1 rfl) ?_
  refine lv_if_ne (tgt := 406) hx hb dL_law_391 (by decide) (fun h9 => ?_) (fun h9 => ?_)
  · skip
    refine lv_goto (tgt := 1884) hx hb dL_law_406 (by decide) ?_
    exact kk (hoI fo q.1) fd q.2.1 q.2.2.1 q.2.2.2.1 q.2.2.2.2 m9 H locs ls hRel9 hP hD hS (lv_sub hl [2, 3, 4, 5, 6, 7] rfl)
  · have hq := okX_r hok ((okX_hc hok).trans h9)
    refine lv_aload_n hx hb dL_law_394 rfl (lv_at hl 4 rfl) ?_
    refine lv_iconst (v := (0 : Int32)) hx hb dL_law_395 (by decide) ?_
    refine va_lald (f := (hoI fo q.1)) hx hb hK hP 0 2 rfl rfl (vin (by decide)) dL_law_396 ?_
    have hv : (hoI fo q.1) (0 : Int32).toNatClampNeg = b9.toInt64 := by rw [hq]; rfl
    rw [hv]
    refine lv_iload hx hb dL_law_397 (lv_at hl 0 rfl) ?_
    refine lv_i2l (v := b9.toInt64) hx hb dL_law_399 rfl ?_
    refine lc_eq (tgt := 406) hx hb dL_law_400 dL_law_401 (by decide) (fun _ => ?_) (fun h => absurd rfl h)
    refine lv_goto (tgt := 1884) hx hb dL_law_406 (by decide) ?_
    exact kk (hoI fo q.1) fd q.2.1 q.2.2.1 q.2.2.2.1 q.2.2.2.2 m9 H locs ls hRel9 hP hD hS (lv_sub hl [2, 3, 4, 5, 6, 7] rfl)
def S_part (Rel : Cst → Ob → Prop) (N : Nat) : Prop := ∀ (u0 u1 : Ob) (u2 u3 : Nat → Ob) (mo : Ob), Rel (u0, u1, u2, u3) mo → ∀ (x1 : Int32) (x2 : Int32), ∃ q b m9, f_X5_part N x1 x2 u0 u1 u2 u3 = some q ∧ f_X6_part N x1 x2 mo = some (b, m9) ∧ okX 1 1 q.1 b (m9.1 7) ∧ Rel q.2 m9
set_option maxRecDepth 100000 in
set_option maxHeartbeats 4000000 in
theorem w_part {p : Program} {l : Launch} {e : Env} {s : State} {m : MethodId} {args : Array Value} {below : List Frame} {meth : Method} {c : Code} {H : Heap} {locs : List Loc} {cells slots : Nat} {Q : State → Prop} {ls : Array Slot} {A : Nat → Prop} {G : Gp} {b L n : Nat} {xs : Nat → Int32} {ho h0 hm hd : Nat} {fo : Nat → Int64} {fd : Nat → UInt64} {a0 a1 am : Nat → Nat} {ra rb : Nat → Nat → Nat} {u0 u1 mo : Ob} {u2 u3 : Nat → Ob} {Rel : Cst → Ob → Prop} {N : Nat}
    (hst : S_part Rel N) (hRel : Rel (u0, u1, u2, u3) mo) (hC : CallFix p m c code 9 s args lw_g RL) (hlf : l.stackTraces = false) (hX : va_X b L xs s s.heap) (hbl : b < s.heap.size) (hbA : ¬ A b) (hL : L ≤ 3072) (hn : n + 6 ≤ L) (hP : va_P (gD G) vwCl (LW G ho fo h0 a0 a1 ra rb u0 u1 u2 u3 hm am mo hd fd) H) (hK : va_K (gD G) vwCl (gT G) s) (hD : va_D A (LW G ho fo h0 a0 a1 ra rb u0 u1 u2 u3 hm am mo hd fd)) (hE : Ev (gE G) A s) (hS : va_S A s.heap H locs) (hA : ∀ q : Nat, s.heap.size ≤ q → A q) (hl : lv_has ls 9 [(5, .int (Int32.ofNat n)), (4, .ref hd), (3, .ref ho), (2, .ref hm), (1, .ref h0), (0, .ref b)]) (hcs : cells + 1 ≤ 601024 ∧ slots + 6 ≤ 7293034)
    (kk : ∀ (fo' : Nat → Int64) (fd' : Nat → UInt64) (u0 u1 : Ob) (u2 u3 : Nat → Ob) (mo : Ob) (H : Heap) (locs : List Loc) (ls : Array Slot), Rel (u0, u1, u2, u3) mo → va_P (gD G) vwCl (LW G ho fo' h0 a0 a1 ra rb u0 u1 u2 u3 hm am mo hd fd') H → va_D A (LW G ho fo' h0 a0 a1 ra rb u0 u1 u2 u3 hm am mo hd fd') → va_S A s.heap H locs → lv_has ls 9 [(5, .int (Int32.ofNat n)), (4, .ref hd), (3, .ref ho), (2, .ref hm), (1, .ref h0), (0, .ref b)] → W p l e room_1 s m args below meth c H locs (cells + 1) (slots + 6) Q (F0 m 1884 ls [])) :
    W p l e room_1 s m args below meth c H locs cells slots Q (F0 m 409 ls []) := by
  obtain ⟨hx, hb, hml, hown, hg⟩ := id hC
  obtain ⟨q, b9, m9, e5, e6, hok, hRel9⟩ := hst u0 u1 u2 u3 mo hRel (xs (n + 1)) (xs (n + 2))
  skip
  refine lv_aload_n hx hb dL_law_409 rfl (lv_at hl 4 rfl) ?_
  refine sc (k := 1) (kI := 1) 5 0 (by decide) hx hb hX hbl hbA hS hl rfl rfl (by omega) hL dL_law_410 dL_law_411 dL_law_413 dL_law_414 dL_law_415 ?_
  refine sc (k := 2) (kI := 2) 5 0 (by decide) hx hb hX hbl hbA hS hl rfl rfl (by omega) hL dL_law_416 dL_law_417 dL_law_419 dL_law_420 dL_law_421 ?_
  refine lv_aload_n hx hb dL_law_422 rfl (lv_at hl 2 rfl) ?_
  refine kH (As := [.ref h0, .int (xs (n + 1)), .int (xs (n + 2)), .ref ho]) (rest := []) hC (c_L_part hlf (G := G) (fo := fo) e5 (okX_hk1 hok)) kq3_197 kc_L_part (by decide) hP hK hD hE hS hA (out := (fun v : (Nat → Int64) × Ob × Ob × (Nat → Ob) × (Nat → Ob) => (LW G ho v.1 h0 a0 a1 ra rb v.2.1 v.2.2.1 v.2.2.2.1 v.2.2.2.2 hm am mo hd fd))) (wr := wX6 G hm am mo ++ [(hd, .inl (G.2.2.1 5, 1, .inr (.inr (.inr (.inl fd)))))]) (lpm1 _ _ _ _) (fun v => (lpm1 _ _ _ _).symm) hl.1 (Nat.le_of_ble_eq_true rfl) hcs dL_law_423 (fun r9 v9 H locs hw hP hD hS => ?_)
  obtain ⟨hr9, hv9⟩ := hw
  subst hv9
  rw [okX_hc hok] at hr9
  subst hr9
  have hP : va_P (gD G) vwCl (LW G ho (hoI fo q.1) h0 a0 a1 ra rb q.2.1 q.2.2.1 q.2.2.2.1 q.2.2.2.2 hm am mo hd fd) H := hP
  have hD : va_D A (LW G ho (hoI fo q.1) h0 a0 a1 ra rb q.2.1 q.2.2.1 q.2.2.2.1 q.2.2.2.2 hm am mo hd fd) := hD
  refine lv_istore (lv' := [(6, .int (m9.1 7)), (5, .int (Int32.ofNat n)), (4, .ref hd), (3, .ref ho), (2, .ref hm), (1, .ref h0), (0, .ref b)]) hx hb dL_law_426 hl (by decide) rfl (fun ls hl => ?_)
  refine lv_aload_n hx hb dL_law_428 rfl (lv_at hl 4 rfl) ?_
  refine sc (k := 1) (kI := 1) 6 1 (by decide) hx hb hX hbl hbA hS hl rfl rfl (by omega) hL dL_law_429 dL_law_430 dL_law_432 dL_law_433 dL_law_434 ?_
  refine sc (k := 2) (kI := 2) 6 1 (by decide) hx hb hX hbl hbA hS hl rfl rfl (by omega) hL dL_law_435 dL_law_436 dL_law_438 dL_law_439 dL_law_440 ?_
  refine kMi (As := [.int (xs (n + 1)), .int (xs (n + 2))]) (rest := []) hC (c_X6_part (G := G) (N := N) e6) kq5_95 kc_X6_part (by decide) 0 (ci := 4) rfl rfl hP hK hD hE hS hA (out := fun v : Ob => (LW G ho (hoI fo q.1) h0 a0 a1 ra rb q.2.1 q.2.2.1 q.2.2.2.1 q.2.2.2.2 hm am v hd fd)) (wr := [(ho, .inl (G.2.2.1 2, 1, .inr (.inl (hoI fo q.1))))] ++ (wAll G h0 a0 q.2.1 a1 q.2.2.1 ra rb q.2.2.2.1 q.2.2.2.2 ++ [(hd, .inl (G.2.2.1 5, 1, .inr (.inr (.inr (.inl fd)))))])) (lpm3 _ _ _ _) (fun v => (lpm3 _ _ _ _).symm) hl.1 (Nat.le_of_ble_eq_true rfl) hcs dL_law_441 (fun r9 v9 H locs hw hP hD hS => ?_)
  obtain ⟨hr9, hv9⟩ := hw
  subst hv9
  subst hr9
  have hP : va_P (gD G) vwCl (LW G ho (hoI fo q.1) h0 a0 a1 ra rb q.2.1 q.2.2.1 q.2.2.2.1 q.2.2.2.2 hm am m9 hd fd) H := hP
  have hD : va_D A (LW G ho (hoI fo q.1) h0 a0 a1 ra rb q.2.1 q.2.2.1 q.2.2.2.1 q.2.2.2.2 hm am m9 hd fd) := hD
  refine lv_istore (lv' := [(7, .int b9), (6, .int (m9.1 7)), (5, .int (Int32.ofNat n)), (4, .ref hd), (3, .ref ho), (2, .ref hm), (1, .ref h0), (0, .ref b)]) hx hb dL_law_444 hl (by decide) rfl (fun ls hl => ?_)
  refine lv_aload_n hx hb dL_law_446 rfl (lv_at hl 5 rfl) ?_
  refine kMi (As := []) (rest := []) hC (c_X6_thrown (G := G) (N := N) (q := m9.1 7) rfl) kq5_72 kc_X6_thrown (by decide) 0 (ci := 4) rfl rfl hP hK hD hE hS hA (out := fun v : Ob => (LW G ho (hoI fo q.1) h0 a0 a1 ra rb q.2.1 q.2.2.1 q.2.2.2.1 q.2.2.2.2 hm am v hd fd)) (wr := [(ho, .inl (G.2.2.1 2, 1, .inr (.inl (hoI fo q.1))))] ++ (wAll G h0 a0 q.2.1 a1 q.2.2.1 ra rb q.2.2.2.1 q.2.2.2.2 ++ [(hd, .inl (G.2.2.1 5, 1, .inr (.inr (.inr (.inl fd)))))])) (lpm3 _ _ _ _) (fun v => (lpm3 _ _ _ _).symm) hl.1 (Nat.le_of_ble_eq_true rfl) hcs dL_law_447 (fun r9 v9 H locs hw hP hD hS => ?_)
  obtain ⟨hr9, hv9⟩ := hw
  subst hv9
  subst hr9
  have hP : va_P (gD G) vwCl (LW G ho (hoI fo q.1) h0 a0 a1 ra rb q.2.1 q.2.2.1 q.2.2.2.1 q.2.2.2.2 hm am m9 hd fd) H := hP
  have hD : va_D A (LW G ho (hoI fo q.1) h0 a0 a1 ra rb q.2.1 q.2.2.1 q.2.2.2.1 q.2.2.2.2 hm am m9 hd fd) := hD
  refine lv_iload hx hb dL_law_450 (lv_at hl 1 rfl) ?_
  refine lv_icmp_eq (tgt := 457) hx hb dL_law_452 (by decide) (fun _ => ?_) (fun h => absurd rfl h)
  refine lv_iload hx hb dL_law_457 (lv_at hl 1 rfl) ?_
  refine lv_if_ne (tgt := 474) hx hb dL_law_459 (by decide) (fun h9 => ?_) (fun h9 => ?_)
  · skip
    refine lv_goto (tgt := 1884) hx hb dL_law_474 (by decide) ?_
    exact kk (hoI fo q.1) fd q.2.1 q.2.2.1 q.2.2.2.1 q.2.2.2.2 m9 H locs ls hRel9 hP hD hS (lv_sub hl [2, 3, 4, 5, 6, 7] rfl)
  · have hq := okX_r hok ((okX_hc hok).trans h9)
    refine lv_aload_n hx hb dL_law_462 rfl (lv_at hl 4 rfl) ?_
    refine lv_iconst (v := (0 : Int32)) hx hb dL_law_463 (by decide) ?_
    refine va_lald (f := (hoI fo q.1)) hx hb hK hP 0 2 rfl rfl (vin (by decide)) dL_law_464 ?_
    have hv : (hoI fo q.1) (0 : Int32).toNatClampNeg = b9.toInt64 := by rw [hq]; rfl
    rw [hv]
    refine lv_iload hx hb dL_law_465 (lv_at hl 0 rfl) ?_
    refine lv_i2l (v := b9.toInt64) hx hb dL_law_467 rfl ?_
    refine lc_eq (tgt := 474) hx hb dL_law_468 dL_law_469 (by decide) (fun _ => ?_) (fun h => absurd rfl h)
    refine lv_goto (tgt := 1884) hx hb dL_law_474 (by decide) ?_
    exact kk (hoI fo q.1) fd q.2.1 q.2.2.1 q.2.2.2.1 q.2.2.2.2 m9 H locs ls hRel9 hP hD hS (lv_sub hl [2, 3, 4, 5, 6, 7] rfl)
def S_number (Rel : Cst → Ob → Prop) (N : Nat) : Prop := ∀ (u0 u1 : Ob) (u2 u3 : Nat → Ob) (mo : Ob), Rel (u0, u1, u2, u3) mo → ∀ (x1 : Int32) (x2 : Int32) (x3 : Int32) (x4 : Int32) (x5 : Int32), ∃ q b m9, f_X5_number N x1 x2 x3 x4 x5 u0 u1 u2 u3 = some q ∧ f_X6_number N x1 x2 x3 x4 x5 mo = some (b, m9) ∧ okX 1 1 q.1 b (m9.1 7) ∧ Rel q.2 m9
set_option maxRecDepth 100000 in
set_option maxHeartbeats 4000000 in
theorem w_number {p : Program} {l : Launch} {e : Env} {s : State} {m : MethodId} {args : Array Value} {below : List Frame} {meth : Method} {c : Code} {H : Heap} {locs : List Loc} {cells slots : Nat} {Q : State → Prop} {ls : Array Slot} {A : Nat → Prop} {G : Gp} {b L n : Nat} {xs : Nat → Int32} {ho h0 hm hd : Nat} {fo : Nat → Int64} {fd : Nat → UInt64} {a0 a1 am : Nat → Nat} {ra rb : Nat → Nat → Nat} {u0 u1 mo : Ob} {u2 u3 : Nat → Ob} {Rel : Cst → Ob → Prop} {N : Nat}
    (hst : S_number Rel N) (hRel : Rel (u0, u1, u2, u3) mo) (hC : CallFix p m c code 9 s args lw_g RL) (hlf : l.stackTraces = false) (hX : va_X b L xs s s.heap) (hbl : b < s.heap.size) (hbA : ¬ A b) (hL : L ≤ 3072) (hn : n + 6 ≤ L) (hP : va_P (gD G) vwCl (LW G ho fo h0 a0 a1 ra rb u0 u1 u2 u3 hm am mo hd fd) H) (hK : va_K (gD G) vwCl (gT G) s) (hD : va_D A (LW G ho fo h0 a0 a1 ra rb u0 u1 u2 u3 hm am mo hd fd)) (hE : Ev (gE G) A s) (hS : va_S A s.heap H locs) (hA : ∀ q : Nat, s.heap.size ≤ q → A q) (hl : lv_has ls 9 [(5, .int (Int32.ofNat n)), (4, .ref hd), (3, .ref ho), (2, .ref hm), (1, .ref h0), (0, .ref b)]) (hcs : cells + 1 ≤ 601024 ∧ slots + 6 ≤ 7293034)
    (kk : ∀ (fo' : Nat → Int64) (fd' : Nat → UInt64) (u0 u1 : Ob) (u2 u3 : Nat → Ob) (mo : Ob) (H : Heap) (locs : List Loc) (ls : Array Slot), Rel (u0, u1, u2, u3) mo → va_P (gD G) vwCl (LW G ho fo' h0 a0 a1 ra rb u0 u1 u2 u3 hm am mo hd fd') H → va_D A (LW G ho fo' h0 a0 a1 ra rb u0 u1 u2 u3 hm am mo hd fd') → va_S A s.heap H locs → lv_has ls 9 [(5, .int (Int32.ofNat n)), (4, .ref hd), (3, .ref ho), (2, .ref hm), (1, .ref h0), (0, .ref b)] → W p l e room_1 s m args below meth c H locs (cells + 1) (slots + 6) Q (F0 m 1884 ls [])) :
    W p l e room_1 s m args below meth c H locs cells slots Q (F0 m 477 ls []) := by
  obtain ⟨hx, hb, hml, hown, hg⟩ := id hC
  obtain ⟨q, b9, m9, e5, e6, hok, hRel9⟩ := hst u0 u1 u2 u3 mo hRel (xs (n + 1)) (xs (n + 2)) (xs (n + 3)) (xs (n + 4)) (xs (n + 5))
  skip
  refine lv_aload_n hx hb dL_law_477 rfl (lv_at hl 4 rfl) ?_
  refine sc (k := 1) (kI := 1) 5 0 (by decide) hx hb hX hbl hbA hS hl rfl rfl (by omega) hL dL_law_478 dL_law_479 dL_law_481 dL_law_482 dL_law_483 ?_
  refine sc (k := 2) (kI := 2) 5 0 (by decide) hx hb hX hbl hbA hS hl rfl rfl (by omega) hL dL_law_484 dL_law_485 dL_law_487 dL_law_488 dL_law_489 ?_
  refine sc (k := 3) (kI := 3) 5 0 (by decide) hx hb hX hbl hbA hS hl rfl rfl (by omega) hL dL_law_490 dL_law_491 dL_law_493 dL_law_494 dL_law_495 ?_
  refine sc (k := 4) (kI := 4) 5 0 (by decide) hx hb hX hbl hbA hS hl rfl rfl (by omega) hL dL_law_496 dL_law_497 dL_law_499 dL_law_500 dL_law_501 ?_
  refine sc (k := 5) (kI := 5) 5 0 (by decide) hx hb hX hbl hbA hS hl rfl rfl (by omega) hL dL_law_502 dL_law_503 dL_law_505 dL_law_506 dL_law_507 ?_
  refine lv_aload_n hx hb dL_law_508 rfl (lv_at hl 2 rfl) ?_
  refine kH (As := [.ref h0, .int (xs (n + 1)), .int (xs (n + 2)), .int (xs (n + 3)), .int (xs (n + 4)), .int (xs (n + 5)), .ref ho]) (rest := []) hC (c_L_number hlf (G := G) (fo := fo) e5 (okX_hk1 hok)) kq3_214 kc_L_number (by decide) hP hK hD hE hS hA (out := (fun v : (Nat → Int64) × Ob × Ob × (Nat → Ob) × (Nat → Ob) => (LW G ho v.1 h0 a0 a1 ra rb v.2.1 v.2.2.1 v.2.2.2.1 v.2.2.2.2 hm am mo hd fd))) (wr := wX6 G hm am mo ++ [(hd, .inl (G.2.2.1 5, 1, .inr (.inr (.inr (.inl fd)))))]) (lpm1 _ _ _ _) (fun v => (lpm1 _ _ _ _).symm) hl.1 (Nat.le_of_ble_eq_true rfl) hcs dL_law_509 (fun r9 v9 H locs hw hP hD hS => ?_)
  obtain ⟨hr9, hv9⟩ := hw
  subst hv9
  rw [okX_hc hok] at hr9
  subst hr9
  have hP : va_P (gD G) vwCl (LW G ho (hoI fo q.1) h0 a0 a1 ra rb q.2.1 q.2.2.1 q.2.2.2.1 q.2.2.2.2 hm am mo hd fd) H := hP
  have hD : va_D A (LW G ho (hoI fo q.1) h0 a0 a1 ra rb q.2.1 q.2.2.1 q.2.2.2.1 q.2.2.2.2 hm am mo hd fd) := hD
  refine lv_istore (lv' := [(6, .int (m9.1 7)), (5, .int (Int32.ofNat n)), (4, .ref hd), (3, .ref ho), (2, .ref hm), (1, .ref h0), (0, .ref b)]) hx hb dL_law_512 hl (by decide) rfl (fun ls hl => ?_)
  refine lv_aload_n hx hb dL_law_514 rfl (lv_at hl 4 rfl) ?_
  refine sc (k := 1) (kI := 1) 6 1 (by decide) hx hb hX hbl hbA hS hl rfl rfl (by omega) hL dL_law_515 dL_law_516 dL_law_518 dL_law_519 dL_law_520 ?_
  refine sc (k := 2) (kI := 2) 6 1 (by decide) hx hb hX hbl hbA hS hl rfl rfl (by omega) hL dL_law_521 dL_law_522 dL_law_524 dL_law_525 dL_law_526 ?_
  refine sc (k := 3) (kI := 3) 6 1 (by decide) hx hb hX hbl hbA hS hl rfl rfl (by omega) hL dL_law_527 dL_law_528 dL_law_530 dL_law_531 dL_law_532 ?_
  refine sc (k := 4) (kI := 4) 6 1 (by decide) hx hb hX hbl hbA hS hl rfl rfl (by omega) hL dL_law_533 dL_law_534 dL_law_536 dL_law_537 dL_law_538 ?_
  refine sc (k := 5) (kI := 5) 6 1 (by decide) hx hb hX hbl hbA hS hl rfl rfl (by omega) hL dL_law_539 dL_law_540 dL_law_542 dL_law_543 dL_law_544 ?_
  refine kMi (As := [.int (xs (n + 1)), .int (xs (n + 2)), .int (xs (n + 3)), .int (xs (n + 4)), .int (xs (n + 5))]) (rest := []) hC (c_X6_number (G := G) (N := N) e6) kq5_112 kc_X6_number (by decide) 0 (ci := 4) rfl rfl hP hK hD hE hS hA (out := fun v : Ob => (LW G ho (hoI fo q.1) h0 a0 a1 ra rb q.2.1 q.2.2.1 q.2.2.2.1 q.2.2.2.2 hm am v hd fd)) (wr := [(ho, .inl (G.2.2.1 2, 1, .inr (.inl (hoI fo q.1))))] ++ (wAll G h0 a0 q.2.1 a1 q.2.2.1 ra rb q.2.2.2.1 q.2.2.2.2 ++ [(hd, .inl (G.2.2.1 5, 1, .inr (.inr (.inr (.inl fd)))))])) (lpm3 _ _ _ _) (fun v => (lpm3 _ _ _ _).symm) hl.1 (Nat.le_of_ble_eq_true rfl) hcs dL_law_545 (fun r9 v9 H locs hw hP hD hS => ?_)
  obtain ⟨hr9, hv9⟩ := hw
  subst hv9
  subst hr9
  have hP : va_P (gD G) vwCl (LW G ho (hoI fo q.1) h0 a0 a1 ra rb q.2.1 q.2.2.1 q.2.2.2.1 q.2.2.2.2 hm am m9 hd fd) H := hP
  have hD : va_D A (LW G ho (hoI fo q.1) h0 a0 a1 ra rb q.2.1 q.2.2.1 q.2.2.2.1 q.2.2.2.2 hm am m9 hd fd) := hD
  refine lv_istore (lv' := [(7, .int b9), (6, .int (m9.1 7)), (5, .int (Int32.ofNat n)), (4, .ref hd), (3, .ref ho), (2, .ref hm), (1, .ref h0), (0, .ref b)]) hx hb dL_law_548 hl (by decide) rfl (fun ls hl => ?_)
  refine lv_aload_n hx hb dL_law_550 rfl (lv_at hl 5 rfl) ?_
  refine kMi (As := []) (rest := []) hC (c_X6_thrown (G := G) (N := N) (q := m9.1 7) rfl) kq5_72 kc_X6_thrown (by decide) 0 (ci := 4) rfl rfl hP hK hD hE hS hA (out := fun v : Ob => (LW G ho (hoI fo q.1) h0 a0 a1 ra rb q.2.1 q.2.2.1 q.2.2.2.1 q.2.2.2.2 hm am v hd fd)) (wr := [(ho, .inl (G.2.2.1 2, 1, .inr (.inl (hoI fo q.1))))] ++ (wAll G h0 a0 q.2.1 a1 q.2.2.1 ra rb q.2.2.2.1 q.2.2.2.2 ++ [(hd, .inl (G.2.2.1 5, 1, .inr (.inr (.inr (.inl fd)))))])) (lpm3 _ _ _ _) (fun v => (lpm3 _ _ _ _).symm) hl.1 (Nat.le_of_ble_eq_true rfl) hcs dL_law_551 (fun r9 v9 H locs hw hP hD hS => ?_)
  obtain ⟨hr9, hv9⟩ := hw
  subst hv9
  subst hr9
  have hP : va_P (gD G) vwCl (LW G ho (hoI fo q.1) h0 a0 a1 ra rb q.2.1 q.2.2.1 q.2.2.2.1 q.2.2.2.2 hm am m9 hd fd) H := hP
  have hD : va_D A (LW G ho (hoI fo q.1) h0 a0 a1 ra rb q.2.1 q.2.2.1 q.2.2.2.1 q.2.2.2.2 hm am m9 hd fd) := hD
  refine lv_iload hx hb dL_law_554 (lv_at hl 1 rfl) ?_
  refine lv_icmp_eq (tgt := 561) hx hb dL_law_556 (by decide) (fun _ => ?_) (fun h => absurd rfl h)
  refine lv_iload hx hb dL_law_561 (lv_at hl 1 rfl) ?_
  refine lv_if_ne (tgt := 578) hx hb dL_law_563 (by decide) (fun h9 => ?_) (fun h9 => ?_)
  · skip
    refine lv_goto (tgt := 1884) hx hb dL_law_578 (by decide) ?_
    exact kk (hoI fo q.1) fd q.2.1 q.2.2.1 q.2.2.2.1 q.2.2.2.2 m9 H locs ls hRel9 hP hD hS (lv_sub hl [2, 3, 4, 5, 6, 7] rfl)
  · have hq := okX_r hok ((okX_hc hok).trans h9)
    refine lv_aload_n hx hb dL_law_566 rfl (lv_at hl 4 rfl) ?_
    refine lv_iconst (v := (0 : Int32)) hx hb dL_law_567 (by decide) ?_
    refine va_lald (f := (hoI fo q.1)) hx hb hK hP 0 2 rfl rfl (vin (by decide)) dL_law_568 ?_
    have hv : (hoI fo q.1) (0 : Int32).toNatClampNeg = b9.toInt64 := by rw [hq]; rfl
    rw [hv]
    refine lv_iload hx hb dL_law_569 (lv_at hl 0 rfl) ?_
    refine lv_i2l (v := b9.toInt64) hx hb dL_law_571 rfl ?_
    refine lc_eq (tgt := 578) hx hb dL_law_572 dL_law_573 (by decide) (fun _ => ?_) (fun h => absurd rfl h)
    refine lv_goto (tgt := 1884) hx hb dL_law_578 (by decide) ?_
    exact kk (hoI fo q.1) fd q.2.1 q.2.2.1 q.2.2.2.1 q.2.2.2.2 m9 H locs ls hRel9 hP hD hS (lv_sub hl [2, 3, 4, 5, 6, 7] rfl)
def S_code (Rel : Cst → Ob → Prop) (N : Nat) : Prop := ∀ (u0 u1 : Ob) (u2 u3 : Nat → Ob) (mo : Ob), Rel (u0, u1, u2, u3) mo → ∀ (x1 : Int32) (x2 : Bool), ∃ q b m9, f_X5_code N x1 x2 u0 u1 u2 u3 = some q ∧ f_X6_code N x1 x2 mo = some (b, m9) ∧ okX 1 1 q.1 b (m9.1 7) ∧ Rel q.2 m9
set_option maxRecDepth 100000 in
set_option maxHeartbeats 4000000 in
theorem w_code {p : Program} {l : Launch} {e : Env} {s : State} {m : MethodId} {args : Array Value} {below : List Frame} {meth : Method} {c : Code} {H : Heap} {locs : List Loc} {cells slots : Nat} {Q : State → Prop} {ls : Array Slot} {A : Nat → Prop} {G : Gp} {b L n : Nat} {xs : Nat → Int32} {ho h0 hm hd : Nat} {fo : Nat → Int64} {fd : Nat → UInt64} {a0 a1 am : Nat → Nat} {ra rb : Nat → Nat → Nat} {u0 u1 mo : Ob} {u2 u3 : Nat → Ob} {Rel : Cst → Ob → Prop} {N : Nat}
    (hst : S_code Rel N) (hRel : Rel (u0, u1, u2, u3) mo) (hC : CallFix p m c code 9 s args lw_g RL) (hlf : l.stackTraces = false) (hX : va_X b L xs s s.heap) (hbl : b < s.heap.size) (hbA : ¬ A b) (hL : L ≤ 3072) (hn : n + 6 ≤ L) (hP : va_P (gD G) vwCl (LW G ho fo h0 a0 a1 ra rb u0 u1 u2 u3 hm am mo hd fd) H) (hK : va_K (gD G) vwCl (gT G) s) (hD : va_D A (LW G ho fo h0 a0 a1 ra rb u0 u1 u2 u3 hm am mo hd fd)) (hE : Ev (gE G) A s) (hS : va_S A s.heap H locs) (hA : ∀ q : Nat, s.heap.size ≤ q → A q) (hl : lv_has ls 9 [(5, .int (Int32.ofNat n)), (4, .ref hd), (3, .ref ho), (2, .ref hm), (1, .ref h0), (0, .ref b)]) (hcs : cells + 1 ≤ 601024 ∧ slots + 6 ≤ 7293034)
    (kk : ∀ (fo' : Nat → Int64) (fd' : Nat → UInt64) (u0 u1 : Ob) (u2 u3 : Nat → Ob) (mo : Ob) (H : Heap) (locs : List Loc) (ls : Array Slot), Rel (u0, u1, u2, u3) mo → va_P (gD G) vwCl (LW G ho fo' h0 a0 a1 ra rb u0 u1 u2 u3 hm am mo hd fd') H → va_D A (LW G ho fo' h0 a0 a1 ra rb u0 u1 u2 u3 hm am mo hd fd') → va_S A s.heap H locs → lv_has ls 9 [(5, .int (Int32.ofNat n)), (4, .ref hd), (3, .ref ho), (2, .ref hm), (1, .ref h0), (0, .ref b)] → W p l e room_1 s m args below meth c H locs (cells + 1) (slots + 6) Q (F0 m 1884 ls [])) :
    W p l e room_1 s m args below meth c H locs cells slots Q (F0 m 581 ls []) := by
  obtain ⟨hx, hb, hml, hown, hg⟩ := id hC
  obtain ⟨q, b9, m9, e5, e6, hok, hRel9⟩ := hst u0 u1 u2 u3 mo hRel (xs (n + 1)) (!decide (xs (n + 2) = 0))
  skip
  refine lv_aload_n hx hb dL_law_581 rfl (lv_at hl 4 rfl) ?_
  refine sc (k := 1) (kI := 1) 5 0 (by decide) hx hb hX hbl hbA hS hl rfl rfl (by omega) hL dL_law_582 dL_law_583 dL_law_585 dL_law_586 dL_law_587 ?_
  refine sc (k := 2) (kI := 2) 5 0 (by decide) hx hb hX hbl hbA hS hl rfl rfl (by omega) hL dL_law_588 dL_law_589 dL_law_591 dL_law_592 dL_law_593 ?_
  refine jb hx hb dL_law_594 dL_law_597 dL_law_598 dL_law_601 ?_
  refine lv_aload_n hx hb dL_law_602 rfl (lv_at hl 2 rfl) ?_
  refine kH (As := [.ref h0, .int (xs (n + 1)), .int (bI (!decide (xs (n + 2) = 0))), .ref ho]) (rest := []) hC (c_L_code hlf (G := G) (fo := fo) e5 (okX_hk1 hok)) kq3_226 kc_L_code (by decide) hP hK hD hE hS hA (out := (fun v : (Nat → Int64) × Ob × Ob × (Nat → Ob) × (Nat → Ob) => (LW G ho v.1 h0 a0 a1 ra rb v.2.1 v.2.2.1 v.2.2.2.1 v.2.2.2.2 hm am mo hd fd))) (wr := wX6 G hm am mo ++ [(hd, .inl (G.2.2.1 5, 1, .inr (.inr (.inr (.inl fd)))))]) (lpm1 _ _ _ _) (fun v => (lpm1 _ _ _ _).symm) hl.1 (Nat.le_of_ble_eq_true rfl) hcs dL_law_603 (fun r9 v9 H locs hw hP hD hS => ?_)
  obtain ⟨hr9, hv9⟩ := hw
  subst hv9
  rw [okX_hc hok] at hr9
  subst hr9
  have hP : va_P (gD G) vwCl (LW G ho (hoL fo q.1) h0 a0 a1 ra rb q.2.1 q.2.2.1 q.2.2.2.1 q.2.2.2.2 hm am mo hd fd) H := hP
  have hD : va_D A (LW G ho (hoL fo q.1) h0 a0 a1 ra rb q.2.1 q.2.2.1 q.2.2.2.1 q.2.2.2.2 hm am mo hd fd) := hD
  refine lv_istore (lv' := [(6, .int (m9.1 7)), (5, .int (Int32.ofNat n)), (4, .ref hd), (3, .ref ho), (2, .ref hm), (1, .ref h0), (0, .ref b)]) hx hb dL_law_606 hl (by decide) rfl (fun ls hl => ?_)
  refine lv_aload_n hx hb dL_law_608 rfl (lv_at hl 4 rfl) ?_
  refine sc (k := 1) (kI := 1) 6 1 (by decide) hx hb hX hbl hbA hS hl rfl rfl (by omega) hL dL_law_609 dL_law_610 dL_law_612 dL_law_613 dL_law_614 ?_
  refine sc (k := 2) (kI := 2) 6 1 (by decide) hx hb hX hbl hbA hS hl rfl rfl (by omega) hL dL_law_615 dL_law_616 dL_law_618 dL_law_619 dL_law_620 ?_
  refine jb hx hb dL_law_621 dL_law_624 dL_law_625 dL_law_628 ?_
  refine kMl (As := [.int (xs (n + 1)), .int (bI (!decide (xs (n + 2) = 0)))]) (rest := []) hC (c_X6_code (G := G) (N := N) e6) kq5_127 kc_X6_code (by decide) 0 (ci := 4) rfl rfl hP hK hD hE hS hA (out := fun v : Ob => (LW G ho (hoL fo q.1) h0 a0 a1 ra rb q.2.1 q.2.2.1 q.2.2.2.1 q.2.2.2.2 hm am v hd fd)) (wr := [(ho, .inl (G.2.2.1 2, 1, .inr (.inl (hoL fo q.1))))] ++ (wAll G h0 a0 q.2.1 a1 q.2.2.1 ra rb q.2.2.2.1 q.2.2.2.2 ++ [(hd, .inl (G.2.2.1 5, 1, .inr (.inr (.inr (.inl fd)))))])) (lpm3 _ _ _ _) (fun v => (lpm3 _ _ _ _).symm) hl.1 (Nat.le_of_ble_eq_true rfl) hcs dL_law_629 (fun r9 v9 H locs hw hP hD hS => ?_)
  obtain ⟨hr9, hv9⟩ := hw
  subst hv9
  subst hr9
  have hP : va_P (gD G) vwCl (LW G ho (hoL fo q.1) h0 a0 a1 ra rb q.2.1 q.2.2.1 q.2.2.2.1 q.2.2.2.2 hm am m9 hd fd) H := hP
  have hD : va_D A (LW G ho (hoL fo q.1) h0 a0 a1 ra rb q.2.1 q.2.2.1 q.2.2.2.1 q.2.2.2.2 hm am m9 hd fd) := hD
  refine lv_lstore (lv' := [(7, .long b9), (6, .int (m9.1 7)), (5, .int (Int32.ofNat n)), (4, .ref hd), (3, .ref ho), (2, .ref hm), (1, .ref h0), (0, .ref b)]) hx hb dL_law_632 hl (by decide) rfl (fun ls hl => ?_)
  refine lv_aload_n hx hb dL_law_634 rfl (lv_at hl 5 rfl) ?_
  refine kMi (As := []) (rest := []) hC (c_X6_thrown (G := G) (N := N) (q := m9.1 7) rfl) kq5_72 kc_X6_thrown (by decide) 0 (ci := 4) rfl rfl hP hK hD hE hS hA (out := fun v : Ob => (LW G ho (hoL fo q.1) h0 a0 a1 ra rb q.2.1 q.2.2.1 q.2.2.2.1 q.2.2.2.2 hm am v hd fd)) (wr := [(ho, .inl (G.2.2.1 2, 1, .inr (.inl (hoL fo q.1))))] ++ (wAll G h0 a0 q.2.1 a1 q.2.2.1 ra rb q.2.2.2.1 q.2.2.2.2 ++ [(hd, .inl (G.2.2.1 5, 1, .inr (.inr (.inr (.inl fd)))))])) (lpm3 _ _ _ _) (fun v => (lpm3 _ _ _ _).symm) hl.1 (Nat.le_of_ble_eq_true rfl) hcs dL_law_635 (fun r9 v9 H locs hw hP hD hS => ?_)
  obtain ⟨hr9, hv9⟩ := hw
  subst hv9
  subst hr9
  have hP : va_P (gD G) vwCl (LW G ho (hoL fo q.1) h0 a0 a1 ra rb q.2.1 q.2.2.1 q.2.2.2.1 q.2.2.2.2 hm am m9 hd fd) H := hP
  have hD : va_D A (LW G ho (hoL fo q.1) h0 a0 a1 ra rb q.2.1 q.2.2.1 q.2.2.2.1 q.2.2.2.2 hm am m9 hd fd) := hD
  refine lv_iload hx hb dL_law_638 (lv_at hl 1 rfl) ?_
  refine lv_icmp_eq (tgt := 645) hx hb dL_law_640 (by decide) (fun _ => ?_) (fun h => absurd rfl h)
  refine lv_iload hx hb dL_law_645 (lv_at hl 1 rfl) ?_
  refine lv_if_ne (tgt := 661) hx hb dL_law_647 (by decide) (fun h9 => ?_) (fun h9 => ?_)
  · skip
    refine lv_goto (tgt := 1884) hx hb dL_law_661 (by decide) ?_
    exact kk (hoL fo q.1) fd q.2.1 q.2.2.1 q.2.2.2.1 q.2.2.2.2 m9 H locs ls hRel9 hP hD hS (lv_sub hl [2, 3, 4, 5, 6, 7] rfl)
  · have hq := okX_r hok ((okX_hc hok).trans h9)
    refine lv_aload_n hx hb dL_law_650 rfl (lv_at hl 4 rfl) ?_
    refine lv_iconst (v := (0 : Int32)) hx hb dL_law_651 (by decide) ?_
    refine va_lald (f := (hoL fo q.1)) hx hb hK hP 0 2 rfl rfl (vin (by decide)) dL_law_652 ?_
    have hv : (hoL fo q.1) (0 : Int32).toNatClampNeg = b9 := by rw [hq]; rfl
    rw [hv]
    refine lv_lload hx hb dL_law_653 (lv_at hl 0 rfl) ?_
    refine lc_eq (tgt := 661) hx hb dL_law_655 dL_law_656 (by decide) (fun _ => ?_) (fun h => absurd rfl h)
    refine lv_goto (tgt := 1884) hx hb dL_law_661 (by decide) ?_
    exact kk (hoL fo q.1) fd q.2.1 q.2.2.1 q.2.2.2.1 q.2.2.2.2 m9 H locs ls hRel9 hP hD hS (lv_sub hl [2, 3, 4, 5, 6, 7] rfl)
def S_pulse (Rel : Cst → Ob → Prop) (N : Nat) : Prop := ∀ (u0 u1 : Ob) (u2 u3 : Nat → Ob) (mo : Ob), Rel (u0, u1, u2, u3) mo → ∀ (x1 : Int32) (x2 : Int32), ∃ q b m9, f_X5_pulse N x1 x2 u0 u1 u2 u3 = some q ∧ f_X6_pulse N x1 x2 mo = some (b, m9) ∧ okX 1 1 q.1 b (m9.1 7) ∧ Rel q.2 m9
set_option maxRecDepth 100000 in
set_option maxHeartbeats 4000000 in
theorem w_pulse {p : Program} {l : Launch} {e : Env} {s : State} {m : MethodId} {args : Array Value} {below : List Frame} {meth : Method} {c : Code} {H : Heap} {locs : List Loc} {cells slots : Nat} {Q : State → Prop} {ls : Array Slot} {A : Nat → Prop} {G : Gp} {b L n : Nat} {xs : Nat → Int32} {ho h0 hm hd : Nat} {fo : Nat → Int64} {fd : Nat → UInt64} {a0 a1 am : Nat → Nat} {ra rb : Nat → Nat → Nat} {u0 u1 mo : Ob} {u2 u3 : Nat → Ob} {Rel : Cst → Ob → Prop} {N : Nat}
    (hst : S_pulse Rel N) (hRel : Rel (u0, u1, u2, u3) mo) (hC : CallFix p m c code 9 s args lw_g RL) (hlf : l.stackTraces = false) (hX : va_X b L xs s s.heap) (hbl : b < s.heap.size) (hbA : ¬ A b) (hL : L ≤ 3072) (hn : n + 6 ≤ L) (hP : va_P (gD G) vwCl (LW G ho fo h0 a0 a1 ra rb u0 u1 u2 u3 hm am mo hd fd) H) (hK : va_K (gD G) vwCl (gT G) s) (hD : va_D A (LW G ho fo h0 a0 a1 ra rb u0 u1 u2 u3 hm am mo hd fd)) (hE : Ev (gE G) A s) (hS : va_S A s.heap H locs) (hA : ∀ q : Nat, s.heap.size ≤ q → A q) (hl : lv_has ls 9 [(5, .int (Int32.ofNat n)), (4, .ref hd), (3, .ref ho), (2, .ref hm), (1, .ref h0), (0, .ref b)]) (hcs : cells + 1 ≤ 601024 ∧ slots + 6 ≤ 7293034)
    (kk : ∀ (fo' : Nat → Int64) (fd' : Nat → UInt64) (u0 u1 : Ob) (u2 u3 : Nat → Ob) (mo : Ob) (H : Heap) (locs : List Loc) (ls : Array Slot), Rel (u0, u1, u2, u3) mo → va_P (gD G) vwCl (LW G ho fo' h0 a0 a1 ra rb u0 u1 u2 u3 hm am mo hd fd') H → va_D A (LW G ho fo' h0 a0 a1 ra rb u0 u1 u2 u3 hm am mo hd fd') → va_S A s.heap H locs → lv_has ls 9 [(5, .int (Int32.ofNat n)), (4, .ref hd), (3, .ref ho), (2, .ref hm), (1, .ref h0), (0, .ref b)] → W p l e room_1 s m args below meth c H locs (cells + 1) (slots + 6) Q (F0 m 1884 ls [])) :
    W p l e room_1 s m args below meth c H locs cells slots Q (F0 m 664 ls []) := by
  obtain ⟨hx, hb, hml, hown, hg⟩ := id hC
  obtain ⟨q, b9, m9, e5, e6, hok, hRel9⟩ := hst u0 u1 u2 u3 mo hRel (xs (n + 1)) (xs (n + 2))
  skip
  refine lv_aload_n hx hb dL_law_664 rfl (lv_at hl 4 rfl) ?_
  refine sc (k := 1) (kI := 1) 5 0 (by decide) hx hb hX hbl hbA hS hl rfl rfl (by omega) hL dL_law_665 dL_law_666 dL_law_668 dL_law_669 dL_law_670 ?_
  refine sc (k := 2) (kI := 2) 5 0 (by decide) hx hb hX hbl hbA hS hl rfl rfl (by omega) hL dL_law_671 dL_law_672 dL_law_674 dL_law_675 dL_law_676 ?_
  refine lv_aload_n hx hb dL_law_677 rfl (lv_at hl 2 rfl) ?_
  refine kH (As := [.ref h0, .int (xs (n + 1)), .int (xs (n + 2)), .ref ho]) (rest := []) hC (c_L_pulse hlf (G := G) (fo := fo) e5 (okX_hk1 hok)) kq3_234 kc_L_pulse (by decide) hP hK hD hE hS hA (out := (fun v : (Nat → Int64) × Ob × Ob × (Nat → Ob) × (Nat → Ob) => (LW G ho v.1 h0 a0 a1 ra rb v.2.1 v.2.2.1 v.2.2.2.1 v.2.2.2.2 hm am mo hd fd))) (wr := wX6 G hm am mo ++ [(hd, .inl (G.2.2.1 5, 1, .inr (.inr (.inr (.inl fd)))))]) (lpm1 _ _ _ _) (fun v => (lpm1 _ _ _ _).symm) hl.1 (Nat.le_of_ble_eq_true rfl) hcs dL_law_678 (fun r9 v9 H locs hw hP hD hS => ?_)
  obtain ⟨hr9, hv9⟩ := hw
  subst hv9
  rw [okX_hc hok] at hr9
  subst hr9
  have hP : va_P (gD G) vwCl (LW G ho (hoI fo q.1) h0 a0 a1 ra rb q.2.1 q.2.2.1 q.2.2.2.1 q.2.2.2.2 hm am mo hd fd) H := hP
  have hD : va_D A (LW G ho (hoI fo q.1) h0 a0 a1 ra rb q.2.1 q.2.2.1 q.2.2.2.1 q.2.2.2.2 hm am mo hd fd) := hD
  refine lv_istore (lv' := [(6, .int (m9.1 7)), (5, .int (Int32.ofNat n)), (4, .ref hd), (3, .ref ho), (2, .ref hm), (1, .ref h0), (0, .ref b)]) hx hb dL_law_681 hl (by decide) rfl (fun ls hl => ?_)
  refine lv_aload_n hx hb dL_law_683 rfl (lv_at hl 4 rfl) ?_
  refine sc (k := 1) (kI := 1) 6 1 (by decide) hx hb hX hbl hbA hS hl rfl rfl (by omega) hL dL_law_684 dL_law_685 dL_law_687 dL_law_688 dL_law_689 ?_
  refine sc (k := 2) (kI := 2) 6 1 (by decide) hx hb hX hbl hbA hS hl rfl rfl (by omega) hL dL_law_690 dL_law_691 dL_law_693 dL_law_694 dL_law_695 ?_
  refine kMi (As := [.int (xs (n + 1)), .int (xs (n + 2))]) (rest := []) hC (c_X6_pulse (G := G) (N := N) e6) kq6_90 kc_X6_pulse (by decide) 0 (ci := 4) rfl rfl hP hK hD hE hS hA (out := fun v : Ob => (LW G ho (hoI fo q.1) h0 a0 a1 ra rb q.2.1 q.2.2.1 q.2.2.2.1 q.2.2.2.2 hm am v hd fd)) (wr := [(ho, .inl (G.2.2.1 2, 1, .inr (.inl (hoI fo q.1))))] ++ (wAll G h0 a0 q.2.1 a1 q.2.2.1 ra rb q.2.2.2.1 q.2.2.2.2 ++ [(hd, .inl (G.2.2.1 5, 1, .inr (.inr (.inr (.inl fd)))))])) (lpm3 _ _ _ _) (fun v => (lpm3 _ _ _ _).symm) hl.1 (Nat.le_of_ble_eq_true rfl) hcs dL_law_696 (fun r9 v9 H locs hw hP hD hS => ?_)
  obtain ⟨hr9, hv9⟩ := hw
  subst hv9
  subst hr9
  have hP : va_P (gD G) vwCl (LW G ho (hoI fo q.1) h0 a0 a1 ra rb q.2.1 q.2.2.1 q.2.2.2.1 q.2.2.2.2 hm am m9 hd fd) H := hP
  have hD : va_D A (LW G ho (hoI fo q.1) h0 a0 a1 ra rb q.2.1 q.2.2.1 q.2.2.2.1 q.2.2.2.2 hm am m9 hd fd) := hD
  refine lv_istore (lv' := [(7, .int b9), (6, .int (m9.1 7)), (5, .int (Int32.ofNat n)), (4, .ref hd), (3, .ref ho), (2, .ref hm), (1, .ref h0), (0, .ref b)]) hx hb dL_law_699 hl (by decide) rfl (fun ls hl => ?_)
  refine lv_aload_n hx hb dL_law_701 rfl (lv_at hl 5 rfl) ?_
  refine kMi (As := []) (rest := []) hC (c_X6_thrown (G := G) (N := N) (q := m9.1 7) rfl) kq5_72 kc_X6_thrown (by decide) 0 (ci := 4) rfl rfl hP hK hD hE hS hA (out := fun v : Ob => (LW G ho (hoI fo q.1) h0 a0 a1 ra rb q.2.1 q.2.2.1 q.2.2.2.1 q.2.2.2.2 hm am v hd fd)) (wr := [(ho, .inl (G.2.2.1 2, 1, .inr (.inl (hoI fo q.1))))] ++ (wAll G h0 a0 q.2.1 a1 q.2.2.1 ra rb q.2.2.2.1 q.2.2.2.2 ++ [(hd, .inl (G.2.2.1 5, 1, .inr (.inr (.inr (.inl fd)))))])) (lpm3 _ _ _ _) (fun v => (lpm3 _ _ _ _).symm) hl.1 (Nat.le_of_ble_eq_true rfl) hcs dL_law_702 (fun r9 v9 H locs hw hP hD hS => ?_)
  obtain ⟨hr9, hv9⟩ := hw
  subst hv9
  subst hr9
  have hP : va_P (gD G) vwCl (LW G ho (hoI fo q.1) h0 a0 a1 ra rb q.2.1 q.2.2.1 q.2.2.2.1 q.2.2.2.2 hm am m9 hd fd) H := hP
  have hD : va_D A (LW G ho (hoI fo q.1) h0 a0 a1 ra rb q.2.1 q.2.2.1 q.2.2.2.1 q.2.2.2.2 hm am m9 hd fd) := hD
  refine lv_iload hx hb dL_law_705 (lv_at hl 1 rfl) ?_
  refine lv_icmp_eq (tgt := 712) hx hb dL_law_707 (by decide) (fun _ => ?_) (fun h => absurd rfl h)
  refine lv_iload hx hb dL_law_712 (lv_at hl 1 rfl) ?_
  refine lv_if_ne (tgt := 729) hx hb dL_law_714 (by decide) (fun h9 => ?_) (fun h9 => ?_)
  · skip
    refine lv_goto (tgt := 1884) hx hb dL_law_729 (by decide) ?_
    exact kk (hoI fo q.1) fd q.2.1 q.2.2.1 q.2.2.2.1 q.2.2.2.2 m9 H locs ls hRel9 hP hD hS (lv_sub hl [2, 3, 4, 5, 6, 7] rfl)
  · have hq := okX_r hok ((okX_hc hok).trans h9)
    refine lv_aload_n hx hb dL_law_717 rfl (lv_at hl 4 rfl) ?_
    refine lv_iconst (v := (0 : Int32)) hx hb dL_law_718 (by decide) ?_
    refine va_lald (f := (hoI fo q.1)) hx hb hK hP 0 2 rfl rfl (vin (by decide)) dL_law_719 ?_
    have hv : (hoI fo q.1) (0 : Int32).toNatClampNeg = b9.toInt64 := by rw [hq]; rfl
    rw [hv]
    refine lv_iload hx hb dL_law_720 (lv_at hl 0 rfl) ?_
    refine lv_i2l (v := b9.toInt64) hx hb dL_law_722 rfl ?_
    refine lc_eq (tgt := 729) hx hb dL_law_723 dL_law_724 (by decide) (fun _ => ?_) (fun h => absurd rfl h)
    refine lv_goto (tgt := 1884) hx hb dL_law_729 (by decide) ?_
    exact kk (hoI fo q.1) fd q.2.1 q.2.2.1 q.2.2.2.1 q.2.2.2.2 m9 H locs ls hRel9 hP hD hS (lv_sub hl [2, 3, 4, 5, 6, 7] rfl)
def S_hear (Rel : Cst → Ob → Prop) (N : Nat) : Prop := ∀ (u0 u1 : Ob) (u2 u3 : Nat → Ob) (mo : Ob), Rel (u0, u1, u2, u3) mo → ∀ (x1 : Int32) (x2 : Bool) (x3 : Int64), ∃ q b m9, f_X5_hear N x1 x2 x3 u0 u1 u2 u3 = some q ∧ f_X6_hear N x1 x2 x3 mo = some (b, m9) ∧ okX 1 0 q.1 b (m9.1 7) ∧ Rel q.2 m9
set_option maxRecDepth 100000 in
set_option maxHeartbeats 4000000 in
theorem w_hear {p : Program} {l : Launch} {e : Env} {s : State} {m : MethodId} {args : Array Value} {below : List Frame} {meth : Method} {c : Code} {H : Heap} {locs : List Loc} {cells slots : Nat} {Q : State → Prop} {ls : Array Slot} {A : Nat → Prop} {G : Gp} {b L n : Nat} {xs : Nat → Int32} {ho h0 hm hd : Nat} {fo : Nat → Int64} {fd : Nat → UInt64} {a0 a1 am : Nat → Nat} {ra rb : Nat → Nat → Nat} {u0 u1 mo : Ob} {u2 u3 : Nat → Ob} {Rel : Cst → Ob → Prop} {N : Nat}
    (hst : S_hear Rel N) (hRel : Rel (u0, u1, u2, u3) mo) (hC : CallFix p m c code 9 s args lw_g RL) (hlf : l.stackTraces = false) (hX : va_X b L xs s s.heap) (hbl : b < s.heap.size) (hbA : ¬ A b) (hL : L ≤ 3072) (hn : n + 6 ≤ L) (hP : va_P (gD G) vwCl (LW G ho fo h0 a0 a1 ra rb u0 u1 u2 u3 hm am mo hd fd) H) (hK : va_K (gD G) vwCl (gT G) s) (hD : va_D A (LW G ho fo h0 a0 a1 ra rb u0 u1 u2 u3 hm am mo hd fd)) (hE : Ev (gE G) A s) (hS : va_S A s.heap H locs) (hA : ∀ q : Nat, s.heap.size ≤ q → A q) (hl : lv_has ls 9 [(5, .int (Int32.ofNat n)), (4, .ref hd), (3, .ref ho), (2, .ref hm), (1, .ref h0), (0, .ref b)]) (hcs : cells + 1 ≤ 601024 ∧ slots + 6 ≤ 7293034)
    (kk : ∀ (fo' : Nat → Int64) (fd' : Nat → UInt64) (u0 u1 : Ob) (u2 u3 : Nat → Ob) (mo : Ob) (H : Heap) (locs : List Loc) (ls : Array Slot), Rel (u0, u1, u2, u3) mo → va_P (gD G) vwCl (LW G ho fo' h0 a0 a1 ra rb u0 u1 u2 u3 hm am mo hd fd') H → va_D A (LW G ho fo' h0 a0 a1 ra rb u0 u1 u2 u3 hm am mo hd fd') → va_S A s.heap H locs → lv_has ls 9 [(5, .int (Int32.ofNat n)), (4, .ref hd), (3, .ref ho), (2, .ref hm), (1, .ref h0), (0, .ref b)] → W p l e room_1 s m args below meth c H locs (cells + 1) (slots + 6) Q (F0 m 1884 ls [])) :
    W p l e room_1 s m args below meth c H locs cells slots Q (F0 m 732 ls []) := by
  obtain ⟨hx, hb, hml, hown, hg⟩ := id hC
  obtain ⟨q, b9, m9, e5, e6, hok, hRel9⟩ := hst u0 u1 u2 u3 mo hRel (xs (n + 1)) (!decide (xs (n + 2) = 0)) ((jshl (xs (n + 3)).toInt64 (32 : Int32)) ||| ((xs (n + 4)).toInt64 &&& (4294967295 : Int64)))
  skip
  refine lv_aload_n hx hb dL_law_732 rfl (lv_at hl 4 rfl) ?_
  refine sc (k := 1) (kI := 1) 5 0 (by decide) hx hb hX hbl hbA hS hl rfl rfl (by omega) hL dL_law_733 dL_law_734 dL_law_736 dL_law_737 dL_law_738 ?_
  refine sc (k := 2) (kI := 2) 5 0 (by decide) hx hb hX hbl hbA hS hl rfl rfl (by omega) hL dL_law_739 dL_law_740 dL_law_742 dL_law_743 dL_law_744 ?_
  refine jb hx hb dL_law_745 dL_law_748 dL_law_749 dL_law_752 ?_
  refine sc (k := 3) (kI := 3) 5 0 (by decide) hx hb hX hbl hbA hS hl rfl rfl (by omega) hL dL_law_753 dL_law_754 dL_law_756 dL_law_757 dL_law_758 ?_
  refine lv_i2l (v := (xs (n + 3)).toInt64) hx hb dL_law_759 rfl ?_
  refine lv_bipush (v := (32 : Int32)) hx hb dL_law_760 (by decide) ?_
  refine lv_lshl (v := jshl (xs (n + 3)).toInt64 (32 : Int32)) hx hb dL_law_762 rfl ?_
  refine sc (k := 4) (kI := 4) 5 0 (by decide) hx hb hX hbl hbA hS hl rfl rfl (by omega) hL dL_law_763 dL_law_764 dL_law_766 dL_law_767 dL_law_768 ?_
  refine lv_i2l (v := (xs (n + 4)).toInt64) hx hb dL_law_769 rfl ?_
  refine lv_ldc2 hx hb hown (hg _ kq6_230) dL_law_770 ?_
  refine lv_land hx hb dL_law_773 ?_
  refine lv_lor hx hb dL_law_774 ?_
  refine lv_aload_n hx hb dL_law_775 rfl (lv_at hl 2 rfl) ?_
  refine kH (As := [.ref h0, .int (xs (n + 1)), .int (bI (!decide (xs (n + 2) = 0))), .long ((jshl (xs (n + 3)).toInt64 (32 : Int32)) ||| ((xs (n + 4)).toInt64 &&& (4294967295 : Int64))), .ref ho]) (rest := []) hC (c_L_hear hlf (G := G) (fo := fo) e5 (okX_hk hok)) kq4_4 kc_L_hear (by decide) hP hK hD hE hS hA (out := (fun v : (Nat → Int64) × Ob × Ob × (Nat → Ob) × (Nat → Ob) => (LW G ho v.1 h0 a0 a1 ra rb v.2.1 v.2.2.1 v.2.2.2.1 v.2.2.2.2 hm am mo hd fd))) (wr := wX6 G hm am mo ++ [(hd, .inl (G.2.2.1 5, 1, .inr (.inr (.inr (.inl fd)))))]) (lpm1 _ _ _ _) (fun v => (lpm1 _ _ _ _).symm) hl.1 (Nat.le_of_ble_eq_true rfl) hcs dL_law_776 (fun r9 v9 H locs hw hP hD hS => ?_)
  obtain ⟨hr9, hv9⟩ := hw
  subst hv9
  rw [okX_hc hok] at hr9
  subst hr9
  have hP : va_P (gD G) vwCl (LW G ho (hoI fo q.1) h0 a0 a1 ra rb q.2.1 q.2.2.1 q.2.2.2.1 q.2.2.2.2 hm am mo hd fd) H := hP
  have hD : va_D A (LW G ho (hoI fo q.1) h0 a0 a1 ra rb q.2.1 q.2.2.1 q.2.2.2.1 q.2.2.2.2 hm am mo hd fd) := hD
  refine lv_istore (lv' := [(6, .int (m9.1 7)), (5, .int (Int32.ofNat n)), (4, .ref hd), (3, .ref ho), (2, .ref hm), (1, .ref h0), (0, .ref b)]) hx hb dL_law_779 hl (by decide) rfl (fun ls hl => ?_)
  refine lv_aload_n hx hb dL_law_781 rfl (lv_at hl 4 rfl) ?_
  refine sc (k := 1) (kI := 1) 6 1 (by decide) hx hb hX hbl hbA hS hl rfl rfl (by omega) hL dL_law_782 dL_law_783 dL_law_785 dL_law_786 dL_law_787 ?_
  refine sc (k := 2) (kI := 2) 6 1 (by decide) hx hb hX hbl hbA hS hl rfl rfl (by omega) hL dL_law_788 dL_law_789 dL_law_791 dL_law_792 dL_law_793 ?_
  refine jb hx hb dL_law_794 dL_law_797 dL_law_798 dL_law_801 ?_
  refine sc (k := 3) (kI := 3) 6 1 (by decide) hx hb hX hbl hbA hS hl rfl rfl (by omega) hL dL_law_802 dL_law_803 dL_law_805 dL_law_806 dL_law_807 ?_
  refine lv_i2l (v := (xs (n + 3)).toInt64) hx hb dL_law_808 rfl ?_
  refine lv_bipush (v := (32 : Int32)) hx hb dL_law_809 (by decide) ?_
  refine lv_lshl (v := jshl (xs (n + 3)).toInt64 (32 : Int32)) hx hb dL_law_811 rfl ?_
  refine sc (k := 4) (kI := 4) 6 1 (by decide) hx hb hX hbl hbA hS hl rfl rfl (by omega) hL dL_law_812 dL_law_813 dL_law_815 dL_law_816 dL_law_817 ?_
  refine lv_i2l (v := (xs (n + 4)).toInt64) hx hb dL_law_818 rfl ?_
  refine lv_ldc2 hx hb hown (hg _ kq6_230) dL_law_819 ?_
  refine lv_land hx hb dL_law_822 ?_
  refine lv_lor hx hb dL_law_823 ?_
  refine kMi (As := [.int (xs (n + 1)), .int (bI (!decide (xs (n + 2) = 0))), .long ((jshl (xs (n + 3)).toInt64 (32 : Int32)) ||| ((xs (n + 4)).toInt64 &&& (4294967295 : Int64)))]) (rest := []) hC (c_X6_hear (G := G) (N := N) e6) kq6_94 kc_X6_hear (by decide) 0 (ci := 4) rfl rfl hP hK hD hE hS hA (out := fun v : Ob => (LW G ho (hoI fo q.1) h0 a0 a1 ra rb q.2.1 q.2.2.1 q.2.2.2.1 q.2.2.2.2 hm am v hd fd)) (wr := [(ho, .inl (G.2.2.1 2, 1, .inr (.inl (hoI fo q.1))))] ++ (wAll G h0 a0 q.2.1 a1 q.2.2.1 ra rb q.2.2.2.1 q.2.2.2.2 ++ [(hd, .inl (G.2.2.1 5, 1, .inr (.inr (.inr (.inl fd)))))])) (lpm3 _ _ _ _) (fun v => (lpm3 _ _ _ _).symm) hl.1 (Nat.le_of_ble_eq_true rfl) hcs dL_law_824 (fun r9 v9 H locs hw hP hD hS => ?_)
  obtain ⟨hr9, hv9⟩ := hw
  subst hv9
  subst hr9
  have hP : va_P (gD G) vwCl (LW G ho (hoI fo q.1) h0 a0 a1 ra rb q.2.1 q.2.2.1 q.2.2.2.1 q.2.2.2.2 hm am m9 hd fd) H := hP
  have hD : va_D A (LW G ho (hoI fo q.1) h0 a0 a1 ra rb q.2.1 q.2.2.1 q.2.2.2.1 q.2.2.2.2 hm am m9 hd fd) := hD
  refine lv_istore (lv' := [(7, .int b9), (6, .int (m9.1 7)), (5, .int (Int32.ofNat n)), (4, .ref hd), (3, .ref ho), (2, .ref hm), (1, .ref h0), (0, .ref b)]) hx hb dL_law_827 hl (by decide) rfl (fun ls hl => ?_)
  refine lv_aload_n hx hb dL_law_829 rfl (lv_at hl 5 rfl) ?_
  refine kMi (As := []) (rest := []) hC (c_X6_thrown (G := G) (N := N) (q := m9.1 7) rfl) kq5_72 kc_X6_thrown (by decide) 0 (ci := 4) rfl rfl hP hK hD hE hS hA (out := fun v : Ob => (LW G ho (hoI fo q.1) h0 a0 a1 ra rb q.2.1 q.2.2.1 q.2.2.2.1 q.2.2.2.2 hm am v hd fd)) (wr := [(ho, .inl (G.2.2.1 2, 1, .inr (.inl (hoI fo q.1))))] ++ (wAll G h0 a0 q.2.1 a1 q.2.2.1 ra rb q.2.2.2.1 q.2.2.2.2 ++ [(hd, .inl (G.2.2.1 5, 1, .inr (.inr (.inr (.inl fd)))))])) (lpm3 _ _ _ _) (fun v => (lpm3 _ _ _ _).symm) hl.1 (Nat.le_of_ble_eq_true rfl) hcs dL_law_830 (fun r9 v9 H locs hw hP hD hS => ?_)
  obtain ⟨hr9, hv9⟩ := hw
  subst hv9
  subst hr9
  have hP : va_P (gD G) vwCl (LW G ho (hoI fo q.1) h0 a0 a1 ra rb q.2.1 q.2.2.1 q.2.2.2.1 q.2.2.2.2 hm am m9 hd fd) H := hP
  have hD : va_D A (LW G ho (hoI fo q.1) h0 a0 a1 ra rb q.2.1 q.2.2.1 q.2.2.2.1 q.2.2.2.2 hm am m9 hd fd) := hD
  refine lv_iload hx hb dL_law_833 (lv_at hl 1 rfl) ?_
  refine lv_icmp_eq (tgt := 840) hx hb dL_law_835 (by decide) (fun _ => ?_) (fun h => absurd rfl h)
  refine lv_iload hx hb dL_law_840 (lv_at hl 1 rfl) ?_
  refine lv_if_ne (tgt := 857) hx hb dL_law_842 (by decide) (fun h9 => ?_) (fun h9 => ?_)
  · skip
    refine lv_goto (tgt := 1884) hx hb dL_law_857 (by decide) ?_
    exact kk (hoI fo q.1) fd q.2.1 q.2.2.1 q.2.2.2.1 q.2.2.2.2 m9 H locs ls hRel9 hP hD hS (lv_sub hl [2, 3, 4, 5, 6, 7] rfl)
  · have hq := okX_r hok ((okX_hc hok).trans h9)
    refine lv_aload_n hx hb dL_law_845 rfl (lv_at hl 4 rfl) ?_
    refine lv_iconst (v := (0 : Int32)) hx hb dL_law_846 (by decide) ?_
    refine va_lald (f := (hoI fo q.1)) hx hb hK hP 0 2 rfl rfl (vin (by decide)) dL_law_847 ?_
    have hv : (hoI fo q.1) (0 : Int32).toNatClampNeg = b9.toInt64 := by rw [hq]; rfl
    rw [hv]
    refine lv_iload hx hb dL_law_848 (lv_at hl 0 rfl) ?_
    refine lv_i2l (v := b9.toInt64) hx hb dL_law_850 rfl ?_
    refine lc_eq (tgt := 857) hx hb dL_law_851 dL_law_852 (by decide) (fun _ => ?_) (fun h => absurd rfl h)
    refine lv_goto (tgt := 1884) hx hb dL_law_857 (by decide) ?_
    exact kk (hoI fo q.1) fd q.2.1 q.2.2.1 q.2.2.2.1 q.2.2.2.2 m9 H locs ls hRel9 hP hD hS (lv_sub hl [2, 3, 4, 5, 6, 7] rfl)
def S_bit (Rel : Cst → Ob → Prop) (N : Nat) : Prop := ∀ (u0 u1 : Ob) (u2 u3 : Nat → Ob) (mo : Ob), Rel (u0, u1, u2, u3) mo → ∀ (x1 : Int32), ∃ q b m9, f_X5_bit N x1 u0 u1 u2 u3 = some q ∧ f_X6_bit N x1 mo = some (b, m9) ∧ okX 2 2 q.1 b (m9.1 7) ∧ Rel q.2 m9
set_option maxRecDepth 100000 in
set_option maxHeartbeats 4000000 in
theorem w_bit {p : Program} {l : Launch} {e : Env} {s : State} {m : MethodId} {args : Array Value} {below : List Frame} {meth : Method} {c : Code} {H : Heap} {locs : List Loc} {cells slots : Nat} {Q : State → Prop} {ls : Array Slot} {A : Nat → Prop} {G : Gp} {b L n : Nat} {xs : Nat → Int32} {ho h0 hm hd : Nat} {fo : Nat → Int64} {fd : Nat → UInt64} {a0 a1 am : Nat → Nat} {ra rb : Nat → Nat → Nat} {u0 u1 mo : Ob} {u2 u3 : Nat → Ob} {Rel : Cst → Ob → Prop} {N : Nat}
    (hst : S_bit Rel N) (hRel : Rel (u0, u1, u2, u3) mo) (hC : CallFix p m c code 9 s args lw_g RL) (hlf : l.stackTraces = false) (hX : va_X b L xs s s.heap) (hbl : b < s.heap.size) (hbA : ¬ A b) (hL : L ≤ 3072) (hn : n + 6 ≤ L) (hP : va_P (gD G) vwCl (LW G ho fo h0 a0 a1 ra rb u0 u1 u2 u3 hm am mo hd fd) H) (hK : va_K (gD G) vwCl (gT G) s) (hD : va_D A (LW G ho fo h0 a0 a1 ra rb u0 u1 u2 u3 hm am mo hd fd)) (hE : Ev (gE G) A s) (hS : va_S A s.heap H locs) (hA : ∀ q : Nat, s.heap.size ≤ q → A q) (hl : lv_has ls 9 [(5, .int (Int32.ofNat n)), (4, .ref hd), (3, .ref ho), (2, .ref hm), (1, .ref h0), (0, .ref b)]) (hcs : cells + 1 ≤ 601024 ∧ slots + 6 ≤ 7293034)
    (kk : ∀ (fo' : Nat → Int64) (fd' : Nat → UInt64) (u0 u1 : Ob) (u2 u3 : Nat → Ob) (mo : Ob) (H : Heap) (locs : List Loc) (ls : Array Slot), Rel (u0, u1, u2, u3) mo → va_P (gD G) vwCl (LW G ho fo' h0 a0 a1 ra rb u0 u1 u2 u3 hm am mo hd fd') H → va_D A (LW G ho fo' h0 a0 a1 ra rb u0 u1 u2 u3 hm am mo hd fd') → va_S A s.heap H locs → lv_has ls 9 [(5, .int (Int32.ofNat n)), (4, .ref hd), (3, .ref ho), (2, .ref hm), (1, .ref h0), (0, .ref b)] → W p l e room_1 s m args below meth c H locs (cells + 1) (slots + 6) Q (F0 m 1884 ls [])) :
    W p l e room_1 s m args below meth c H locs cells slots Q (F0 m 860 ls []) := by
  obtain ⟨hx, hb, hml, hown, hg⟩ := id hC
  obtain ⟨q, b9, m9, e5, e6, hok, hRel9⟩ := hst u0 u1 u2 u3 mo hRel (xs (n + 1))
  skip
  refine lv_aload_n hx hb dL_law_860 rfl (lv_at hl 4 rfl) ?_
  refine sc (k := 1) (kI := 1) 5 0 (by decide) hx hb hX hbl hbA hS hl rfl rfl (by omega) hL dL_law_861 dL_law_862 dL_law_864 dL_law_865 dL_law_866 ?_
  refine lv_aload_n hx hb dL_law_867 rfl (lv_at hl 2 rfl) ?_
  refine kH (As := [.ref h0, .int (xs (n + 1)), .ref ho]) (rest := []) hC (c_L_bit hlf (G := G) (fo := fo) e5 (okX_hk1 hok)) kq4_13 kc_L_bit (by decide) hP hK hD hE hS hA (out := (fun v : (Nat → Int64) × Ob × Ob × (Nat → Ob) × (Nat → Ob) => (LW G ho v.1 h0 a0 a1 ra rb v.2.1 v.2.2.1 v.2.2.2.1 v.2.2.2.2 hm am mo hd fd))) (wr := wX6 G hm am mo ++ [(hd, .inl (G.2.2.1 5, 1, .inr (.inr (.inr (.inl fd)))))]) (lpm1 _ _ _ _) (fun v => (lpm1 _ _ _ _).symm) hl.1 (Nat.le_of_ble_eq_true rfl) hcs dL_law_868 (fun r9 v9 H locs hw hP hD hS => ?_)
  obtain ⟨hr9, hv9⟩ := hw
  subst hv9
  rw [okX_hc hok] at hr9
  subst hr9
  have hP : va_P (gD G) vwCl (LW G ho (hoI fo q.1) h0 a0 a1 ra rb q.2.1 q.2.2.1 q.2.2.2.1 q.2.2.2.2 hm am mo hd fd) H := hP
  have hD : va_D A (LW G ho (hoI fo q.1) h0 a0 a1 ra rb q.2.1 q.2.2.1 q.2.2.2.1 q.2.2.2.2 hm am mo hd fd) := hD
  refine lv_istore (lv' := [(6, .int (m9.1 7)), (5, .int (Int32.ofNat n)), (4, .ref hd), (3, .ref ho), (2, .ref hm), (1, .ref h0), (0, .ref b)]) hx hb dL_law_871 hl (by decide) rfl (fun ls hl => ?_)
  refine lv_aload_n hx hb dL_law_873 rfl (lv_at hl 4 rfl) ?_
  refine sc (k := 1) (kI := 1) 6 1 (by decide) hx hb hX hbl hbA hS hl rfl rfl (by omega) hL dL_law_874 dL_law_875 dL_law_877 dL_law_878 dL_law_879 ?_
  refine kMi (As := [.int (xs (n + 1))]) (rest := []) hC (c_X6_bit (G := G) (N := N) e6) kq6_98 kc_X6_bit (by decide) 0 (ci := 4) rfl rfl hP hK hD hE hS hA (out := fun v : Ob => (LW G ho (hoI fo q.1) h0 a0 a1 ra rb q.2.1 q.2.2.1 q.2.2.2.1 q.2.2.2.2 hm am v hd fd)) (wr := [(ho, .inl (G.2.2.1 2, 1, .inr (.inl (hoI fo q.1))))] ++ (wAll G h0 a0 q.2.1 a1 q.2.2.1 ra rb q.2.2.2.1 q.2.2.2.2 ++ [(hd, .inl (G.2.2.1 5, 1, .inr (.inr (.inr (.inl fd)))))])) (lpm3 _ _ _ _) (fun v => (lpm3 _ _ _ _).symm) hl.1 (Nat.le_of_ble_eq_true rfl) hcs dL_law_880 (fun r9 v9 H locs hw hP hD hS => ?_)
  obtain ⟨hr9, hv9⟩ := hw
  subst hv9
  subst hr9
  have hP : va_P (gD G) vwCl (LW G ho (hoI fo q.1) h0 a0 a1 ra rb q.2.1 q.2.2.1 q.2.2.2.1 q.2.2.2.2 hm am m9 hd fd) H := hP
  have hD : va_D A (LW G ho (hoI fo q.1) h0 a0 a1 ra rb q.2.1 q.2.2.1 q.2.2.2.1 q.2.2.2.2 hm am m9 hd fd) := hD
  refine lv_istore (lv' := [(7, .int b9), (6, .int (m9.1 7)), (5, .int (Int32.ofNat n)), (4, .ref hd), (3, .ref ho), (2, .ref hm), (1, .ref h0), (0, .ref b)]) hx hb dL_law_883 hl (by decide) rfl (fun ls hl => ?_)
  refine lv_aload_n hx hb dL_law_885 rfl (lv_at hl 5 rfl) ?_
  refine kMi (As := []) (rest := []) hC (c_X6_thrown (G := G) (N := N) (q := m9.1 7) rfl) kq5_72 kc_X6_thrown (by decide) 0 (ci := 4) rfl rfl hP hK hD hE hS hA (out := fun v : Ob => (LW G ho (hoI fo q.1) h0 a0 a1 ra rb q.2.1 q.2.2.1 q.2.2.2.1 q.2.2.2.2 hm am v hd fd)) (wr := [(ho, .inl (G.2.2.1 2, 1, .inr (.inl (hoI fo q.1))))] ++ (wAll G h0 a0 q.2.1 a1 q.2.2.1 ra rb q.2.2.2.1 q.2.2.2.2 ++ [(hd, .inl (G.2.2.1 5, 1, .inr (.inr (.inr (.inl fd)))))])) (lpm3 _ _ _ _) (fun v => (lpm3 _ _ _ _).symm) hl.1 (Nat.le_of_ble_eq_true rfl) hcs dL_law_886 (fun r9 v9 H locs hw hP hD hS => ?_)
  obtain ⟨hr9, hv9⟩ := hw
  subst hv9
  subst hr9
  have hP : va_P (gD G) vwCl (LW G ho (hoI fo q.1) h0 a0 a1 ra rb q.2.1 q.2.2.1 q.2.2.2.1 q.2.2.2.2 hm am m9 hd fd) H := hP
  have hD : va_D A (LW G ho (hoI fo q.1) h0 a0 a1 ra rb q.2.1 q.2.2.1 q.2.2.2.1 q.2.2.2.2 hm am m9 hd fd) := hD
  refine lv_iload hx hb dL_law_889 (lv_at hl 1 rfl) ?_
  refine lv_icmp_eq (tgt := 896) hx hb dL_law_891 (by decide) (fun _ => ?_) (fun h => absurd rfl h)
  refine lv_iload hx hb dL_law_896 (lv_at hl 1 rfl) ?_
  refine lv_if_ne (tgt := 913) hx hb dL_law_898 (by decide) (fun h9 => ?_) (fun h9 => ?_)
  · skip
    refine lv_goto (tgt := 1884) hx hb dL_law_913 (by decide) ?_
    exact kk (hoI fo q.1) fd q.2.1 q.2.2.1 q.2.2.2.1 q.2.2.2.2 m9 H locs ls hRel9 hP hD hS (lv_sub hl [2, 3, 4, 5, 6, 7] rfl)
  · have hq := okX_r hok ((okX_hc hok).trans h9)
    refine lv_aload_n hx hb dL_law_901 rfl (lv_at hl 4 rfl) ?_
    refine lv_iconst (v := (0 : Int32)) hx hb dL_law_902 (by decide) ?_
    refine va_lald (f := (hoI fo q.1)) hx hb hK hP 0 2 rfl rfl (vin (by decide)) dL_law_903 ?_
    have hv : (hoI fo q.1) (0 : Int32).toNatClampNeg = b9.toInt64 := by rw [hq]; rfl
    rw [hv]
    refine lv_iload hx hb dL_law_904 (lv_at hl 0 rfl) ?_
    refine lv_i2l (v := b9.toInt64) hx hb dL_law_906 rfl ?_
    refine lc_eq (tgt := 913) hx hb dL_law_907 dL_law_908 (by decide) (fun _ => ?_) (fun h => absurd rfl h)
    refine lv_goto (tgt := 1884) hx hb dL_law_913 (by decide) ?_
    exact kk (hoI fo q.1) fd q.2.1 q.2.2.1 q.2.2.2.1 q.2.2.2.2 m9 H locs ls hRel9 hP hD hS (lv_sub hl [2, 3, 4, 5, 6, 7] rfl)
def S_frame (Rel : Cst → Ob → Prop) (N : Nat) : Prop := ∀ (u0 u1 : Ob) (u2 u3 : Nat → Ob) (mo : Ob), Rel (u0, u1, u2, u3) mo → ∀ (x1 : Int32) (x2 : Int32), ∃ q b m9, f_X5_frame N x1 x2 u0 u1 u2 u3 = some q ∧ f_X6_frame N x1 x2 mo = some (b, m9) ∧ okX 2 1 q.1 b (m9.1 7) ∧ Rel q.2 m9
set_option maxRecDepth 100000 in
set_option maxHeartbeats 4000000 in
theorem w_frame {p : Program} {l : Launch} {e : Env} {s : State} {m : MethodId} {args : Array Value} {below : List Frame} {meth : Method} {c : Code} {H : Heap} {locs : List Loc} {cells slots : Nat} {Q : State → Prop} {ls : Array Slot} {A : Nat → Prop} {G : Gp} {b L n : Nat} {xs : Nat → Int32} {ho h0 hm hd : Nat} {fo : Nat → Int64} {fd : Nat → UInt64} {a0 a1 am : Nat → Nat} {ra rb : Nat → Nat → Nat} {u0 u1 mo : Ob} {u2 u3 : Nat → Ob} {Rel : Cst → Ob → Prop} {N : Nat}
    (hst : S_frame Rel N) (hRel : Rel (u0, u1, u2, u3) mo) (hC : CallFix p m c code 9 s args lw_g RL) (hlf : l.stackTraces = false) (hX : va_X b L xs s s.heap) (hbl : b < s.heap.size) (hbA : ¬ A b) (hL : L ≤ 3072) (hn : n + 6 ≤ L) (hP : va_P (gD G) vwCl (LW G ho fo h0 a0 a1 ra rb u0 u1 u2 u3 hm am mo hd fd) H) (hK : va_K (gD G) vwCl (gT G) s) (hD : va_D A (LW G ho fo h0 a0 a1 ra rb u0 u1 u2 u3 hm am mo hd fd)) (hE : Ev (gE G) A s) (hS : va_S A s.heap H locs) (hA : ∀ q : Nat, s.heap.size ≤ q → A q) (hl : lv_has ls 9 [(5, .int (Int32.ofNat n)), (4, .ref hd), (3, .ref ho), (2, .ref hm), (1, .ref h0), (0, .ref b)]) (hcs : cells + 1 ≤ 601024 ∧ slots + 6 ≤ 7293034)
    (kk : ∀ (fo' : Nat → Int64) (fd' : Nat → UInt64) (u0 u1 : Ob) (u2 u3 : Nat → Ob) (mo : Ob) (H : Heap) (locs : List Loc) (ls : Array Slot), Rel (u0, u1, u2, u3) mo → va_P (gD G) vwCl (LW G ho fo' h0 a0 a1 ra rb u0 u1 u2 u3 hm am mo hd fd') H → va_D A (LW G ho fo' h0 a0 a1 ra rb u0 u1 u2 u3 hm am mo hd fd') → va_S A s.heap H locs → lv_has ls 9 [(5, .int (Int32.ofNat n)), (4, .ref hd), (3, .ref ho), (2, .ref hm), (1, .ref h0), (0, .ref b)] → W p l e room_1 s m args below meth c H locs (cells + 1) (slots + 6) Q (F0 m 1884 ls [])) :
    W p l e room_1 s m args below meth c H locs cells slots Q (F0 m 916 ls []) := by
  obtain ⟨hx, hb, hml, hown, hg⟩ := id hC
  obtain ⟨q, b9, m9, e5, e6, hok, hRel9⟩ := hst u0 u1 u2 u3 mo hRel (xs (n + 1)) (xs (n + 2))
  skip
  refine lv_aload_n hx hb dL_law_916 rfl (lv_at hl 4 rfl) ?_
  refine sc (k := 1) (kI := 1) 5 0 (by decide) hx hb hX hbl hbA hS hl rfl rfl (by omega) hL dL_law_917 dL_law_918 dL_law_920 dL_law_921 dL_law_922 ?_
  refine sc (k := 2) (kI := 2) 5 0 (by decide) hx hb hX hbl hbA hS hl rfl rfl (by omega) hL dL_law_923 dL_law_924 dL_law_926 dL_law_927 dL_law_928 ?_
  refine lv_aload_n hx hb dL_law_929 rfl (lv_at hl 2 rfl) ?_
  refine kH (As := [.ref h0, .int (xs (n + 1)), .int (xs (n + 2)), .ref ho]) (rest := []) hC (c_L_frame hlf (G := G) (fo := fo) e5 (okX_hk hok)) kq4_40 kc_L_frame (by decide) hP hK hD hE hS hA (out := (fun v : (Nat → Int64) × Ob × Ob × (Nat → Ob) × (Nat → Ob) => (LW G ho v.1 h0 a0 a1 ra rb v.2.1 v.2.2.1 v.2.2.2.1 v.2.2.2.2 hm am mo hd fd))) (wr := wX6 G hm am mo ++ [(hd, .inl (G.2.2.1 5, 1, .inr (.inr (.inr (.inl fd)))))]) (lpm1 _ _ _ _) (fun v => (lpm1 _ _ _ _).symm) hl.1 (Nat.le_of_ble_eq_true rfl) hcs dL_law_930 (fun r9 v9 H locs hw hP hD hS => ?_)
  obtain ⟨hr9, hv9⟩ := hw
  subst hv9
  rw [okX_hc hok] at hr9
  subst hr9
  have hP : va_P (gD G) vwCl (LW G ho (hoI fo q.1) h0 a0 a1 ra rb q.2.1 q.2.2.1 q.2.2.2.1 q.2.2.2.2 hm am mo hd fd) H := hP
  have hD : va_D A (LW G ho (hoI fo q.1) h0 a0 a1 ra rb q.2.1 q.2.2.1 q.2.2.2.1 q.2.2.2.2 hm am mo hd fd) := hD
  refine lv_istore (lv' := [(6, .int (m9.1 7)), (5, .int (Int32.ofNat n)), (4, .ref hd), (3, .ref ho), (2, .ref hm), (1, .ref h0), (0, .ref b)]) hx hb dL_law_933 hl (by decide) rfl (fun ls hl => ?_)
  refine lv_aload_n hx hb dL_law_935 rfl (lv_at hl 4 rfl) ?_
  refine sc (k := 1) (kI := 1) 6 1 (by decide) hx hb hX hbl hbA hS hl rfl rfl (by omega) hL dL_law_936 dL_law_937 dL_law_939 dL_law_940 dL_law_941 ?_
  refine sc (k := 2) (kI := 2) 6 1 (by decide) hx hb hX hbl hbA hS hl rfl rfl (by omega) hL dL_law_942 dL_law_943 dL_law_945 dL_law_946 dL_law_947 ?_
  refine kMi (As := [.int (xs (n + 1)), .int (xs (n + 2))]) (rest := []) hC (c_X6_frame (G := G) (N := N) e6) kq6_110 kc_X6_frame (by decide) 0 (ci := 4) rfl rfl hP hK hD hE hS hA (out := fun v : Ob => (LW G ho (hoI fo q.1) h0 a0 a1 ra rb q.2.1 q.2.2.1 q.2.2.2.1 q.2.2.2.2 hm am v hd fd)) (wr := [(ho, .inl (G.2.2.1 2, 1, .inr (.inl (hoI fo q.1))))] ++ (wAll G h0 a0 q.2.1 a1 q.2.2.1 ra rb q.2.2.2.1 q.2.2.2.2 ++ [(hd, .inl (G.2.2.1 5, 1, .inr (.inr (.inr (.inl fd)))))])) (lpm3 _ _ _ _) (fun v => (lpm3 _ _ _ _).symm) hl.1 (Nat.le_of_ble_eq_true rfl) hcs dL_law_948 (fun r9 v9 H locs hw hP hD hS => ?_)
  obtain ⟨hr9, hv9⟩ := hw
  subst hv9
  subst hr9
  have hP : va_P (gD G) vwCl (LW G ho (hoI fo q.1) h0 a0 a1 ra rb q.2.1 q.2.2.1 q.2.2.2.1 q.2.2.2.2 hm am m9 hd fd) H := hP
  have hD : va_D A (LW G ho (hoI fo q.1) h0 a0 a1 ra rb q.2.1 q.2.2.1 q.2.2.2.1 q.2.2.2.2 hm am m9 hd fd) := hD
  refine lv_istore (lv' := [(7, .int b9), (6, .int (m9.1 7)), (5, .int (Int32.ofNat n)), (4, .ref hd), (3, .ref ho), (2, .ref hm), (1, .ref h0), (0, .ref b)]) hx hb dL_law_951 hl (by decide) rfl (fun ls hl => ?_)
  refine lv_aload_n hx hb dL_law_953 rfl (lv_at hl 5 rfl) ?_
  refine kMi (As := []) (rest := []) hC (c_X6_thrown (G := G) (N := N) (q := m9.1 7) rfl) kq5_72 kc_X6_thrown (by decide) 0 (ci := 4) rfl rfl hP hK hD hE hS hA (out := fun v : Ob => (LW G ho (hoI fo q.1) h0 a0 a1 ra rb q.2.1 q.2.2.1 q.2.2.2.1 q.2.2.2.2 hm am v hd fd)) (wr := [(ho, .inl (G.2.2.1 2, 1, .inr (.inl (hoI fo q.1))))] ++ (wAll G h0 a0 q.2.1 a1 q.2.2.1 ra rb q.2.2.2.1 q.2.2.2.2 ++ [(hd, .inl (G.2.2.1 5, 1, .inr (.inr (.inr (.inl fd)))))])) (lpm3 _ _ _ _) (fun v => (lpm3 _ _ _ _).symm) hl.1 (Nat.le_of_ble_eq_true rfl) hcs dL_law_954 (fun r9 v9 H locs hw hP hD hS => ?_)
  obtain ⟨hr9, hv9⟩ := hw
  subst hv9
  subst hr9
  have hP : va_P (gD G) vwCl (LW G ho (hoI fo q.1) h0 a0 a1 ra rb q.2.1 q.2.2.1 q.2.2.2.1 q.2.2.2.2 hm am m9 hd fd) H := hP
  have hD : va_D A (LW G ho (hoI fo q.1) h0 a0 a1 ra rb q.2.1 q.2.2.1 q.2.2.2.1 q.2.2.2.2 hm am m9 hd fd) := hD
  refine lv_iload hx hb dL_law_957 (lv_at hl 1 rfl) ?_
  refine lv_icmp_eq (tgt := 964) hx hb dL_law_959 (by decide) (fun _ => ?_) (fun h => absurd rfl h)
  refine lv_iload hx hb dL_law_964 (lv_at hl 1 rfl) ?_
  refine lv_if_ne (tgt := 981) hx hb dL_law_966 (by decide) (fun h9 => ?_) (fun h9 => ?_)
  · skip
    refine lv_goto (tgt := 1884) hx hb dL_law_981 (by decide) ?_
    exact kk (hoI fo q.1) fd q.2.1 q.2.2.1 q.2.2.2.1 q.2.2.2.2 m9 H locs ls hRel9 hP hD hS (lv_sub hl [2, 3, 4, 5, 6, 7] rfl)
  · have hq := okX_r hok ((okX_hc hok).trans h9)
    refine lv_aload_n hx hb dL_law_969 rfl (lv_at hl 4 rfl) ?_
    refine lv_iconst (v := (0 : Int32)) hx hb dL_law_970 (by decide) ?_
    refine va_lald (f := (hoI fo q.1)) hx hb hK hP 0 2 rfl rfl (vin (by decide)) dL_law_971 ?_
    have hv : (hoI fo q.1) (0 : Int32).toNatClampNeg = b9.toInt64 := by rw [hq]; rfl
    rw [hv]
    refine lv_iload hx hb dL_law_972 (lv_at hl 0 rfl) ?_
    refine lv_i2l (v := b9.toInt64) hx hb dL_law_974 rfl ?_
    refine lc_eq (tgt := 981) hx hb dL_law_975 dL_law_976 (by decide) (fun _ => ?_) (fun h => absurd rfl h)
    refine lv_goto (tgt := 1884) hx hb dL_law_981 (by decide) ?_
    exact kk (hoI fo q.1) fd q.2.1 q.2.2.1 q.2.2.2.1 q.2.2.2.2 m9 H locs ls hRel9 hP hD hS (lv_sub hl [2, 3, 4, 5, 6, 7] rfl)
def S_frameBit (Rel : Cst → Ob → Prop) (N : Nat) : Prop := ∀ (u0 u1 : Ob) (u2 u3 : Nat → Ob) (mo : Ob), Rel (u0, u1, u2, u3) mo → ∀ (x1 : Int32) (x2 : Int32), ∃ q b m9, f_X5_frameBit N x1 x2 u0 u1 u2 u3 = some q ∧ f_X6_frameBit N x1 x2 mo = some (b, m9) ∧ okX 2 2 q.1 b (m9.1 7) ∧ Rel q.2 m9
set_option maxRecDepth 100000 in
set_option maxHeartbeats 4000000 in
theorem w_frameBit {p : Program} {l : Launch} {e : Env} {s : State} {m : MethodId} {args : Array Value} {below : List Frame} {meth : Method} {c : Code} {H : Heap} {locs : List Loc} {cells slots : Nat} {Q : State → Prop} {ls : Array Slot} {A : Nat → Prop} {G : Gp} {b L n : Nat} {xs : Nat → Int32} {ho h0 hm hd : Nat} {fo : Nat → Int64} {fd : Nat → UInt64} {a0 a1 am : Nat → Nat} {ra rb : Nat → Nat → Nat} {u0 u1 mo : Ob} {u2 u3 : Nat → Ob} {Rel : Cst → Ob → Prop} {N : Nat}
    (hst : S_frameBit Rel N) (hRel : Rel (u0, u1, u2, u3) mo) (hC : CallFix p m c code 9 s args lw_g RL) (hlf : l.stackTraces = false) (hX : va_X b L xs s s.heap) (hbl : b < s.heap.size) (hbA : ¬ A b) (hL : L ≤ 3072) (hn : n + 6 ≤ L) (hP : va_P (gD G) vwCl (LW G ho fo h0 a0 a1 ra rb u0 u1 u2 u3 hm am mo hd fd) H) (hK : va_K (gD G) vwCl (gT G) s) (hD : va_D A (LW G ho fo h0 a0 a1 ra rb u0 u1 u2 u3 hm am mo hd fd)) (hE : Ev (gE G) A s) (hS : va_S A s.heap H locs) (hA : ∀ q : Nat, s.heap.size ≤ q → A q) (hl : lv_has ls 9 [(5, .int (Int32.ofNat n)), (4, .ref hd), (3, .ref ho), (2, .ref hm), (1, .ref h0), (0, .ref b)]) (hcs : cells + 1 ≤ 601024 ∧ slots + 6 ≤ 7293034)
    (kk : ∀ (fo' : Nat → Int64) (fd' : Nat → UInt64) (u0 u1 : Ob) (u2 u3 : Nat → Ob) (mo : Ob) (H : Heap) (locs : List Loc) (ls : Array Slot), Rel (u0, u1, u2, u3) mo → va_P (gD G) vwCl (LW G ho fo' h0 a0 a1 ra rb u0 u1 u2 u3 hm am mo hd fd') H → va_D A (LW G ho fo' h0 a0 a1 ra rb u0 u1 u2 u3 hm am mo hd fd') → va_S A s.heap H locs → lv_has ls 9 [(5, .int (Int32.ofNat n)), (4, .ref hd), (3, .ref ho), (2, .ref hm), (1, .ref h0), (0, .ref b)] → W p l e room_1 s m args below meth c H locs (cells + 1) (slots + 6) Q (F0 m 1884 ls [])) :
    W p l e room_1 s m args below meth c H locs cells slots Q (F0 m 984 ls []) := by
  obtain ⟨hx, hb, hml, hown, hg⟩ := id hC
  obtain ⟨q, b9, m9, e5, e6, hok, hRel9⟩ := hst u0 u1 u2 u3 mo hRel (xs (n + 1)) (xs (n + 2))
  skip
  refine lv_aload_n hx hb dL_law_984 rfl (lv_at hl 4 rfl) ?_
  refine sc (k := 1) (kI := 1) 5 0 (by decide) hx hb hX hbl hbA hS hl rfl rfl (by omega) hL dL_law_985 dL_law_986 dL_law_988 dL_law_989 dL_law_990 ?_
  refine sc (k := 2) (kI := 2) 5 0 (by decide) hx hb hX hbl hbA hS hl rfl rfl (by omega) hL dL_law_991 dL_law_992 dL_law_994 dL_law_995 dL_law_996 ?_
  refine lv_aload_n hx hb dL_law_997 rfl (lv_at hl 2 rfl) ?_
  refine kH (As := [.ref h0, .int (xs (n + 1)), .int (xs (n + 2)), .ref ho]) (rest := []) hC (c_L_frameBit hlf (G := G) (fo := fo) e5 (okX_hk1 hok)) kq4_57 kc_L_frameBit (by decide) hP hK hD hE hS hA (out := (fun v : (Nat → Int64) × Ob × Ob × (Nat → Ob) × (Nat → Ob) => (LW G ho v.1 h0 a0 a1 ra rb v.2.1 v.2.2.1 v.2.2.2.1 v.2.2.2.2 hm am mo hd fd))) (wr := wX6 G hm am mo ++ [(hd, .inl (G.2.2.1 5, 1, .inr (.inr (.inr (.inl fd)))))]) (lpm1 _ _ _ _) (fun v => (lpm1 _ _ _ _).symm) hl.1 (Nat.le_of_ble_eq_true rfl) hcs dL_law_998 (fun r9 v9 H locs hw hP hD hS => ?_)
  obtain ⟨hr9, hv9⟩ := hw
  subst hv9
  rw [okX_hc hok] at hr9
  subst hr9
  have hP : va_P (gD G) vwCl (LW G ho (hoI fo q.1) h0 a0 a1 ra rb q.2.1 q.2.2.1 q.2.2.2.1 q.2.2.2.2 hm am mo hd fd) H := hP
  have hD : va_D A (LW G ho (hoI fo q.1) h0 a0 a1 ra rb q.2.1 q.2.2.1 q.2.2.2.1 q.2.2.2.2 hm am mo hd fd) := hD
  refine lv_istore (lv' := [(6, .int (m9.1 7)), (5, .int (Int32.ofNat n)), (4, .ref hd), (3, .ref ho), (2, .ref hm), (1, .ref h0), (0, .ref b)]) hx hb dL_law_1001 hl (by decide) rfl (fun ls hl => ?_)
  refine lv_aload_n hx hb dL_law_1003 rfl (lv_at hl 4 rfl) ?_
  refine sc (k := 1) (kI := 1) 6 1 (by decide) hx hb hX hbl hbA hS hl rfl rfl (by omega) hL dL_law_1004 dL_law_1005 dL_law_1007 dL_law_1008 dL_law_1009 ?_
  refine sc (k := 2) (kI := 2) 6 1 (by decide) hx hb hX hbl hbA hS hl rfl rfl (by omega) hL dL_law_1010 dL_law_1011 dL_law_1013 dL_law_1014 dL_law_1015 ?_
  refine kMi (As := [.int (xs (n + 1)), .int (xs (n + 2))]) (rest := []) hC (c_X6_frameBit (G := G) (N := N) e6) kq6_118 kc_X6_frameBit (by decide) 0 (ci := 4) rfl rfl hP hK hD hE hS hA (out := fun v : Ob => (LW G ho (hoI fo q.1) h0 a0 a1 ra rb q.2.1 q.2.2.1 q.2.2.2.1 q.2.2.2.2 hm am v hd fd)) (wr := [(ho, .inl (G.2.2.1 2, 1, .inr (.inl (hoI fo q.1))))] ++ (wAll G h0 a0 q.2.1 a1 q.2.2.1 ra rb q.2.2.2.1 q.2.2.2.2 ++ [(hd, .inl (G.2.2.1 5, 1, .inr (.inr (.inr (.inl fd)))))])) (lpm3 _ _ _ _) (fun v => (lpm3 _ _ _ _).symm) hl.1 (Nat.le_of_ble_eq_true rfl) hcs dL_law_1016 (fun r9 v9 H locs hw hP hD hS => ?_)
  obtain ⟨hr9, hv9⟩ := hw
  subst hv9
  subst hr9
  have hP : va_P (gD G) vwCl (LW G ho (hoI fo q.1) h0 a0 a1 ra rb q.2.1 q.2.2.1 q.2.2.2.1 q.2.2.2.2 hm am m9 hd fd) H := hP
  have hD : va_D A (LW G ho (hoI fo q.1) h0 a0 a1 ra rb q.2.1 q.2.2.1 q.2.2.2.1 q.2.2.2.2 hm am m9 hd fd) := hD
  refine lv_istore (lv' := [(7, .int b9), (6, .int (m9.1 7)), (5, .int (Int32.ofNat n)), (4, .ref hd), (3, .ref ho), (2, .ref hm), (1, .ref h0), (0, .ref b)]) hx hb dL_law_1019 hl (by decide) rfl (fun ls hl => ?_)
  refine lv_aload_n hx hb dL_law_1021 rfl (lv_at hl 5 rfl) ?_
  refine kMi (As := []) (rest := []) hC (c_X6_thrown (G := G) (N := N) (q := m9.1 7) rfl) kq5_72 kc_X6_thrown (by decide) 0 (ci := 4) rfl rfl hP hK hD hE hS hA (out := fun v : Ob => (LW G ho (hoI fo q.1) h0 a0 a1 ra rb q.2.1 q.2.2.1 q.2.2.2.1 q.2.2.2.2 hm am v hd fd)) (wr := [(ho, .inl (G.2.2.1 2, 1, .inr (.inl (hoI fo q.1))))] ++ (wAll G h0 a0 q.2.1 a1 q.2.2.1 ra rb q.2.2.2.1 q.2.2.2.2 ++ [(hd, .inl (G.2.2.1 5, 1, .inr (.inr (.inr (.inl fd)))))])) (lpm3 _ _ _ _) (fun v => (lpm3 _ _ _ _).symm) hl.1 (Nat.le_of_ble_eq_true rfl) hcs dL_law_1022 (fun r9 v9 H locs hw hP hD hS => ?_)
  obtain ⟨hr9, hv9⟩ := hw
  subst hv9
  subst hr9
  have hP : va_P (gD G) vwCl (LW G ho (hoI fo q.1) h0 a0 a1 ra rb q.2.1 q.2.2.1 q.2.2.2.1 q.2.2.2.2 hm am m9 hd fd) H := hP
  have hD : va_D A (LW G ho (hoI fo q.1) h0 a0 a1 ra rb q.2.1 q.2.2.1 q.2.2.2.1 q.2.2.2.2 hm am m9 hd fd) := hD
  refine lv_iload hx hb dL_law_1025 (lv_at hl 1 rfl) ?_
  refine lv_icmp_eq (tgt := 1032) hx hb dL_law_1027 (by decide) (fun _ => ?_) (fun h => absurd rfl h)
  refine lv_iload hx hb dL_law_1032 (lv_at hl 1 rfl) ?_
  refine lv_if_ne (tgt := 1049) hx hb dL_law_1034 (by decide) (fun h9 => ?_) (fun h9 => ?_)
  · skip
    refine lv_goto (tgt := 1884) hx hb dL_law_1049 (by decide) ?_
    exact kk (hoI fo q.1) fd q.2.1 q.2.2.1 q.2.2.2.1 q.2.2.2.2 m9 H locs ls hRel9 hP hD hS (lv_sub hl [2, 3, 4, 5, 6, 7] rfl)
  · have hq := okX_r hok ((okX_hc hok).trans h9)
    refine lv_aload_n hx hb dL_law_1037 rfl (lv_at hl 4 rfl) ?_
    refine lv_iconst (v := (0 : Int32)) hx hb dL_law_1038 (by decide) ?_
    refine va_lald (f := (hoI fo q.1)) hx hb hK hP 0 2 rfl rfl (vin (by decide)) dL_law_1039 ?_
    have hv : (hoI fo q.1) (0 : Int32).toNatClampNeg = b9.toInt64 := by rw [hq]; rfl
    rw [hv]
    refine lv_iload hx hb dL_law_1040 (lv_at hl 0 rfl) ?_
    refine lv_i2l (v := b9.toInt64) hx hb dL_law_1042 rfl ?_
    refine lc_eq (tgt := 1049) hx hb dL_law_1043 dL_law_1044 (by decide) (fun _ => ?_) (fun h => absurd rfl h)
    refine lv_goto (tgt := 1884) hx hb dL_law_1049 (by decide) ?_
    exact kk (hoI fo q.1) fd q.2.1 q.2.2.1 q.2.2.2.1 q.2.2.2.2 m9 H locs ls hRel9 hP hD hS (lv_sub hl [2, 3, 4, 5, 6, 7] rfl)
def S_votes (Rel : Cst → Ob → Prop) (N : Nat) : Prop := ∀ (u0 u1 : Ob) (u2 u3 : Nat → Ob) (mo : Ob), Rel (u0, u1, u2, u3) mo → ∀ (x1 : Int32), ∃ q b m9, f_X5_votes N x1 u0 u1 u2 u3 = some q ∧ f_X6_votes N x1 mo = some (b, m9) ∧ q.1 = b ∧ Rel q.2 m9
set_option maxRecDepth 100000 in
set_option maxHeartbeats 4000000 in
theorem w_votes {p : Program} {l : Launch} {e : Env} {s : State} {m : MethodId} {args : Array Value} {below : List Frame} {meth : Method} {c : Code} {H : Heap} {locs : List Loc} {cells slots : Nat} {Q : State → Prop} {ls : Array Slot} {A : Nat → Prop} {G : Gp} {b L n : Nat} {xs : Nat → Int32} {ho h0 hm hd : Nat} {fo : Nat → Int64} {fd : Nat → UInt64} {a0 a1 am : Nat → Nat} {ra rb : Nat → Nat → Nat} {u0 u1 mo : Ob} {u2 u3 : Nat → Ob} {Rel : Cst → Ob → Prop} {N : Nat}
    (hst : S_votes Rel N) (hRel : Rel (u0, u1, u2, u3) mo) (hC : CallFix p m c code 9 s args lw_g RL) (hlf : l.stackTraces = false) (hX : va_X b L xs s s.heap) (hbl : b < s.heap.size) (hbA : ¬ A b) (hL : L ≤ 3072) (hn : n + 6 ≤ L) (hP : va_P (gD G) vwCl (LW G ho fo h0 a0 a1 ra rb u0 u1 u2 u3 hm am mo hd fd) H) (hK : va_K (gD G) vwCl (gT G) s) (hD : va_D A (LW G ho fo h0 a0 a1 ra rb u0 u1 u2 u3 hm am mo hd fd)) (hE : Ev (gE G) A s) (hS : va_S A s.heap H locs) (hA : ∀ q : Nat, s.heap.size ≤ q → A q) (hl : lv_has ls 9 [(5, .int (Int32.ofNat n)), (4, .ref hd), (3, .ref ho), (2, .ref hm), (1, .ref h0), (0, .ref b)]) (hcs : cells + 1 ≤ 601024 ∧ slots + 6 ≤ 7293034)
    (kk : ∀ (fo' : Nat → Int64) (fd' : Nat → UInt64) (u0 u1 : Ob) (u2 u3 : Nat → Ob) (mo : Ob) (H : Heap) (locs : List Loc) (ls : Array Slot), Rel (u0, u1, u2, u3) mo → va_P (gD G) vwCl (LW G ho fo' h0 a0 a1 ra rb u0 u1 u2 u3 hm am mo hd fd') H → va_D A (LW G ho fo' h0 a0 a1 ra rb u0 u1 u2 u3 hm am mo hd fd') → va_S A s.heap H locs → lv_has ls 9 [(5, .int (Int32.ofNat n)), (4, .ref hd), (3, .ref ho), (2, .ref hm), (1, .ref h0), (0, .ref b)] → W p l e room_1 s m args below meth c H locs (cells + 1) (slots + 6) Q (F0 m 1884 ls [])) :
    W p l e room_1 s m args below meth c H locs cells slots Q (F0 m 1052 ls []) := by
  obtain ⟨hx, hb, hml, hown, hg⟩ := id hC
  obtain ⟨q, b9, m9, e5, e6, hok, hRel9⟩ := hst u0 u1 u2 u3 mo hRel (xs (n + 1))
  skip
  refine lv_aload_n hx hb dL_law_1052 rfl (lv_at hl 4 rfl) ?_
  refine sc (k := 1) (kI := 1) 5 0 (by decide) hx hb hX hbl hbA hS hl rfl rfl (by omega) hL dL_law_1053 dL_law_1054 dL_law_1056 dL_law_1057 dL_law_1058 ?_
  refine W.widen (k := cells + 1) (n := slots + 6) (by omega) (by omega) ?_
  refine kMi (As := [.int (xs (n + 1))]) (rest := []) hC (c_X5_votes (G := G) e5) kq1_217 kc_X5_votes (by decide) 0 (ci := 3) rfl rfl hP hK hD hE hS hA (out := (fun v : Ob × Ob × (Nat → Ob) × (Nat → Ob) => (LW G ho fo h0 a0 a1 ra rb v.1 v.2.1 v.2.2.1 v.2.2.2 hm am mo hd fd))) (wr := [(ho, .inl (G.2.2.1 2, 1, .inr (.inl fo)))] ++ (wX6 G hm am mo ++ [(hd, .inl (G.2.2.1 5, 1, .inr (.inr (.inr (.inl fd)))))])) (lpm0 _ _ _) (fun v => (lpm0 _ _ _).symm) hl.1 (Nat.le_of_ble_eq_true rfl) hcs dL_law_1059 (fun r9 v9 H locs hw hP hD hS => ?_)
  obtain ⟨hr9, hv9⟩ := hw
  subst hv9
  rw [hok] at hr9
  subst hr9
  have hP : va_P (gD G) vwCl (LW G ho fo h0 a0 a1 ra rb q.2.1 q.2.2.1 q.2.2.2.1 q.2.2.2.2 hm am mo hd fd) H := hP
  have hD : va_D A (LW G ho fo h0 a0 a1 ra rb q.2.1 q.2.2.1 q.2.2.2.1 q.2.2.2.2 hm am mo hd fd) := hD
  refine lv_aload_n hx hb dL_law_1062 rfl (lv_at hl 3 rfl) ?_
  refine sc (k := 1) (kI := 1) 5 0 (by decide) hx hb hX hbl hbA hS hl rfl rfl (by omega) hL dL_law_1063 dL_law_1064 dL_law_1066 dL_law_1067 dL_law_1068 ?_
  refine kMi (As := [.int (xs (n + 1))]) (rest := [.int b9]) hC (c_X6_votes (G := G) (N := N) e6) kq6_122 kc_X6_votes (by decide) 0 (ci := 4) rfl rfl hP hK hD hE hS hA (out := fun v : Ob => (LW G ho fo h0 a0 a1 ra rb q.2.1 q.2.2.1 q.2.2.2.1 q.2.2.2.2 hm am v hd fd)) (wr := [(ho, .inl (G.2.2.1 2, 1, .inr (.inl fo)))] ++ (wAll G h0 a0 q.2.1 a1 q.2.2.1 ra rb q.2.2.2.1 q.2.2.2.2 ++ [(hd, .inl (G.2.2.1 5, 1, .inr (.inr (.inr (.inl fd)))))])) (lpm3 _ _ _ _) (fun v => (lpm3 _ _ _ _).symm) hl.1 (Nat.le_of_ble_eq_true rfl) hcs dL_law_1069 (fun r9 v9 H locs hw hP hD hS => ?_)
  obtain ⟨hr9, hv9⟩ := hw
  subst hv9
  subst hr9
  have hP : va_P (gD G) vwCl (LW G ho fo h0 a0 a1 ra rb q.2.1 q.2.2.1 q.2.2.2.1 q.2.2.2.2 hm am m9 hd fd) H := hP
  have hD : va_D A (LW G ho fo h0 a0 a1 ra rb q.2.1 q.2.2.1 q.2.2.2.1 q.2.2.2.2 hm am m9 hd fd) := hD
  refine lv_icmp_eq (tgt := 1884) hx hb dL_law_1072 (by decide) (fun _ => ?_) (fun h => absurd rfl h)
  exact kk fo fd q.2.1 q.2.2.1 q.2.2.2.1 q.2.2.2.2 m9 H locs ls hRel9 hP hD hS (lv_sub hl [0, 1, 2, 3, 4, 5] rfl)
def S_favourite (Rel : Cst → Ob → Prop) (N : Nat) : Prop := ∀ (u0 u1 : Ob) (u2 u3 : Nat → Ob) (mo : Ob), Rel (u0, u1, u2, u3) mo → ∃ q b m9, f_X5_favourite N u0 u1 u2 u3 = some q ∧ f_X6_favourite N mo = some (b, m9) ∧ okX 3 3 q.1 b (m9.1 7) ∧ Rel q.2 m9
set_option maxRecDepth 100000 in
set_option maxHeartbeats 4000000 in
theorem w_favourite {p : Program} {l : Launch} {e : Env} {s : State} {m : MethodId} {args : Array Value} {below : List Frame} {meth : Method} {c : Code} {H : Heap} {locs : List Loc} {cells slots : Nat} {Q : State → Prop} {ls : Array Slot} {A : Nat → Prop} {G : Gp} {b L n : Nat} {xs : Nat → Int32} {ho h0 hm hd : Nat} {fo : Nat → Int64} {fd : Nat → UInt64} {a0 a1 am : Nat → Nat} {ra rb : Nat → Nat → Nat} {u0 u1 mo : Ob} {u2 u3 : Nat → Ob} {Rel : Cst → Ob → Prop} {N : Nat}
    (hst : S_favourite Rel N) (hRel : Rel (u0, u1, u2, u3) mo) (hC : CallFix p m c code 9 s args lw_g RL) (hlf : l.stackTraces = false) (hX : va_X b L xs s s.heap) (hbl : b < s.heap.size) (hbA : ¬ A b) (hL : L ≤ 3072) (hn : n + 6 ≤ L) (hP : va_P (gD G) vwCl (LW G ho fo h0 a0 a1 ra rb u0 u1 u2 u3 hm am mo hd fd) H) (hK : va_K (gD G) vwCl (gT G) s) (hD : va_D A (LW G ho fo h0 a0 a1 ra rb u0 u1 u2 u3 hm am mo hd fd)) (hE : Ev (gE G) A s) (hS : va_S A s.heap H locs) (hA : ∀ q : Nat, s.heap.size ≤ q → A q) (hl : lv_has ls 9 [(5, .int (Int32.ofNat n)), (4, .ref hd), (3, .ref ho), (2, .ref hm), (1, .ref h0), (0, .ref b)]) (hcs : cells + 1 ≤ 601024 ∧ slots + 6 ≤ 7293034)
    (kk : ∀ (fo' : Nat → Int64) (fd' : Nat → UInt64) (u0 u1 : Ob) (u2 u3 : Nat → Ob) (mo : Ob) (H : Heap) (locs : List Loc) (ls : Array Slot), Rel (u0, u1, u2, u3) mo → va_P (gD G) vwCl (LW G ho fo' h0 a0 a1 ra rb u0 u1 u2 u3 hm am mo hd fd') H → va_D A (LW G ho fo' h0 a0 a1 ra rb u0 u1 u2 u3 hm am mo hd fd') → va_S A s.heap H locs → lv_has ls 9 [(5, .int (Int32.ofNat n)), (4, .ref hd), (3, .ref ho), (2, .ref hm), (1, .ref h0), (0, .ref b)] → W p l e room_1 s m args below meth c H locs (cells + 1) (slots + 6) Q (F0 m 1884 ls [])) :
    W p l e room_1 s m args below meth c H locs cells slots Q (F0 m 1077 ls []) := by
  obtain ⟨hx, hb, hml, hown, hg⟩ := id hC
  obtain ⟨q, b9, m9, e5, e6, hok, hRel9⟩ := hst u0 u1 u2 u3 mo hRel
  skip
  refine lv_aload_n hx hb dL_law_1077 rfl (lv_at hl 4 rfl) ?_
  refine lv_aload_n hx hb dL_law_1078 rfl (lv_at hl 2 rfl) ?_
  refine kH (As := [.ref h0, .ref ho]) (rest := []) hC (c_L_favourite hlf (G := G) (fo := fo) e5 (okX_hk1 hok)) kq4_65 kc_L_favourite (by decide) hP hK hD hE hS hA (out := (fun v : (Nat → Int64) × Ob × Ob × (Nat → Ob) × (Nat → Ob) => (LW G ho v.1 h0 a0 a1 ra rb v.2.1 v.2.2.1 v.2.2.2.1 v.2.2.2.2 hm am mo hd fd))) (wr := wX6 G hm am mo ++ [(hd, .inl (G.2.2.1 5, 1, .inr (.inr (.inr (.inl fd)))))]) (lpm1 _ _ _ _) (fun v => (lpm1 _ _ _ _).symm) hl.1 (Nat.le_of_ble_eq_true rfl) hcs dL_law_1079 (fun r9 v9 H locs hw hP hD hS => ?_)
  obtain ⟨hr9, hv9⟩ := hw
  subst hv9
  rw [okX_hc hok] at hr9
  subst hr9
  have hP : va_P (gD G) vwCl (LW G ho (hoI fo q.1) h0 a0 a1 ra rb q.2.1 q.2.2.1 q.2.2.2.1 q.2.2.2.2 hm am mo hd fd) H := hP
  have hD : va_D A (LW G ho (hoI fo q.1) h0 a0 a1 ra rb q.2.1 q.2.2.1 q.2.2.2.1 q.2.2.2.2 hm am mo hd fd) := hD
  refine lv_istore (lv' := [(6, .int (m9.1 7)), (5, .int (Int32.ofNat n)), (4, .ref hd), (3, .ref ho), (2, .ref hm), (1, .ref h0), (0, .ref b)]) hx hb dL_law_1082 hl (by decide) rfl (fun ls hl => ?_)
  refine lv_aload_n hx hb dL_law_1084 rfl (lv_at hl 4 rfl) ?_
  refine kMi (As := []) (rest := []) hC (c_X6_favourite (G := G) (N := N) e6) kq6_126 kc_X6_favourite (by decide) 0 (ci := 4) rfl rfl hP hK hD hE hS hA (out := fun v : Ob => (LW G ho (hoI fo q.1) h0 a0 a1 ra rb q.2.1 q.2.2.1 q.2.2.2.1 q.2.2.2.2 hm am v hd fd)) (wr := [(ho, .inl (G.2.2.1 2, 1, .inr (.inl (hoI fo q.1))))] ++ (wAll G h0 a0 q.2.1 a1 q.2.2.1 ra rb q.2.2.2.1 q.2.2.2.2 ++ [(hd, .inl (G.2.2.1 5, 1, .inr (.inr (.inr (.inl fd)))))])) (lpm3 _ _ _ _) (fun v => (lpm3 _ _ _ _).symm) hl.1 (Nat.le_of_ble_eq_true rfl) hcs dL_law_1085 (fun r9 v9 H locs hw hP hD hS => ?_)
  obtain ⟨hr9, hv9⟩ := hw
  subst hv9
  subst hr9
  have hP : va_P (gD G) vwCl (LW G ho (hoI fo q.1) h0 a0 a1 ra rb q.2.1 q.2.2.1 q.2.2.2.1 q.2.2.2.2 hm am m9 hd fd) H := hP
  have hD : va_D A (LW G ho (hoI fo q.1) h0 a0 a1 ra rb q.2.1 q.2.2.1 q.2.2.2.1 q.2.2.2.2 hm am m9 hd fd) := hD
  refine lv_istore (lv' := [(7, .int b9), (6, .int (m9.1 7)), (5, .int (Int32.ofNat n)), (4, .ref hd), (3, .ref ho), (2, .ref hm), (1, .ref h0), (0, .ref b)]) hx hb dL_law_1088 hl (by decide) rfl (fun ls hl => ?_)
  refine lv_aload_n hx hb dL_law_1090 rfl (lv_at hl 5 rfl) ?_
  refine kMi (As := []) (rest := []) hC (c_X6_thrown (G := G) (N := N) (q := m9.1 7) rfl) kq5_72 kc_X6_thrown (by decide) 0 (ci := 4) rfl rfl hP hK hD hE hS hA (out := fun v : Ob => (LW G ho (hoI fo q.1) h0 a0 a1 ra rb q.2.1 q.2.2.1 q.2.2.2.1 q.2.2.2.2 hm am v hd fd)) (wr := [(ho, .inl (G.2.2.1 2, 1, .inr (.inl (hoI fo q.1))))] ++ (wAll G h0 a0 q.2.1 a1 q.2.2.1 ra rb q.2.2.2.1 q.2.2.2.2 ++ [(hd, .inl (G.2.2.1 5, 1, .inr (.inr (.inr (.inl fd)))))])) (lpm3 _ _ _ _) (fun v => (lpm3 _ _ _ _).symm) hl.1 (Nat.le_of_ble_eq_true rfl) hcs dL_law_1091 (fun r9 v9 H locs hw hP hD hS => ?_)
  obtain ⟨hr9, hv9⟩ := hw
  subst hv9
  subst hr9
  have hP : va_P (gD G) vwCl (LW G ho (hoI fo q.1) h0 a0 a1 ra rb q.2.1 q.2.2.1 q.2.2.2.1 q.2.2.2.2 hm am m9 hd fd) H := hP
  have hD : va_D A (LW G ho (hoI fo q.1) h0 a0 a1 ra rb q.2.1 q.2.2.1 q.2.2.2.1 q.2.2.2.2 hm am m9 hd fd) := hD
  refine lv_iload hx hb dL_law_1094 (lv_at hl 1 rfl) ?_
  refine lv_icmp_eq (tgt := 1101) hx hb dL_law_1096 (by decide) (fun _ => ?_) (fun h => absurd rfl h)
  refine lv_iload hx hb dL_law_1101 (lv_at hl 1 rfl) ?_
  refine lv_if_ne (tgt := 1118) hx hb dL_law_1103 (by decide) (fun h9 => ?_) (fun h9 => ?_)
  · skip
    refine lv_goto (tgt := 1884) hx hb dL_law_1118 (by decide) ?_
    exact kk (hoI fo q.1) fd q.2.1 q.2.2.1 q.2.2.2.1 q.2.2.2.2 m9 H locs ls hRel9 hP hD hS (lv_sub hl [2, 3, 4, 5, 6, 7] rfl)
  · have hq := okX_r hok ((okX_hc hok).trans h9)
    refine lv_aload_n hx hb dL_law_1106 rfl (lv_at hl 4 rfl) ?_
    refine lv_iconst (v := (0 : Int32)) hx hb dL_law_1107 (by decide) ?_
    refine va_lald (f := (hoI fo q.1)) hx hb hK hP 0 2 rfl rfl (vin (by decide)) dL_law_1108 ?_
    have hv : (hoI fo q.1) (0 : Int32).toNatClampNeg = b9.toInt64 := by rw [hq]; rfl
    rw [hv]
    refine lv_iload hx hb dL_law_1109 (lv_at hl 0 rfl) ?_
    refine lv_i2l (v := b9.toInt64) hx hb dL_law_1111 rfl ?_
    refine lc_eq (tgt := 1118) hx hb dL_law_1112 dL_law_1113 (by decide) (fun _ => ?_) (fun h => absurd rfl h)
    refine lv_goto (tgt := 1884) hx hb dL_law_1118 (by decide) ?_
    exact kk (hoI fo q.1) fd q.2.1 q.2.2.1 q.2.2.2.1 q.2.2.2.2 m9 H locs ls hRel9 hP hD hS (lv_sub hl [2, 3, 4, 5, 6, 7] rfl)
def S_block (Rel : Cst → Ob → Prop) (N : Nat) : Prop := ∀ (u0 u1 : Ob) (u2 u3 : Nat → Ob) (mo : Ob), Rel (u0, u1, u2, u3) mo → ∀ (x1 : Int32) (x2 : Int32), ∃ q b m9, f_X5_block N x1 x2 u0 u1 u2 u3 = some q ∧ f_X6_block N x1 x2 mo = some (b, m9) ∧ okX 2 1 q.1 b (m9.1 7) ∧ Rel q.2 m9
set_option maxRecDepth 100000 in
set_option maxHeartbeats 4000000 in
theorem w_block {p : Program} {l : Launch} {e : Env} {s : State} {m : MethodId} {args : Array Value} {below : List Frame} {meth : Method} {c : Code} {H : Heap} {locs : List Loc} {cells slots : Nat} {Q : State → Prop} {ls : Array Slot} {A : Nat → Prop} {G : Gp} {b L n : Nat} {xs : Nat → Int32} {ho h0 hm hd : Nat} {fo : Nat → Int64} {fd : Nat → UInt64} {a0 a1 am : Nat → Nat} {ra rb : Nat → Nat → Nat} {u0 u1 mo : Ob} {u2 u3 : Nat → Ob} {Rel : Cst → Ob → Prop} {N : Nat}
    (hst : S_block Rel N) (hRel : Rel (u0, u1, u2, u3) mo) (hC : CallFix p m c code 9 s args lw_g RL) (hlf : l.stackTraces = false) (hX : va_X b L xs s s.heap) (hbl : b < s.heap.size) (hbA : ¬ A b) (hL : L ≤ 3072) (hn : n + 6 ≤ L) (hP : va_P (gD G) vwCl (LW G ho fo h0 a0 a1 ra rb u0 u1 u2 u3 hm am mo hd fd) H) (hK : va_K (gD G) vwCl (gT G) s) (hD : va_D A (LW G ho fo h0 a0 a1 ra rb u0 u1 u2 u3 hm am mo hd fd)) (hE : Ev (gE G) A s) (hS : va_S A s.heap H locs) (hA : ∀ q : Nat, s.heap.size ≤ q → A q) (hl : lv_has ls 9 [(5, .int (Int32.ofNat n)), (4, .ref hd), (3, .ref ho), (2, .ref hm), (1, .ref h0), (0, .ref b)]) (hcs : cells + 1 ≤ 601024 ∧ slots + 6 ≤ 7293034)
    (kk : ∀ (fo' : Nat → Int64) (fd' : Nat → UInt64) (u0 u1 : Ob) (u2 u3 : Nat → Ob) (mo : Ob) (H : Heap) (locs : List Loc) (ls : Array Slot), Rel (u0, u1, u2, u3) mo → va_P (gD G) vwCl (LW G ho fo' h0 a0 a1 ra rb u0 u1 u2 u3 hm am mo hd fd') H → va_D A (LW G ho fo' h0 a0 a1 ra rb u0 u1 u2 u3 hm am mo hd fd') → va_S A s.heap H locs → lv_has ls 9 [(5, .int (Int32.ofNat n)), (4, .ref hd), (3, .ref ho), (2, .ref hm), (1, .ref h0), (0, .ref b)] → W p l e room_1 s m args below meth c H locs (cells + 1) (slots + 6) Q (F0 m 1884 ls [])) :
    W p l e room_1 s m args below meth c H locs cells slots Q (F0 m 1121 ls []) := by
  obtain ⟨hx, hb, hml, hown, hg⟩ := id hC
  obtain ⟨q, b9, m9, e5, e6, hok, hRel9⟩ := hst u0 u1 u2 u3 mo hRel (xs (n + 1)) (xs (n + 2))
  skip
  refine lv_aload_n hx hb dL_law_1121 rfl (lv_at hl 4 rfl) ?_
  refine sc (k := 1) (kI := 1) 5 0 (by decide) hx hb hX hbl hbA hS hl rfl rfl (by omega) hL dL_law_1122 dL_law_1123 dL_law_1125 dL_law_1126 dL_law_1127 ?_
  refine sc (k := 2) (kI := 2) 5 0 (by decide) hx hb hX hbl hbA hS hl rfl rfl (by omega) hL dL_law_1128 dL_law_1129 dL_law_1131 dL_law_1132 dL_law_1133 ?_
  refine lv_aload_n hx hb dL_law_1134 rfl (lv_at hl 2 rfl) ?_
  refine kH (As := [.ref h0, .int (xs (n + 1)), .int (xs (n + 2)), .ref ho]) (rest := []) hC (c_L_block hlf (G := G) (fo := fo) e5 (okX_hk hok)) kq4_90 kc_L_block (by decide) hP hK hD hE hS hA (out := (fun v : (Nat → Int64) × Ob × Ob × (Nat → Ob) × (Nat → Ob) => (LW G ho v.1 h0 a0 a1 ra rb v.2.1 v.2.2.1 v.2.2.2.1 v.2.2.2.2 hm am mo hd fd))) (wr := wX6 G hm am mo ++ [(hd, .inl (G.2.2.1 5, 1, .inr (.inr (.inr (.inl fd)))))]) (lpm1 _ _ _ _) (fun v => (lpm1 _ _ _ _).symm) hl.1 (Nat.le_of_ble_eq_true rfl) hcs dL_law_1135 (fun r9 v9 H locs hw hP hD hS => ?_)
  obtain ⟨hr9, hv9⟩ := hw
  subst hv9
  rw [okX_hc hok] at hr9
  subst hr9
  have hP : va_P (gD G) vwCl (LW G ho (hoI fo q.1) h0 a0 a1 ra rb q.2.1 q.2.2.1 q.2.2.2.1 q.2.2.2.2 hm am mo hd fd) H := hP
  have hD : va_D A (LW G ho (hoI fo q.1) h0 a0 a1 ra rb q.2.1 q.2.2.1 q.2.2.2.1 q.2.2.2.2 hm am mo hd fd) := hD
  refine lv_istore (lv' := [(6, .int (m9.1 7)), (5, .int (Int32.ofNat n)), (4, .ref hd), (3, .ref ho), (2, .ref hm), (1, .ref h0), (0, .ref b)]) hx hb dL_law_1138 hl (by decide) rfl (fun ls hl => ?_)
  refine lv_aload_n hx hb dL_law_1140 rfl (lv_at hl 4 rfl) ?_
  refine sc (k := 1) (kI := 1) 6 1 (by decide) hx hb hX hbl hbA hS hl rfl rfl (by omega) hL dL_law_1141 dL_law_1142 dL_law_1144 dL_law_1145 dL_law_1146 ?_
  refine sc (k := 2) (kI := 2) 6 1 (by decide) hx hb hX hbl hbA hS hl rfl rfl (by omega) hL dL_law_1147 dL_law_1148 dL_law_1150 dL_law_1151 dL_law_1152 ?_
  refine kMi (As := [.int (xs (n + 1)), .int (xs (n + 2))]) (rest := []) hC (c_X6_block (G := G) (N := N) e6) kq6_134 kc_X6_block (by decide) 0 (ci := 4) rfl rfl hP hK hD hE hS hA (out := fun v : Ob => (LW G ho (hoI fo q.1) h0 a0 a1 ra rb q.2.1 q.2.2.1 q.2.2.2.1 q.2.2.2.2 hm am v hd fd)) (wr := [(ho, .inl (G.2.2.1 2, 1, .inr (.inl (hoI fo q.1))))] ++ (wAll G h0 a0 q.2.1 a1 q.2.2.1 ra rb q.2.2.2.1 q.2.2.2.2 ++ [(hd, .inl (G.2.2.1 5, 1, .inr (.inr (.inr (.inl fd)))))])) (lpm3 _ _ _ _) (fun v => (lpm3 _ _ _ _).symm) hl.1 (Nat.le_of_ble_eq_true rfl) hcs dL_law_1153 (fun r9 v9 H locs hw hP hD hS => ?_)
  obtain ⟨hr9, hv9⟩ := hw
  subst hv9
  subst hr9
  have hP : va_P (gD G) vwCl (LW G ho (hoI fo q.1) h0 a0 a1 ra rb q.2.1 q.2.2.1 q.2.2.2.1 q.2.2.2.2 hm am m9 hd fd) H := hP
  have hD : va_D A (LW G ho (hoI fo q.1) h0 a0 a1 ra rb q.2.1 q.2.2.1 q.2.2.2.1 q.2.2.2.2 hm am m9 hd fd) := hD
  refine lv_istore (lv' := [(7, .int b9), (6, .int (m9.1 7)), (5, .int (Int32.ofNat n)), (4, .ref hd), (3, .ref ho), (2, .ref hm), (1, .ref h0), (0, .ref b)]) hx hb dL_law_1156 hl (by decide) rfl (fun ls hl => ?_)
  refine lv_aload_n hx hb dL_law_1158 rfl (lv_at hl 5 rfl) ?_
  refine kMi (As := []) (rest := []) hC (c_X6_thrown (G := G) (N := N) (q := m9.1 7) rfl) kq5_72 kc_X6_thrown (by decide) 0 (ci := 4) rfl rfl hP hK hD hE hS hA (out := fun v : Ob => (LW G ho (hoI fo q.1) h0 a0 a1 ra rb q.2.1 q.2.2.1 q.2.2.2.1 q.2.2.2.2 hm am v hd fd)) (wr := [(ho, .inl (G.2.2.1 2, 1, .inr (.inl (hoI fo q.1))))] ++ (wAll G h0 a0 q.2.1 a1 q.2.2.1 ra rb q.2.2.2.1 q.2.2.2.2 ++ [(hd, .inl (G.2.2.1 5, 1, .inr (.inr (.inr (.inl fd)))))])) (lpm3 _ _ _ _) (fun v => (lpm3 _ _ _ _).symm) hl.1 (Nat.le_of_ble_eq_true rfl) hcs dL_law_1159 (fun r9 v9 H locs hw hP hD hS => ?_)
  obtain ⟨hr9, hv9⟩ := hw
  subst hv9
  subst hr9
  have hP : va_P (gD G) vwCl (LW G ho (hoI fo q.1) h0 a0 a1 ra rb q.2.1 q.2.2.1 q.2.2.2.1 q.2.2.2.2 hm am m9 hd fd) H := hP
  have hD : va_D A (LW G ho (hoI fo q.1) h0 a0 a1 ra rb q.2.1 q.2.2.1 q.2.2.2.1 q.2.2.2.2 hm am m9 hd fd) := hD
  refine lv_iload hx hb dL_law_1162 (lv_at hl 1 rfl) ?_
  refine lv_icmp_eq (tgt := 1169) hx hb dL_law_1164 (by decide) (fun _ => ?_) (fun h => absurd rfl h)
  refine lv_iload hx hb dL_law_1169 (lv_at hl 1 rfl) ?_
  refine lv_if_ne (tgt := 1186) hx hb dL_law_1171 (by decide) (fun h9 => ?_) (fun h9 => ?_)
  · skip
    refine lv_goto (tgt := 1884) hx hb dL_law_1186 (by decide) ?_
    exact kk (hoI fo q.1) fd q.2.1 q.2.2.1 q.2.2.2.1 q.2.2.2.2 m9 H locs ls hRel9 hP hD hS (lv_sub hl [2, 3, 4, 5, 6, 7] rfl)
  · have hq := okX_r hok ((okX_hc hok).trans h9)
    refine lv_aload_n hx hb dL_law_1174 rfl (lv_at hl 4 rfl) ?_
    refine lv_iconst (v := (0 : Int32)) hx hb dL_law_1175 (by decide) ?_
    refine va_lald (f := (hoI fo q.1)) hx hb hK hP 0 2 rfl rfl (vin (by decide)) dL_law_1176 ?_
    have hv : (hoI fo q.1) (0 : Int32).toNatClampNeg = b9.toInt64 := by rw [hq]; rfl
    rw [hv]
    refine lv_iload hx hb dL_law_1177 (lv_at hl 0 rfl) ?_
    refine lv_i2l (v := b9.toInt64) hx hb dL_law_1179 rfl ?_
    refine lc_eq (tgt := 1186) hx hb dL_law_1180 dL_law_1181 (by decide) (fun _ => ?_) (fun h => absurd rfl h)
    refine lv_goto (tgt := 1884) hx hb dL_law_1186 (by decide) ?_
    exact kk (hoI fo q.1) fd q.2.1 q.2.2.1 q.2.2.2.1 q.2.2.2.2 m9 H locs ls hRel9 hP hD hS (lv_sub hl [2, 3, 4, 5, 6, 7] rfl)
