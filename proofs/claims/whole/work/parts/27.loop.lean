section LJ
variable {p : Program} {l : Launch} {e : Env} {R : Room} {s : State} {m : MethodId} {args : Array Value} {below : List Frame} {meth : Method} {c : Code} {H : Heap} {locs : List Loc} {cells slots : Nat} {Q : State → Prop}
variable {cc : ByteArray} {pc : Nat} {ls : Array Slot} {rest : List Value} {A : Nat → Prop} {G : Gp}
theorem kJ {S : Type} {post : S → Prop} {wf : S → va_W} {y2 : MethodName} {c2 : ByteArray} {n2 nL idx mc ms b : Nat} {own : String} {rm : Room} {ws wc wr : va_W} {As : List Value} (hS0 : CallFix p m c cc nL s args lw_g own)
    (hM : Met l y2 (Cond.code y2 c2 n2 none :: lw_g) rm (va_Pc (.ref b :: As) (pw G wc H.size)) (va_Qv post (bw G wf (va_A wc H.size)) (va_A wc H.size)) mc ms (va_A wc H.size))
    (kn : Cond.methodLink own idx y2 ∈ lw_g) (kc : Cond.instanceMethod y2 ∈ lw_g ∧ Cond.initialized y2.cls ∈ lw_g ∧ Cond.code y2 c2 n2 none ∈ lw_g ∧ y2.cls ≠ "java/lang/invoke/MethodHandle" ∧ y2.cls ≠ "java/lang/invoke/VarHandle" ∧ (parseMethodDescriptor y2.desc).map (fun d => d.parameters.length) = some As.length) (hy : y2.name = "<init>") (hrm : rm.cells = mc ∧ rm.slots = ms ∧ rm.frames + 1 ≤ R.frames ∧ 8 + (n2 + 11) + rm.locals ≤ R.locals)
    (hP : va_P (gD G) vwCl ws H) (hK : va_K (gD G) vwCl (gT G) s) (hD : va_D A ws) (hE : Ev (gE G) A s) (hS : va_S A s.heap H locs) (hA : ∀ q : Nat, s.heap.size ≤ q → A q) {out : S → va_W} (hp : ws.Perm (wc ++ wr)) (ho : ∀ u, (wf u ++ wr).Perm (out u)) (hls : ls.size = nL) (hW : (rest.map fun v => v.category).sum ≤ 8) (hcs : cells + mc ≤ R.cells ∧ slots + ms ≤ R.slots) (hdg : decode cc pc = .ok (.invokespecial idx, 3))
    (kk : ∀ (u : S) (H1 : Heap) (locs1 : List Loc), post u → va_P (gD G) vwCl (out u) H1 → va_D A (out u) → va_S A s.heap H1 locs1 → W p l e R s m args below meth c H1 locs1 (cells + mc) (slots + ms) Q (F0 m (pc + 3) ls rest)) :
    W p l e R s m args below meth c H locs cells slots Q (F0 m pc ls (As.reverse ++ .ref b :: rest)) := by
  have hPp := va_P_perm hP hp
  have hDp := va_D_perm hD hp
  have hPc : va_P (gD G) vwCl wc H := va_P_mem hPp fun q hq => List.mem_append_left _ hq
  have hDc := va_D_l hDp
  have hF : ∀ q, va_A wc H.size q → A q := fun q h => h.elim (fun ⟨k, e, h⟩ => hDc.2 k (q, e) h) (fun h => hA q (Nat.le_trans hS.1 h))
  have hg := hS0.2.2.2.2
  refine va_callv (va_runI (As := As) (rest := rest) hS0 hM ⟨callB_of As.length hg (kgg2 kc.2.2.1) rfl hrm.1 hrm.2.1 (hg _ kc.2.1) (hg _ kn) kc.2.2.2 hrm.2.2, hy, hg _ kc.1⟩ ⟨pw_blind, fun U hU hW => pw_pre (ws := wc) hPc hDc hK hE hS hF hU hW⟩ rfl rfl hls rfl (lv_room hW) hdg hcs) hS (fun q _ h => hF q h) hF (fun u t H1 locs1 ht hvm hw hB hz1 hk1 hS1 => ?_)
  obtain ⟨hP1, hK1, hD1⟩ := hB
  rw [ht] at hP1
  obtain ⟨hP2, hD2⟩ := joinA hPp hDp hk1 hF hP1 hD1
  exact kk u H1 locs1 hw (va_P_perm hP2 (ho u)) (va_D_perm hD2 (ho u)) hS1
end LJ
theorem arr_d (n : Nat) : ∀ cA : ClassId, vp_cell cA (n, .inr (.inr (.inr (.inl fun _ => 0)))) = arrV cA n (fun _ => defaultValue .double) := fun _ => rfl
def Steps (Rel : Cst → Ob → Prop) (N : Nat) : Prop := S_append Rel N ∧ S_load Rel N ∧ S_errorPosition Rel N ∧ S_count Rel N ∧ S_part Rel N ∧ S_number Rel N ∧ S_code Rel N ∧ S_pulse Rel N ∧ S_hear Rel N ∧ S_bit Rel N ∧ S_frame Rel N ∧ S_frameBit Rel N ∧ S_votes Rel N ∧ S_favourite Rel N ∧ S_block Rel N ∧ S_assembled Rel N ∧ S_dissenting Rel N ∧ S_weakest Rel N ∧ S_fix Rel N ∧ S_clock Rel N ∧ S_deviation Rel N ∧ S_estimate Rel N ∧ S_set Rel N ∧ S_discipline Rel N ∧ S_forget Rel N ∧ S_writeTime Rel N ∧ S_writtenByte Rel N ∧ S_undo Rel N ∧ S_save Rel N ∧ S_restore Rel N
set_option maxRecDepth 100000 in
set_option maxHeartbeats 8000000 in
theorem law_loop {p : Program} {l : Launch} {e : Env} {s : State} {m : MethodId} {args : Array Value} {below : List Frame} {meth : Method} {c : Code} {Q : State → Prop} {A : Nat → Prop} {G : Gp} {b L : Nat} {xs : Nat → Int32} {ho h0 hm hd : Nat} {a0 a1 am : Nat → Nat} {ra rb : Nat → Nat → Nat} {Rel : Cst → Ob → Prop} {N : Nat}
    (hs : Steps Rel N) (hC : CallFix p m c code 9 s args lw_g RL) (hlf : l.stackTraces = false) (hX : va_X b L xs s s.heap) (hbl : b < s.heap.size) (hbA : ¬ A b) (hL : L ≤ 3072) (hK : va_K (gD G) vwCl (gT G) s) (hE : Ev (gE G) A s) (hA : ∀ q : Nat, s.heap.size ≤ q → A q)
    (kend : ∀ (H : Heap) (locs : List Loc) (cells slots : Nat) (ls : Array Slot), va_S A s.heap H locs → cells ≤ 601024 → slots ≤ 7293034 → W p l e room_1 s m args below meth c H locs cells slots Q (F0 m 1890 ls [])) :
    ∀ (k n : Nat), L ≤ n + k → n ≤ L → ∀ (cells slots : Nat), cells ≤ 300 + n → slots ≤ 3000 + n → ∀ (fo : Nat → Int64) (fd : Nat → UInt64) (u0 u1 : Ob) (u2 u3 : Nat → Ob) (mo : Ob) (H : Heap) (locs : List Loc) (ls : Array Slot), Rel (u0, u1, u2, u3) mo → va_P (gD G) vwCl (LW G ho fo h0 a0 a1 ra rb u0 u1 u2 u3 hm am mo hd fd) H → va_D A (LW G ho fo h0 a0 a1 ra rb u0 u1 u2 u3 hm am mo hd fd) → va_S A s.heap H locs → lv_has ls 9 [(5, .int (Int32.ofNat n)), (4, .ref hd), (3, .ref ho), (2, .ref hm), (1, .ref h0), (0, .ref b)] → W p l e room_1 s m args below meth c H locs cells slots Q (F0 m 28 ls []) := by
  obtain ⟨hx, hb, hml, hown, hg⟩ := id hC
  intro k
  induction k with
  | zero =>
    intro n hk hn cells slots hc1 hc2 fo fd u0 u1 u2 u3 mo H locs ls hRel hP hD hS hl
    refine lv_iload hx hb dL_law_28 (lv_at hl 0 rfl) ?_
    refine lv_aload_n hx hb dL_law_30 rfl (lv_at hl 5 rfl) ?_
    refine va_slen hx hb hX hbl hbA hS dL_law_31 ?_
    refine lv_bipush (v := (6 : Int32)) hx hb dL_law_32 (by decide) ?_
    refine lv_isub hx hb dL_law_34 ?_
    refine lv_icmp_gt (tgt := 1890) hx hb dL_law_35 (by decide) (fun _ => ?_) (fun h => absurd ((lexit hL (by omega)).mpr (by omega)) h)
    exact kend H locs cells slots ls hS (by omega) (by omega)
  | succ k ih =>
    intro n hk hn cells slots hc1 hc2 fo fd u0 u1 u2 u3 mo H locs ls hRel hP hD hS hl
    refine lv_iload hx hb dL_law_28 (lv_at hl 0 rfl) ?_
    refine lv_aload_n hx hb dL_law_30 rfl (lv_at hl 5 rfl) ?_
    refine va_slen hx hb hX hbl hbA hS dL_law_31 ?_
    refine lv_bipush (v := (6 : Int32)) hx hb dL_law_32 (by decide) ?_
    refine lv_isub hx hb dL_law_34 ?_
    refine lv_icmp_gt (tgt := 1890) hx hb dL_law_35 (by decide) (fun _ => ?_) (fun h => ?_)
    · exact kend H locs cells slots ls hS (by omega) (by omega)
    have hn6 : n + 6 ≤ L := by
      have h1 := (not_congr (lexit hL (by omega))).mp h
      omega
    refine sc0 5 0 hx hb hX hbl hbA hS hl rfl rfl (by omega) hL dL_law_38 dL_law_39 dL_law_41 ?_
    refine lv_bipush (v := (31 : Int32)) hx hb dL_law_42 (by decide) ?_
    refine lv_iand hx hb dL_law_44 ?_
    obtain ⟨j, hj, ej⟩ := and31 (xs n)
    rw [ej]
    have kk : ∀ (fo' : Nat → Int64) (fd' : Nat → UInt64) (u0 u1 : Ob) (u2 u3 : Nat → Ob) (mo : Ob) (H : Heap) (locs : List Loc) (ls : Array Slot), Rel (u0, u1, u2, u3) mo → va_P (gD G) vwCl (LW G ho fo' h0 a0 a1 ra rb u0 u1 u2 u3 hm am mo hd fd') H → va_D A (LW G ho fo' h0 a0 a1 ra rb u0 u1 u2 u3 hm am mo hd fd') → va_S A s.heap H locs → lv_has ls 9 [(5, .int (Int32.ofNat n)), (4, .ref hd), (3, .ref ho), (2, .ref hm), (1, .ref h0), (0, .ref b)] → W p l e room_1 s m args below meth c H locs (cells + 1) (slots + 6) Q (F0 m 1884 ls []) := by
      intro fo' fd' u0 u1 u2 u3 mo H locs ls hRel hP hD hS hl
      refine lv_iinc (v := Int32.ofNat (n + 6)) (lv' := [(5, .int (Int32.ofNat (n + 6))), (4, .ref hd), (3, .ref ho), (2, .ref hm), (1, .ref h0), (0, .ref b)]) hx hb dL_law_1884 hl (k := 0) rfl (by rw [Int32.ofNat_add]; rfl) (by decide) rfl (fun ls hl => ?_)
      refine lv_goto (tgt := 28) hx hb dL_law_1887 (by decide) ?_
      exact ih (n + 6) (by omega) hn6 _ _ (by omega) (by omega) fo' fd' u0 u1 u2 u3 mo H locs ls hRel hP hD hS hl
    have hcs : cells + 1 ≤ 601024 ∧ slots + 6 ≤ 7293034 := ⟨by omega, by omega⟩
    obtain ⟨s0, s1, s2, s3, s4, s5, s6, s7, s8, s9, s10, s11, s12, s13, s14, s15, s16, s17, s18, s19, s20, s21, s22, s23, s24, s25, s26, s27, s28, s29⟩ := hs
    match j, hj with
    | 0, _ => exact lv_tableIn (off := 135) (tgt := 180) hx hb dL_law_45 (by decide) (by decide) rfl (by decide) (w_append s0 hRel hC hlf hX hbl hbA hL hn6 hP hK hD hE hS hA hl hcs kk)
    | 1, _ => exact lv_tableIn (off := 239) (tgt := 284) hx hb dL_law_45 (by decide) (by decide) rfl (by decide) (w_load s1 hRel hC hlf hX hbl hbA hL hn6 hP hK hD hE hS hA hl hcs kk)
    | 2, _ => exact lv_tableIn (off := 295) (tgt := 340) hx hb dL_law_45 (by decide) (by decide) rfl (by decide) (w_errorPosition s2 hRel hC hlf hX hbl hbA hL hn6 hP hK hD hE hS hA hl hcs kk)
    | 3, _ => exact lv_tableIn (off := 308) (tgt := 353) hx hb dL_law_45 (by decide) (by decide) rfl (by decide) (w_count s3 hRel hC hlf hX hbl hbA hL hn6 hP hK hD hE hS hA hl hcs kk)
    | 4, _ => exact lv_tableIn (off := 364) (tgt := 409) hx hb dL_law_45 (by decide) (by decide) rfl (by decide) (w_part s4 hRel hC hlf hX hbl hbA hL hn6 hP hK hD hE hS hA hl hcs kk)
    | 5, _ => exact lv_tableIn (off := 432) (tgt := 477) hx hb dL_law_45 (by decide) (by decide) rfl (by decide) (w_number s5 hRel hC hlf hX hbl hbA hL hn6 hP hK hD hE hS hA hl hcs kk)
    | 6, _ => exact lv_tableIn (off := 536) (tgt := 581) hx hb dL_law_45 (by decide) (by decide) rfl (by decide) (w_code s6 hRel hC hlf hX hbl hbA hL hn6 hP hK hD hE hS hA hl hcs kk)
    | 7, _ => exact lv_tableIn (off := 619) (tgt := 664) hx hb dL_law_45 (by decide) (by decide) rfl (by decide) (w_pulse s7 hRel hC hlf hX hbl hbA hL hn6 hP hK hD hE hS hA hl hcs kk)
    | 8, _ => exact lv_tableIn (off := 687) (tgt := 732) hx hb dL_law_45 (by decide) (by decide) rfl (by decide) (w_hear s8 hRel hC hlf hX hbl hbA hL hn6 hP hK hD hE hS hA hl hcs kk)
    | 9, _ => exact lv_tableIn (off := 815) (tgt := 860) hx hb dL_law_45 (by decide) (by decide) rfl (by decide) (w_bit s9 hRel hC hlf hX hbl hbA hL hn6 hP hK hD hE hS hA hl hcs kk)
    | 10, _ => exact lv_tableIn (off := 871) (tgt := 916) hx hb dL_law_45 (by decide) (by decide) rfl (by decide) (w_frame s10 hRel hC hlf hX hbl hbA hL hn6 hP hK hD hE hS hA hl hcs kk)
    | 11, _ => exact lv_tableIn (off := 939) (tgt := 984) hx hb dL_law_45 (by decide) (by decide) rfl (by decide) (w_frameBit s11 hRel hC hlf hX hbl hbA hL hn6 hP hK hD hE hS hA hl hcs kk)
    | 12, _ => exact lv_tableIn (off := 1007) (tgt := 1052) hx hb dL_law_45 (by decide) (by decide) rfl (by decide) (w_votes s12 hRel hC hlf hX hbl hbA hL hn6 hP hK hD hE hS hA hl hcs kk)
    | 13, _ => exact lv_tableIn (off := 1032) (tgt := 1077) hx hb dL_law_45 (by decide) (by decide) rfl (by decide) (w_favourite s13 hRel hC hlf hX hbl hbA hL hn6 hP hK hD hE hS hA hl hcs kk)
    | 14, _ => exact lv_tableIn (off := 1076) (tgt := 1121) hx hb dL_law_45 (by decide) (by decide) rfl (by decide) (w_block s14 hRel hC hlf hX hbl hbA hL hn6 hP hK hD hE hS hA hl hcs kk)
    | 15, _ => exact lv_tableIn (off := 1144) (tgt := 1189) hx hb dL_law_45 (by decide) (by decide) rfl (by decide) (w_assembled s15 hRel hC hlf hX hbl hbA hL hn6 hP hK hD hE hS hA hl hcs kk)
    | 16, _ => exact lv_tableIn (off := 1157) (tgt := 1202) hx hb dL_law_45 (by decide) (by decide) rfl (by decide) (w_dissenting s16 hRel hC hlf hX hbl hbA hL hn6 hP hK hD hE hS hA hl hcs kk)
    | 17, _ => exact lv_tableIn (off := 1201) (tgt := 1246) hx hb dL_law_45 (by decide) (by decide) rfl (by decide) (w_weakest s17 hRel hC hlf hX hbl hbA hL hn6 hP hK hD hE hS hA hl hcs kk)
    | 18, _ => exact lv_tableIn (off := 1214) (tgt := 1259) hx hb dL_law_45 (by decide) (by decide) rfl (by decide) (w_fix s18 hRel hC hlf hX hbl hbA hL hn6 hP hK hD hE hS hA hl hcs kk)
    | 19, _ => exact lv_tableIn (off := 1282) (tgt := 1327) hx hb dL_law_45 (by decide) (by decide) rfl (by decide) (w_clock s19 hRel hC hlf hX hbl hbA hL hn6 hP hK hD hE hS hA hl hcs kk)
    | 20, _ => exact lv_tableIn (off := 1337) (tgt := 1382) hx hb dL_law_45 (by decide) (by decide) rfl (by decide) (w_deviation s20 hRel hC hlf hX hbl hbA hL hn6 hP hK hD hE hS hA hl hcs kk)
    | 21, _ => exact lv_tableIn (off := 1403) (tgt := 1448) hx hb dL_law_45 (by decide) (by decide) rfl (by decide) (w_estimate s21 hRel hC hlf hX hbl hbA hL hn6 hP hK hD hE hS hA hl hcs kk)
    | 22, _ => exact lv_tableIn (off := 1446) (tgt := 1491) hx hb dL_law_45 (by decide) (by decide) rfl (by decide) (w_set s22 hRel hC hlf hX hbl hbA hL hn6 hP hK hD hE hS hA hl hcs kk)
    | 23, _ => exact lv_tableIn (off := 1514) (tgt := 1559) hx hb dL_law_45 (by decide) (by decide) rfl (by decide) (w_discipline s23 hRel hC hlf hX hbl hbA hL hn6 hP hK hD hE hS hA hl hcs kk)
    | 24, _ => exact lv_tableIn (off := 1558) (tgt := 1603) hx hb dL_law_45 (by decide) (by decide) rfl (by decide) (w_forget s24 hRel hC hlf hX hbl hbA hL hn6 hP hK hD hE hS hA hl hcs kk)
    | 25, _ => exact lv_tableIn (off := 1571) (tgt := 1616) hx hb dL_law_45 (by decide) (by decide) rfl (by decide) (w_writeTime s25 hRel hC hlf hX hbl hbA hL hn6 hP hK hD hE hS hA hl hcs kk)
    | 26, _ => exact lv_tableIn (off := 1627) (tgt := 1672) hx hb dL_law_45 (by decide) (by decide) rfl (by decide) (w_writtenByte s26 hRel hC hlf hX hbl hbA hL hn6 hP hK hD hE hS hA hl hcs kk)
    | 27, _ => exact lv_tableIn (off := 1683) (tgt := 1728) hx hb dL_law_45 (by decide) (by decide) rfl (by decide) (w_undo s27 hRel hC hlf hX hbl hbA hL hn6 hP hK hD hE hS hA hl hcs kk)
    | 28, _ => exact lv_tableIn (off := 1727) (tgt := 1772) hx hb dL_law_45 (by decide) (by decide) rfl (by decide) (w_save s28 hRel hC hlf hX hbl hbA hL hn6 hP hK hD hE hS hA hl hcs kk)
    | 29, _ => exact lv_tableIn (off := 1783) (tgt := 1828) hx hb dL_law_45 (by decide) (by decide) rfl (by decide) (w_restore s29 hRel hC hlf hX hbl hbA hL hn6 hP hK hD hE hS hA hl hcs kk)
    | 30, _ => exact lv_tableOut (tgt := 1884) hx hb dL_law_45 (by decide) (by decide) (W.widen (k := cells + 1) (n := slots + 6) (by omega) (by omega) (kk fo fd u0 u1 u2 u3 mo H locs ls hRel hP hD hS hl))
    | 31, _ => exact lv_tableOut (tgt := 1884) hx hb dL_law_45 (by decide) (by decide) (W.widen (k := cells + 1) (n := slots + 6) (by omega) (by omega) (kk fo fd u0 u1 u2 u3 mo H locs ls hRel hP hD hS hl))
    | j + 32, hj => exact absurd hj (by omega)
set_option maxRecDepth 100000 in
set_option maxHeartbeats 8000000 in
theorem law_ok {Rel : Cst → Ob → Prop} {N : Nat} {q6 : Ob} (h6 : f_X6_init N = some q6) (hR0 : Rel (iX5, iX3, (fun _ => iX4), (fun _ => iX0)) q6) (hs : Steps Rel N)
    {p : Program} {e : Env} {s : State} {m : MethodId} {below : List Frame} {meth : Method} {c : Code} (l : Launch) (hflags : l.flags = flags0) {b L : Nat} {xs : Nat → Int32} (hL : L ≤ 3072) (C0 : lw_At p s m meth c b L xs) : W p l e room_1 s m #[Value.ref b] below meth c s.heap [] 0 0 (lw_Z below #[Value.ref b] s) (entryFrame m ([Value.ref b] : List Value).toArray 9) := by
  obtain ⟨hx, hb, hr, hml, hown, hts, hX, hbl, hlocks, hgv⟩ := id C0
  have hlf : l.stackTraces = false := by rw [Launch.stackTraces, hflags]; decide
  have hg : ∀ w ∈ lw_g, w.before #[Value.ref b] s = true := fun w h => hts w (List.mem_filter.mp h).1
  have hA : ∀ q : Nat, s.heap.size ≤ q → (fun q : Nat => s.heap.size ≤ q) q := fun _ h => h
  have hbA : ¬ (fun q : Nat => s.heap.size ≤ q) b := Nat.not_le.mpr hbl
  obtain ⟨G1, G2, G3, hK⟩ := k_start hg hts
  obtain ⟨ev, hE⟩ := ev_start hg hts (fun i c h => flat_of_before _ hgv c (List.mem_of_getElem? h)) (A := fun q : Nat => s.heap.size ≤ q) (fun a h => Nat.not_le.mpr h)
  obtain ⟨G, hG⟩ : ∃ G : Gp, G = (G1, G2, G3, ev) := ⟨_, rfl⟩
  have hK : va_K (gD G) vwCl (gT G) s := by rw [hG]; exact hK
  have hE : Ev (gE G) (fun q : Nat => s.heap.size ≤ q) s := by rw [hG]; exact hE
  clear hG
  have hC : CallFix p m c code 9 s #[Value.ref b] lw_g RL := ⟨hx, hb, hml, hown, hg⟩
  have hS : va_S (fun q : Nat => s.heap.size ≤ q) s.heap s.heap [] := va_S.rf
  have hP : va_P (gD G) vwCl [] s.heap := fun k q h => by simp at h
  have hD : va_D (fun q : Nat => s.heap.size ≤ q) [] := ⟨fun i j p q h => by simp at h, fun k q h => by simp at h⟩
  have hl := lv_entry ([.ref b]) (n := 9) (Nat.le_of_ble_eq_true rfl)
  rw [lg_entry_eq]
  generalize (lg_sl ([.ref b]) ++ List.replicate (9 - (lg_sl ([.ref b])).length) Slot.unset).toArray = ls at hl ⊢
  have hl : lv_has ls 9 [(0, .ref b)] := hl
  refine va_new (ci := 3) (fs := [.null, .null, .null, .null, .int 0, .int 0, .null, .null, .null, .null, .int 0]) (C := RX5) (T := TX5) (N := 11) hx hb hg kl_X5 tyX5 tyX5_ok hown (hg _ kq1_22) (hg _ kq1_23) (hg _ kq1_1) hK hP hD hS hA rfl (by decide +kernel) (Nat.le_of_ble_eq_true rfl) (Nat.le_of_ble_eq_true rfl) dL_law_0 (fun h0 H hP hD hS => ?_)
  have hP : va_P (gD G) vwCl [(h0, .inr (3, [.null, .null, .null, .null, .int 0, .int 0, .null, .null, .null, .null, .int 0]))] H := hP
  have hD : va_D (fun q : Nat => s.heap.size ≤ q) [(h0, .inr (3, [.null, .null, .null, .null, .int 0, .int 0, .null, .null, .null, .null, .int 0]))] := hD
  refine lv_dup hx hb dL_law_3 rfl ?_
  refine kJ (As := []) (rest := [.ref h0]) (wr := []) hC (c_X5_init (G := G)) kq1_24 kc_X5_init rfl ⟨rfl, rfl, by decide, by decide⟩ hP hK hD hE hS hA (out := fun v => wAll G h0 v.1 iX5 v.2.1 iX3 v.2.2.1 v.2.2.2 (fun _ => iX4) (fun _ => iX0)) (by rw [List.append_nil]) (fun v => by rw [List.append_nil]) hl.1 (Nat.le_of_ble_eq_true rfl) ⟨(Nat.le_of_ble_eq_true rfl), (Nat.le_of_ble_eq_true rfl)⟩ dL_law_4 (fun v9 H locs _ hP hD hS => ?_)
  obtain ⟨a0, a1, ra, rb⟩ := v9
  have hP : va_P (gD G) vwCl (wAll G h0 a0 iX5 a1 iX3 ra rb (fun _ => iX4) (fun _ => iX0)) H := hP
  have hD : va_D (fun q : Nat => s.heap.size ≤ q) (wAll G h0 a0 iX5 a1 iX3 ra rb (fun _ => iX4) (fun _ => iX0)) := hD
  refine lv_astore_n (lv' := [(1, .ref h0), (0, .ref b)]) hx hb dL_law_7 rfl hl (by decide) rfl (fun ls hl => ?_)
  refine va_new (ci := 4) (fs := [.null, .null, .null, .null, .null, .null, .int 0, .int 0, .int 0, .null, .int 0, .int 0, .int 0, .int 0, .int 0, .int 0, .int 0, .int 0, .long 0, .long 0, .null, .int 0]) (C := RX6) (T := TX6) (N := 22) hx hb hg kl_X6 tyX6 tyX6_ok hown (hg _ kq4_227) (hg _ kq4_228) (hg _ kq1_5) hK hP hD hS hA rfl (by decide +kernel) (Nat.le_of_ble_eq_true rfl) (Nat.le_of_ble_eq_true rfl) dL_law_8 (fun hm H hP hD hS => ?_)
  refine lv_dup hx hb dL_law_11 rfl ?_
  refine kJ (As := []) (rest := [.ref hm]) hC (c_X6_init (G := G) h6) kq4_229 kc_X6_init rfl ⟨rfl, rfl, by decide, by decide⟩ hP hK hD hE hS hA (out := fun v => wAll G h0 a0 iX5 a1 iX3 ra rb (fun _ => iX4) (fun _ => iX0) ++ wX6 G hm v.1 v.2) List.perm_append_comm (fun _ => List.perm_append_comm) hl.1 (Nat.le_of_ble_eq_true rfl) ⟨(Nat.le_of_ble_eq_true rfl), (Nat.le_of_ble_eq_true rfl)⟩ dL_law_12 (fun v9 H locs hw hP hD hS => ?_)
  obtain ⟨am, v9⟩ := v9
  obtain rfl : v9 = q6 := hw
  have hP : va_P (gD G) vwCl (wAll G h0 a0 iX5 a1 iX3 ra rb (fun _ => iX4) (fun _ => iX0) ++ wX6 G hm am v9) H := hP
  have hD : va_D (fun q : Nat => s.heap.size ≤ q) (wAll G h0 a0 iX5 a1 iX3 ra rb (fun _ => iX4) (fun _ => iX0) ++ wX6 G hm am v9) := hD
  refine lv_astore_n (lv' := [(2, .ref hm), (1, .ref h0), (0, .ref b)]) hx hb dL_law_15 rfl hl (by decide) rfl (fun ls hl => ?_)
  refine lv_iconst (v := (1 : Int32)) hx hb dL_law_16 (by decide) ?_
  refine nwA (N' := 1) (atype := .long) (t0 := 2) (a0 := (1, .inr (.inl fun _ => 0))) hx hb hg kq1_51 rfl rfl (fun _ _ => rfl) hK hP hD hS hA (arr_j 1) (by decide) (by decide) (by decide) (Nat.le_of_ble_eq_true rfl) (Nat.le_of_ble_eq_true rfl) dL_law_17 (fun ho H hP hD hS => ?_)
  refine lv_astore_n (lv' := [(3, .ref ho), (2, .ref hm), (1, .ref h0), (0, .ref b)]) hx hb dL_law_19 rfl hl (by decide) rfl (fun ls hl => ?_)
  refine lv_iconst (v := (1 : Int32)) hx hb dL_law_20 (by decide) ?_
  refine nwA (N' := 1) (atype := .double) (t0 := 5) (a0 := (1, .inr (.inr (.inr (.inl fun _ => 0))))) hx hb hg kq6_231 rfl rfl (fun _ _ => rfl) hK hP hD hS hA (arr_d 1) (by decide) (by decide) (by decide) (Nat.le_of_ble_eq_true rfl) (Nat.le_of_ble_eq_true rfl) dL_law_21 (fun hd H hP hD hS => ?_)
  refine lv_astore (lv' := [(4, .ref hd), (3, .ref ho), (2, .ref hm), (1, .ref h0), (0, .ref b)]) hx hb dL_law_23 hl (by decide) rfl (fun ls hl => ?_)
  refine lv_iconst (v := Int32.ofNat 0) hx hb dL_law_25 (by decide) ?_
  refine lv_istore (lv' := [(5, .int (Int32.ofNat 0)), (4, .ref hd), (3, .ref ho), (2, .ref hm), (1, .ref h0), (0, .ref b)]) hx hb dL_law_26 hl (by decide) rfl (fun ls hl => ?_)
  have hpm : (((wAll G h0 a0 iX5 a1 iX3 ra rb (fun _ => iX4) (fun _ => iX0) ++ wX6 G hm am v9) ++ [(ho, .inl (G.2.2.1 2, 1, .inr (.inl fun _ => 0)))]) ++ [(hd, .inl (G.2.2.1 5, 1, .inr (.inr (.inr (.inl fun _ => 0)))))] : va_W).Perm (LW G ho (fun _ => 0) h0 a0 a1 ra rb iX5 iX3 (fun _ => iX4) (fun _ => iX0) hm am v9 hd (fun _ => 0)) := by
    rw [List.append_assoc, List.append_assoc]
    exact lpm3 _ _ _ _
  have hP := va_P_perm hP hpm
  have hD := va_D_perm hD hpm
  refine law_loop hs hC hlf hX hbl hbA hL hK hE hA (fun H locs cells slots ls hS h1 h2 => ?_) L 0 (by omega) (by omega) _ _ (Nat.le_of_ble_eq_true rfl) (Nat.le_of_ble_eq_true rfl) (fun _ => 0) (fun _ => 0) _ _ _ _ _ H _ ls hR0 hP hD hS hl
  refine va_forget hS.2.2 ?_
  refine W.widen (k := 601024) (n := 7293034) h1 h2 ?_
  refine lv_iconst (v := (1 : Int32)) hx hb dL_law_1890 (by decide) ?_
  exact lw_ret (d0 := s.drawn) (Drawn.sameBut.refl s.drawn lw_cs) hx hb hr hlocks dL_law_1891
