abbrev Cst : Type := Ob × Ob × (Nat → Ob) × (Nat → Ob)
def okX {α : Type} (k1 k2 : Nat) (z : Nat ⊕ α) (b : α) (t : Int32) : Prop := match z with
  | .inl k => (k = k1 ∧ t = 1) ∨ (k = k2 ∧ k ≠ k1 ∧ t = 2)
  | .inr r => t = 0 ∧ r = b
theorem okX_hc {α : Type} {k1 k2 : Nat} {z : Nat ⊕ α} {b : α} {t : Int32} (h : okX k1 k2 z b t) : hc k1 z = t := by
  cases z with
  | inl k =>
    show (if k = k1 then (1 : Int32) else 2) = t
    rcases h with ⟨h1, h2⟩ | ⟨h1, h2, h3⟩
    · rw [if_pos h1, h2]
    · rw [if_neg h2, h3]
  | inr r => exact h.1.symm
theorem okX_hk {α : Type} {k1 k2 : Nat} {z : Nat ⊕ α} {b : α} {t : Int32} (h : okX k1 k2 z b t) : ∀ k, z = .inl k → k = k1 ∨ k = k2 := by
  intro k e
  subst e
  rcases h with ⟨h1, -⟩ | ⟨h1, -, -⟩
  · exact Or.inl h1
  · exact Or.inr h1
theorem okX_hk1 {α : Type} {k1 : Nat} {z : Nat ⊕ α} {b : α} {t : Int32} (h : okX k1 k1 z b t) : ∀ k, z = .inl k → k = k1 := fun k e => (okX_hk h k e).elim id id
theorem okX_r {α : Type} {k1 k2 : Nat} {z : Nat ⊕ α} {b : α} {t : Int32} (h : okX k1 k2 z b t) (e : hc k1 z = 0) : z = .inr b := by
  cases z with
  | inl k =>
    have e : (if k = k1 then (1 : Int32) else 2) = 0 := e
    by_cases hk : k = k1
    · rw [if_pos hk] at e; exact absurd e (by decide)
    · rw [if_neg hk] at e; exact absurd e (by decide)
  | inr r => rw [h.2]
theorem i32n {x : Nat} (h : x < 2 ^ 31) : (Int32.ofNat x).toNatClampNeg = x := Int32.toNatClampNeg_ofNat_of_lt h
theorem i32in {x L : Nat} (hx : x < L) (hL : L < 2 ^ 31) : vp_in (Int32.ofNat x) L := by
  rintro (h | h)
  · exact absurd h (Int32.not_lt.mpr ((Int32.ofNat_le_ofNat (by decide) (Nat.lt_trans hx hL)).mpr (Nat.zero_le x)))
  · rw [i32n (Nat.lt_trans hx hL)] at h
    exact Nat.not_le.mpr hx h
theorem and31 (z : Int32) : ∃ k : Nat, k < 32 ∧ z &&& 31 = Int32.ofNat k := by
  refine ⟨(z &&& 31).toBitVec.toNat, ?_, ?_⟩
  · rw [Int32.toBitVec_and, BitVec.toNat_and]
    exact Nat.lt_of_le_of_lt Nat.and_le_right (by decide)
  · apply Int32.toBitVec_inj.mp
    show _ = BitVec.ofNat 32 _
    rw [BitVec.ofNat_toNat, BitVec.setWidth_eq]
theorem lexit {L n : Nat} (hL : L ≤ 3072) (hn : n ≤ 4000) : (Int32.ofNat L - 6 < Int32.ofNat n) ↔ L < n + 6 := by
  rw [Int32.lt_iff_toInt_lt, Int32.toInt_sub, Int32.toInt_ofNat_of_lt (show L < 2 ^ 31 by omega), Int32.toInt_ofNat_of_lt (show n < 2 ^ 31 by omega), show (6 : Int32).toInt = 6 from rfl, Int.bmod_eq_of_le (by omega) (by omega)]
  omega
def LW (G : Gp) (ho : Nat) (fo : Nat → Int64) (h0 : Nat) (a0 a1 : Nat → Nat) (ra rb : Nat → Nat → Nat) (u0 u1 : Ob) (u2 u3 : Nat → Ob) (hm : Nat) (am : Nat → Nat) (mo : Ob) (hd : Nat) (fd : Nat → UInt64) : va_W :=
  [(ho, .inl (G.2.2.1 2, 1, .inr (.inl fo)))] ++ (wAll G h0 a0 u0 a1 u1 ra rb u2 u3 ++ (wX6 G hm am mo ++ [(hd, .inl (G.2.2.1 5, 1, .inr (.inr (.inr (.inl fd)))))]))
section PM
variable {α : Type} (a b c d : List α)
theorem lpm1 : (a ++ (b ++ (c ++ d))).Perm ((a ++ b) ++ (c ++ d)) := by rw [List.append_assoc]
theorem lpm0 : (a ++ (b ++ c)).Perm (b ++ (a ++ c)) := by
  have h := (List.perm_append_comm (l₁ := a) (l₂ := b)).append_right c
  rwa [List.append_assoc, List.append_assoc] at h
theorem lpm3 : (a ++ (b ++ (c ++ d))).Perm (c ++ (a ++ (b ++ d))) := ((lpm0 b c d).append_left a).trans (lpm0 a c (b ++ d))
theorem lpm4 : (a ++ (b ++ (c ++ d))).Perm (d ++ (a ++ (b ++ c))) := by
  have h := List.perm_append_comm (l₁ := a ++ (b ++ c)) (l₂ := d)
  rwa [List.append_assoc, List.append_assoc] at h
theorem lpm2 : (a ++ (b ++ (c ++ d))).Perm ((d ++ b) ++ (a ++ c)) := by
  rw [List.append_assoc]
  exact (lpm4 a b c d).trans ((lpm0 a b c).append_left d)
end PM
section LC
variable {p : Program} {l : Launch} {e : Env} {R : Room} {s : State} {m : MethodId} {args : Array Value} {below : List Frame} {meth : Method} {c : Code} {H : Heap} {locs : List Loc} {cells slots : Nat} {Q : State → Prop}
variable {cc : ByteArray} {pc : Nat} {ls : Array Slot} {rest : List Value} {A : Nat → Prop} {G : Gp}
theorem kH {S : Type} {post : Int32 → S → Prop} {wc wr ws : va_W} {wf : S → va_W} {y2 : MethodName} {c2 : ByteArray} {n2 nL idx : Nat} {hh : List (Nat × Nat × Nat × Nat)} {own : String} {rm : Room} {As : List Value} (hS0 : CallFix p m c cc nL s args lw_g own)
    (hM : Met l y2 (Cond.codeWith y2 c2 n2 (some .int) hh :: lw_g) rm (va_Pc As (pw G wc H.size)) (va_Qi post (bw G wf (va_A wc H.size)) (va_A wc H.size)) 1 6 (va_A wc H.size))
    (kl : Cond.methodLink own idx y2 ∈ lw_g) (kc : Cond.static y2 ∈ lw_g ∧ Cond.initialized y2.cls ∈ lw_g ∧ Cond.codeWith y2 c2 n2 (some .int) hh ∈ lw_g ∧ y2.cls ≠ "java/lang/invoke/MethodHandle" ∧ y2.cls ≠ "java/lang/invoke/VarHandle" ∧ (parseMethodDescriptor y2.desc).map (fun d => d.parameters.length) = some As.length) (hrm : rm.cells = 1 ∧ rm.slots = 6 ∧ rm.frames + 1 ≤ R.frames ∧ 8 + (n2 + 11) + rm.locals ≤ R.locals)
    (hP : va_P (gD G) vwCl ws H) (hK : va_K (gD G) vwCl (gT G) s) (hD : va_D A ws) (hE : Ev (gE G) A s) (hS : va_S A s.heap H locs) (hA : ∀ q : Nat, s.heap.size ≤ q → A q) {out : S → va_W} (hp : ws.Perm (wc ++ wr)) (ho : ∀ u, (wf u ++ wr).Perm (out u)) (hls : ls.size = nL) (hW : (rest.map fun v => v.category).sum ≤ 8) (hcs : cells + 1 ≤ R.cells ∧ slots + 6 ≤ R.slots) (hdg : decode cc pc = .ok (.invokestatic idx, 3))
    (kk : ∀ (r : Int32) (u : S) (H1 : Heap) (locs1 : List Loc), post r u → va_P (gD G) vwCl (out u) H1 → va_D A (out u) → va_S A s.heap H1 locs1 → W p l e R s m args below meth c H1 locs1 (cells + 1) (slots + 6) Q (F0 m (pc + 3) ls (.int r :: rest))) :
    W p l e R s m args below meth c H locs cells slots Q (F0 m pc ls (As.reverse ++ rest)) := by
  have hPp := va_P_perm hP hp
  have hDp := va_D_perm hD hp
  have hPc : va_P (gD G) vwCl wc H := va_P_mem hPp fun q hq => List.mem_append_left _ hq
  have hDc := va_D_l hDp
  have hF : ∀ q, va_A wc H.size q → A q := fun q h => h.elim (fun ⟨k, e, h⟩ => hDc.2 k (q, e) h) (fun h => hA q (Nat.le_trans hS.1 h))
  have hg := hS0.2.2.2.2
  have hGd : GoodIn lw_g (Cond.codeWith y2 c2 n2 (some .int) hh :: lw_g) := by
    intro w hw
    rcases List.mem_cons.mp hw with rfl | hw
    · exact ⟨kc.2.2.1, good_of_word (List.mem_filter.mp kc.2.2.1).2⟩
    · exact ⟨hw, good_of_word (List.mem_filter.mp hw).2⟩
  refine va_calli (vx_runSW (As := As) (rest := rest) hS0 hM ⟨⟨hrm.1, hrm.2.1, hrm.2.2.1, hrm.2.2.2, pay_in hg hGd, List.mem_cons_self⟩, hg _ kc.2.2.1, hg _ kc.2.1, ⟨kc.2.2.2.1, kc.2.2.2.2.1⟩, fun sig h => by have h2 := kc.2.2.2.2.2; rw [h] at h2; exact (Option.some.inj h2).symm, hg _ kl, hg _ kc.1⟩ ⟨pw_blind, fun U hU hW => pw_pre (ws := wc) hPc hDc hK hE hS hF hU hW⟩ rfl rfl hls rfl (lv_room hW) hdg hcs) hS (fun q _ h => hF q h) hF (fun r u t H1 locs1 ht hvm hw hB hz1 hk1 hS1 => ?_)
  obtain ⟨hP1, hK1, hD1⟩ := hB
  rw [ht] at hP1
  obtain ⟨hP2, hD2⟩ := joinA hPp hDp hk1 hF hP1 hD1
  exact kk r u H1 locs1 hw (va_P_perm hP2 (ho u)) (va_D_perm hD2 (ho u)) hS1
theorem kMi {S : Type} {post : Int32 → S → Prop} {wc wr ws : va_W} {b : Nat} {wf : S → va_W} {y2 : MethodName} {c2 : ByteArray} {n2 nL idx : Nat} {own : String} {rm : Room} {As : List Value} (hS0 : CallFix p m c cc nL s args lw_g own)
    (hM : Met l y2 (Cond.code y2 c2 n2 (some .int) :: lw_g) rm (va_Pc (.ref b :: As) (pw G wc H.size)) (va_Qi post (bw G wf (va_A wc H.size)) (va_A wc H.size)) 0 0 (va_A wc H.size))
    (kl : Cond.methodLink own idx y2 ∈ lw_g) (kc : Cond.instanceMethod y2 ∈ lw_g ∧ Cond.selects y2.cls y2 y2 ∈ lw_g ∧ Cond.initialized y2.cls ∈ lw_g ∧ Cond.code y2 c2 n2 (some .int) ∈ lw_g ∧ y2.cls ≠ "java/lang/invoke/MethodHandle" ∧ y2.cls ≠ "java/lang/invoke/VarHandle" ∧ (parseMethodDescriptor y2.desc).map (fun d => d.parameters.length) = some As.length) (hrm : rm.cells = 0 ∧ rm.slots = 0 ∧ rm.frames + 1 ≤ R.frames ∧ 8 + (n2 + 11) + rm.locals ≤ R.locals)
    {T : u_T} {N ci : Nat} {fs : List Value} (q0 : Nat) (hci : vwCl[ci]? = some (y2.cls, T, N)) (hq0 : wc[q0]? = some (b, .inr (ci, fs)))
    (hP : va_P (gD G) vwCl ws H) (hK : va_K (gD G) vwCl (gT G) s) (hD : va_D A ws) (hE : Ev (gE G) A s) (hS : va_S A s.heap H locs) (hA : ∀ q : Nat, s.heap.size ≤ q → A q) {out : S → va_W} (hp : ws.Perm (wc ++ wr)) (ho : ∀ u, (wf u ++ wr).Perm (out u)) (hls : ls.size = nL) (hW : (rest.map fun v => v.category).sum ≤ 8) (hcs : cells ≤ R.cells ∧ slots ≤ R.slots) (hdg : decode cc pc = .ok (.invokevirtual idx, 3))
    (kk : ∀ (r : Int32) (u : S) (H1 : Heap) (locs1 : List Loc), post r u → va_P (gD G) vwCl (out u) H1 → va_D A (out u) → va_S A s.heap H1 locs1 → W p l e R s m args below meth c H1 locs1 cells slots Q (F0 m (pc + 3) ls (.int r :: rest))) :
    W p l e R s m args below meth c H locs cells slots Q (F0 m pc ls (As.reverse ++ .ref b :: rest)) := by
  have hPp := va_P_perm hP hp
  have hDp := va_D_perm hD hp
  have hPc : va_P (gD G) vwCl wc H := va_P_mem hPp fun q hq => List.mem_append_left _ hq
  have hDc := va_D_l hDp
  have hF : ∀ q, va_A wc H.size q → A q := fun q h => h.elim (fun ⟨k, e, h⟩ => hDc.2 k (q, e) h) (fun h => hA q (Nat.le_trans hS.1 h))
  have hg := hS0.2.2.2.2
  refine va_calli (va_runV (C := y2.cls) (As := As) (rest := rest) hS0 hM ⟨callB_of As.length hg (kgg2 kc.2.2.2.1) rfl hrm.1 hrm.2.1 (hg _ kc.2.2.1) (hg _ kl) kc.2.2.2.2 hrm.2.2, hg _ kc.1, hg _ kc.2.1⟩ ⟨pw_blind, va_recv hK hPc hci hq0, fun U hU hW => pw_pre (ws := wc) hPc hDc hK hE hS hF hU hW⟩ rfl rfl hls rfl (lv_room hW) hdg hcs) hS (fun q _ h => hF q h) hF (fun r u t H1 locs1 ht hvm hw hB hz1 hk1 hS1 => ?_)
  obtain ⟨hP1, hK1, hD1⟩ := hB
  rw [ht] at hP1
  obtain ⟨hP2, hD2⟩ := joinA hPp hDp hk1 hF hP1 hD1
  exact kk r u H1 locs1 hw (va_P_perm hP2 (ho u)) (va_D_perm hD2 (ho u)) hS1
theorem kMl {S : Type} {post : Int64 → S → Prop} {wc wr ws : va_W} {b : Nat} {wf : S → va_W} {y2 : MethodName} {c2 : ByteArray} {n2 nL idx : Nat} {own : String} {rm : Room} {As : List Value} (hS0 : CallFix p m c cc nL s args lw_g own)
    (hM : Met l y2 (Cond.code y2 c2 n2 (some .long) :: lw_g) rm (va_Pc (.ref b :: As) (pw G wc H.size)) (va_Ql post (bw G wf (va_A wc H.size)) (va_A wc H.size)) 0 0 (va_A wc H.size))
    (kl : Cond.methodLink own idx y2 ∈ lw_g) (kc : Cond.instanceMethod y2 ∈ lw_g ∧ Cond.selects y2.cls y2 y2 ∈ lw_g ∧ Cond.initialized y2.cls ∈ lw_g ∧ Cond.code y2 c2 n2 (some .long) ∈ lw_g ∧ y2.cls ≠ "java/lang/invoke/MethodHandle" ∧ y2.cls ≠ "java/lang/invoke/VarHandle" ∧ (parseMethodDescriptor y2.desc).map (fun d => d.parameters.length) = some As.length) (hrm : rm.cells = 0 ∧ rm.slots = 0 ∧ rm.frames + 1 ≤ R.frames ∧ 8 + (n2 + 11) + rm.locals ≤ R.locals)
    {T : u_T} {N ci : Nat} {fs : List Value} (q0 : Nat) (hci : vwCl[ci]? = some (y2.cls, T, N)) (hq0 : wc[q0]? = some (b, .inr (ci, fs)))
    (hP : va_P (gD G) vwCl ws H) (hK : va_K (gD G) vwCl (gT G) s) (hD : va_D A ws) (hE : Ev (gE G) A s) (hS : va_S A s.heap H locs) (hA : ∀ q : Nat, s.heap.size ≤ q → A q) {out : S → va_W} (hp : ws.Perm (wc ++ wr)) (ho : ∀ u, (wf u ++ wr).Perm (out u)) (hls : ls.size = nL) (hW : (rest.map fun v => v.category).sum ≤ 8) (hcs : cells ≤ R.cells ∧ slots ≤ R.slots) (hdg : decode cc pc = .ok (.invokevirtual idx, 3))
    (kk : ∀ (r : Int64) (u : S) (H1 : Heap) (locs1 : List Loc), post r u → va_P (gD G) vwCl (out u) H1 → va_D A (out u) → va_S A s.heap H1 locs1 → W p l e R s m args below meth c H1 locs1 cells slots Q (F0 m (pc + 3) ls (.long r :: rest))) :
    W p l e R s m args below meth c H locs cells slots Q (F0 m pc ls (As.reverse ++ .ref b :: rest)) := by
  have hPp := va_P_perm hP hp
  have hDp := va_D_perm hD hp
  have hPc : va_P (gD G) vwCl wc H := va_P_mem hPp fun q hq => List.mem_append_left _ hq
  have hDc := va_D_l hDp
  have hF : ∀ q, va_A wc H.size q → A q := fun q h => h.elim (fun ⟨k, e, h⟩ => hDc.2 k (q, e) h) (fun h => hA q (Nat.le_trans hS.1 h))
  have hg := hS0.2.2.2.2
  refine va_calll (va_runV (C := y2.cls) (As := As) (rest := rest) hS0 hM ⟨callB_of As.length hg (kgg2 kc.2.2.2.1) rfl hrm.1 hrm.2.1 (hg _ kc.2.2.1) (hg _ kl) kc.2.2.2.2 hrm.2.2, hg _ kc.1, hg _ kc.2.1⟩ ⟨pw_blind, va_recv hK hPc hci hq0, fun U hU hW => pw_pre (ws := wc) hPc hDc hK hE hS hF hU hW⟩ rfl rfl hls rfl (lv_room hW) hdg hcs) hS (fun q _ h => hF q h) hF (fun r u t H1 locs1 ht hvm hw hB hz1 hk1 hS1 => ?_)
  obtain ⟨hP1, hK1, hD1⟩ := hB
  rw [ht] at hP1
  obtain ⟨hP2, hD2⟩ := joinA hPp hDp hk1 hF hP1 hD1
  exact kk r u H1 locs1 hw (va_P_perm hP2 (ho u)) (va_D_perm hD2 (ho u)) hS1
theorem kMf {S : Type} {post : UInt32 → S → Prop} {wc wr ws : va_W} {b : Nat} {wf : S → va_W} {y2 : MethodName} {c2 : ByteArray} {n2 nL idx : Nat} {own : String} {rm : Room} {As : List Value} (hS0 : CallFix p m c cc nL s args lw_g own)
    (hM : Met l y2 (Cond.code y2 c2 n2 (some .float) :: lw_g) rm (va_Pc (.ref b :: As) (pw G wc H.size)) (va_Qf post (bw G wf (va_A wc H.size)) (va_A wc H.size)) 0 0 (va_A wc H.size))
    (kl : Cond.methodLink own idx y2 ∈ lw_g) (kc : Cond.instanceMethod y2 ∈ lw_g ∧ Cond.selects y2.cls y2 y2 ∈ lw_g ∧ Cond.initialized y2.cls ∈ lw_g ∧ Cond.code y2 c2 n2 (some .float) ∈ lw_g ∧ y2.cls ≠ "java/lang/invoke/MethodHandle" ∧ y2.cls ≠ "java/lang/invoke/VarHandle" ∧ (parseMethodDescriptor y2.desc).map (fun d => d.parameters.length) = some As.length) (hrm : rm.cells = 0 ∧ rm.slots = 0 ∧ rm.frames + 1 ≤ R.frames ∧ 8 + (n2 + 11) + rm.locals ≤ R.locals)
    {T : u_T} {N ci : Nat} {fs : List Value} (q0 : Nat) (hci : vwCl[ci]? = some (y2.cls, T, N)) (hq0 : wc[q0]? = some (b, .inr (ci, fs)))
    (hP : va_P (gD G) vwCl ws H) (hK : va_K (gD G) vwCl (gT G) s) (hD : va_D A ws) (hE : Ev (gE G) A s) (hS : va_S A s.heap H locs) (hA : ∀ q : Nat, s.heap.size ≤ q → A q) {out : S → va_W} (hp : ws.Perm (wc ++ wr)) (ho : ∀ u, (wf u ++ wr).Perm (out u)) (hls : ls.size = nL) (hW : (rest.map fun v => v.category).sum ≤ 8) (hcs : cells ≤ R.cells ∧ slots ≤ R.slots) (hdg : decode cc pc = .ok (.invokevirtual idx, 3))
    (kk : ∀ (r : UInt32) (u : S) (H1 : Heap) (locs1 : List Loc), post r u → va_P (gD G) vwCl (out u) H1 → va_D A (out u) → va_S A s.heap H1 locs1 → W p l e R s m args below meth c H1 locs1 cells slots Q (F0 m (pc + 3) ls (.float r :: rest))) :
    W p l e R s m args below meth c H locs cells slots Q (F0 m pc ls (As.reverse ++ .ref b :: rest)) := by
  have hPp := va_P_perm hP hp
  have hDp := va_D_perm hD hp
  have hPc : va_P (gD G) vwCl wc H := va_P_mem hPp fun q hq => List.mem_append_left _ hq
  have hDc := va_D_l hDp
  have hF : ∀ q, va_A wc H.size q → A q := fun q h => h.elim (fun ⟨k, e, h⟩ => hDc.2 k (q, e) h) (fun h => hA q (Nat.le_trans hS.1 h))
  have hg := hS0.2.2.2.2
  refine va_callf (va_runV (C := y2.cls) (As := As) (rest := rest) hS0 hM ⟨callB_of As.length hg (kgg2 kc.2.2.2.1) rfl hrm.1 hrm.2.1 (hg _ kc.2.2.1) (hg _ kl) kc.2.2.2.2 hrm.2.2, hg _ kc.1, hg _ kc.2.1⟩ ⟨pw_blind, va_recv hK hPc hci hq0, fun U hU hW => pw_pre (ws := wc) hPc hDc hK hE hS hF hU hW⟩ rfl rfl hls rfl (lv_room hW) hdg hcs) hS (fun q _ h => hF q h) hF (fun r u t H1 locs1 ht hvm hw hB hz1 hk1 hS1 => ?_)
  obtain ⟨hP1, hK1, hD1⟩ := hB
  rw [ht] at hP1
  obtain ⟨hP2, hD2⟩ := joinA hPp hDp hk1 hF hP1 hD1
  exact kk r u H1 locs1 hw (va_P_perm hP2 (ho u)) (va_D_perm hD2 (ho u)) hS1
/-- the law's script: aload_0, iload 5, a constant, iadd, iaload -/
theorem sc {b L n nL : Nat} {xs : Nat → Int32} {lv : List (Nat × Value)} (k : Nat) (kI : Int) (i0 i5 : Nat) (hkI : (Int32.ofInt kI) = Int32.ofNat k) (hx : p.tables.exec = Jvm.exec) (hb : c.code = cc) (hX : va_X b L xs s s.heap) (hbl : b < s.heap.size) (hbA : ¬ A b) (hS : va_S A s.heap H locs) (hl : lv_has ls nL lv) (h0 : lv[i0]? = some (0, .ref b)) (h5 : lv[i5]? = some (5, .int (Int32.ofNat n))) (hn : n + k < L) (hL : L ≤ 3072)
    (d0 : decode cc pc = .ok (.aload_n 0, 1)) (d1 : decode cc (pc + 1) = .ok (.iload 5, 2)) (d2 : decode cc (pc + 3) = .ok (.iconst kI, 1)) (d3 : decode cc (pc + 4) = .ok (.iadd, 1)) (d4 : decode cc (pc + 5) = .ok (.iaload, 1))
    (kk : W p l e R s m args below meth c H locs cells slots Q (F0 m (pc + 6) ls (.int (xs (n + k)) :: rest))) : W p l e R s m args below meth c H locs cells slots Q (F0 m pc ls rest) := by
  refine lv_aload_n hx hb d0 rfl (lv_at hl i0 h0) ?_
  refine lv_iload hx hb d1 (lv_at hl i5 h5) ?_
  refine lv_iconst (v := Int32.ofNat k) hx hb d2 hkI ?_
  refine lv_iadd hx hb d3 ?_
  have e : Int32.ofNat n + Int32.ofNat k = Int32.ofNat (n + k) := (Int32.ofNat_add n k).symm
  rw [e]
  refine va_sld hx hb hX hbl hbA hS (i32in hn (by omega)) d4 ?_
  rw [i32n (show n + k < 2 ^ 31 by omega)]
  exact kk
theorem sc0 {b L n nL : Nat} {xs : Nat → Int32} {lv : List (Nat × Value)} (i0 i5 : Nat) (hx : p.tables.exec = Jvm.exec) (hb : c.code = cc) (hX : va_X b L xs s s.heap) (hbl : b < s.heap.size) (hbA : ¬ A b) (hS : va_S A s.heap H locs) (hl : lv_has ls nL lv) (h0 : lv[i0]? = some (0, .ref b)) (h5 : lv[i5]? = some (5, .int (Int32.ofNat n))) (hn : n < L) (hL : L ≤ 3072)
    (d0 : decode cc pc = .ok (.aload_n 0, 1)) (d1 : decode cc (pc + 1) = .ok (.iload 5, 2)) (d4 : decode cc (pc + 3) = .ok (.iaload, 1))
    (kk : W p l e R s m args below meth c H locs cells slots Q (F0 m (pc + 4) ls (.int (xs n) :: rest))) : W p l e R s m args below meth c H locs cells slots Q (F0 m pc ls rest) := by
  refine lv_aload_n hx hb d0 rfl (lv_at hl i0 h0) ?_
  refine lv_iload hx hb d1 (lv_at hl i5 h5) ?_
  refine va_sld hx hb hX hbl hbA hS (i32in hn (by omega)) d4 ?_
  rw [i32n (show n < 2 ^ 31 by omega)]
  exact kk
/-- whether a number isn't 0, as a boolean -/
theorem jb {x : Int32} (hx : p.tables.exec = Jvm.exec) (hb : c.code = cc) (d0 : decode cc pc = .ok (.ifCond .eq 7, 3)) (d1 : decode cc (pc + 3) = .ok (.iconst 1, 1)) (d2 : decode cc (pc + 4) = .ok (.goto 4, 3)) (d3 : decode cc (pc + 7) = .ok (.iconst 0, 1))
    (kk : W p l e R s m args below meth c H locs cells slots Q (F0 m (pc + 8) ls (.int (bI (!decide (x = 0))) :: rest))) : W p l e R s m args below meth c H locs cells slots Q (F0 m pc ls (.int x :: rest)) := by
  refine lv_if_eq (tgt := pc + 7) hx hb d0 (by omega) (fun h => ?_) (fun h => ?_)
  · refine lv_iconst (v := (0 : Int32)) hx hb d3 (by decide) ?_
    rw [show bI (!decide (x = 0)) = 0 by rw [h]; rfl] at kk
    exact kk
  · refine lv_iconst (v := (1 : Int32)) hx hb d1 (by decide) ?_
    refine lv_goto (tgt := pc + 8) hx hb d2 (by omega) ?_
    rw [show bI (!decide (x = 0)) = 1 by rw [decide_eq_false h]; rfl] at kk
    exact kk
end LC
theorem dL_law_0 : decode code 0 = .ok (.new 8, 3) := by decide +kernel
theorem dL_law_3 : decode code 3 = .ok (.dup, 1) := by decide +kernel
theorem dL_law_4 : decode code 4 = .ok (.invokespecial 101, 3) := by decide +kernel
theorem dL_law_7 : decode code 7 = .ok (.astore_n 1, 1) := by decide +kernel
theorem dL_law_8 : decode code 8 = .ok (.new 102, 3) := by decide +kernel
theorem dL_law_11 : decode code 11 = .ok (.dup, 1) := by decide +kernel
theorem dL_law_12 : decode code 12 = .ok (.invokespecial 104, 3) := by decide +kernel
theorem dL_law_15 : decode code 15 = .ok (.astore_n 2, 1) := by decide +kernel
theorem dL_law_16 : decode code 16 = .ok (.iconst 1, 1) := by decide +kernel
theorem dL_law_17 : decode code 17 = .ok (.newarray .long, 2) := by decide +kernel
theorem dL_law_19 : decode code 19 = .ok (.astore_n 3, 1) := by decide +kernel
theorem dL_law_20 : decode code 20 = .ok (.iconst 1, 1) := by decide +kernel
theorem dL_law_21 : decode code 21 = .ok (.newarray .double, 2) := by decide +kernel
theorem dL_law_23 : decode code 23 = .ok (.astore 4, 2) := by decide +kernel
theorem dL_law_25 : decode code 25 = .ok (.iconst 0, 1) := by decide +kernel
theorem dL_law_26 : decode code 26 = .ok (.istore 5, 2) := by decide +kernel
theorem dL_law_28 : decode code 28 = .ok (.iload 5, 2) := by decide +kernel
theorem dL_law_30 : decode code 30 = .ok (.aload_n 0, 1) := by decide +kernel
theorem dL_law_31 : decode code 31 = .ok (.arraylength, 1) := by decide +kernel
theorem dL_law_32 : decode code 32 = .ok (.bipush 6, 2) := by decide +kernel
theorem dL_law_34 : decode code 34 = .ok (.isub, 1) := by decide +kernel
theorem dL_law_35 : decode code 35 = .ok (.if_icmp .gt 1855, 3) := by decide +kernel
theorem dL_law_38 : decode code 38 = .ok (.aload_n 0, 1) := by decide +kernel
theorem dL_law_39 : decode code 39 = .ok (.iload 5, 2) := by decide +kernel
theorem dL_law_41 : decode code 41 = .ok (.iaload, 1) := by decide +kernel
theorem dL_law_42 : decode code 42 = .ok (.bipush 31, 2) := by decide +kernel
theorem dL_law_44 : decode code 44 = .ok (.iand, 1) := by decide +kernel
theorem dL_law_45 : decode code 45 = .ok (.tableswitch 1839 0 29 #[135, 239, 295, 308, 364, 432, 536, 619, 687, 815, 871, 939, 1007, 1032, 1076, 1144, 1157, 1201, 1214, 1282, 1337, 1403, 1446, 1514, 1558, 1571, 1627, 1683, 1727, 1783], 135) := by decide +kernel
theorem dL_law_180 : decode code 180 = .ok (.aload_n 1, 1) := by decide +kernel
theorem dL_law_181 : decode code 181 = .ok (.aload_n 0, 1) := by decide +kernel
theorem dL_law_182 : decode code 182 = .ok (.iload 5, 2) := by decide +kernel
theorem dL_law_184 : decode code 184 = .ok (.iconst 1, 1) := by decide +kernel
theorem dL_law_185 : decode code 185 = .ok (.iadd, 1) := by decide +kernel
theorem dL_law_186 : decode code 186 = .ok (.iaload, 1) := by decide +kernel
theorem dL_law_187 : decode code 187 = .ok (.aload_n 0, 1) := by decide +kernel
theorem dL_law_188 : decode code 188 = .ok (.iload 5, 2) := by decide +kernel
theorem dL_law_190 : decode code 190 = .ok (.iconst 2, 1) := by decide +kernel
theorem dL_law_191 : decode code 191 = .ok (.iadd, 1) := by decide +kernel
theorem dL_law_192 : decode code 192 = .ok (.iaload, 1) := by decide +kernel
theorem dL_law_193 : decode code 193 = .ok (.aload_n 0, 1) := by decide +kernel
theorem dL_law_194 : decode code 194 = .ok (.iload 5, 2) := by decide +kernel
theorem dL_law_196 : decode code 196 = .ok (.iconst 3, 1) := by decide +kernel
theorem dL_law_197 : decode code 197 = .ok (.iadd, 1) := by decide +kernel
theorem dL_law_198 : decode code 198 = .ok (.iaload, 1) := by decide +kernel
theorem dL_law_199 : decode code 199 = .ok (.aload_n 0, 1) := by decide +kernel
theorem dL_law_200 : decode code 200 = .ok (.iload 5, 2) := by decide +kernel
theorem dL_law_202 : decode code 202 = .ok (.iconst 4, 1) := by decide +kernel
theorem dL_law_203 : decode code 203 = .ok (.iadd, 1) := by decide +kernel
theorem dL_law_204 : decode code 204 = .ok (.iaload, 1) := by decide +kernel
theorem dL_law_205 : decode code 205 = .ok (.aload_n 0, 1) := by decide +kernel
theorem dL_law_206 : decode code 206 = .ok (.iload 5, 2) := by decide +kernel
theorem dL_law_208 : decode code 208 = .ok (.iconst 5, 1) := by decide +kernel
theorem dL_law_209 : decode code 209 = .ok (.iadd, 1) := by decide +kernel
theorem dL_law_210 : decode code 210 = .ok (.iaload, 1) := by decide +kernel
theorem dL_law_211 : decode code 211 = .ok (.aload_n 3, 1) := by decide +kernel
theorem dL_law_212 : decode code 212 = .ok (.invokestatic 105, 3) := by decide +kernel
theorem dL_law_215 : decode code 215 = .ok (.istore 6, 2) := by decide +kernel
theorem dL_law_217 : decode code 217 = .ok (.aload_n 2, 1) := by decide +kernel
theorem dL_law_218 : decode code 218 = .ok (.aload_n 0, 1) := by decide +kernel
theorem dL_law_219 : decode code 219 = .ok (.iload 5, 2) := by decide +kernel
theorem dL_law_221 : decode code 221 = .ok (.iconst 1, 1) := by decide +kernel
theorem dL_law_222 : decode code 222 = .ok (.iadd, 1) := by decide +kernel
theorem dL_law_223 : decode code 223 = .ok (.iaload, 1) := by decide +kernel
theorem dL_law_224 : decode code 224 = .ok (.aload_n 0, 1) := by decide +kernel
theorem dL_law_225 : decode code 225 = .ok (.iload 5, 2) := by decide +kernel
theorem dL_law_227 : decode code 227 = .ok (.iconst 2, 1) := by decide +kernel
theorem dL_law_228 : decode code 228 = .ok (.iadd, 1) := by decide +kernel
theorem dL_law_229 : decode code 229 = .ok (.iaload, 1) := by decide +kernel
theorem dL_law_230 : decode code 230 = .ok (.aload_n 0, 1) := by decide +kernel
theorem dL_law_231 : decode code 231 = .ok (.iload 5, 2) := by decide +kernel
theorem dL_law_233 : decode code 233 = .ok (.iconst 3, 1) := by decide +kernel
theorem dL_law_234 : decode code 234 = .ok (.iadd, 1) := by decide +kernel
theorem dL_law_235 : decode code 235 = .ok (.iaload, 1) := by decide +kernel
theorem dL_law_236 : decode code 236 = .ok (.aload_n 0, 1) := by decide +kernel
theorem dL_law_237 : decode code 237 = .ok (.iload 5, 2) := by decide +kernel
theorem dL_law_239 : decode code 239 = .ok (.iconst 4, 1) := by decide +kernel
theorem dL_law_240 : decode code 240 = .ok (.iadd, 1) := by decide +kernel
theorem dL_law_241 : decode code 241 = .ok (.iaload, 1) := by decide +kernel
theorem dL_law_242 : decode code 242 = .ok (.aload_n 0, 1) := by decide +kernel
theorem dL_law_243 : decode code 243 = .ok (.iload 5, 2) := by decide +kernel
theorem dL_law_245 : decode code 245 = .ok (.iconst 5, 1) := by decide +kernel
theorem dL_law_246 : decode code 246 = .ok (.iadd, 1) := by decide +kernel
theorem dL_law_247 : decode code 247 = .ok (.iaload, 1) := by decide +kernel
theorem dL_law_248 : decode code 248 = .ok (.invokevirtual 110, 3) := by decide +kernel
theorem dL_law_251 : decode code 251 = .ok (.istore 7, 2) := by decide +kernel
theorem dL_law_253 : decode code 253 = .ok (.aload_n 2, 1) := by decide +kernel
theorem dL_law_254 : decode code 254 = .ok (.invokevirtual 111, 3) := by decide +kernel
theorem dL_law_257 : decode code 257 = .ok (.iload 6, 2) := by decide +kernel
theorem dL_law_259 : decode code 259 = .ok (.if_icmp .eq 5, 3) := by decide +kernel
theorem dL_law_262 : decode code 262 = .ok (.iconst 0, 1) := by decide +kernel
theorem dL_law_263 : decode code 263 = .ok (.ireturn, 1) := by decide +kernel
theorem dL_law_264 : decode code 264 = .ok (.iload 6, 2) := by decide +kernel
theorem dL_law_266 : decode code 266 = .ok (.ifCond .ne 15, 3) := by decide +kernel
theorem dL_law_269 : decode code 269 = .ok (.aload_n 3, 1) := by decide +kernel
theorem dL_law_270 : decode code 270 = .ok (.iconst 0, 1) := by decide +kernel
theorem dL_law_271 : decode code 271 = .ok (.laload, 1) := by decide +kernel
theorem dL_law_272 : decode code 272 = .ok (.iload 7, 2) := by decide +kernel
theorem dL_law_274 : decode code 274 = .ok (.i2l, 1) := by decide +kernel
theorem dL_law_275 : decode code 275 = .ok (.lcmp, 1) := by decide +kernel
theorem dL_law_276 : decode code 276 = .ok (.ifCond .eq 5, 3) := by decide +kernel
theorem dL_law_279 : decode code 279 = .ok (.iconst 0, 1) := by decide +kernel
theorem dL_law_280 : decode code 280 = .ok (.ireturn, 1) := by decide +kernel
theorem dL_law_281 : decode code 281 = .ok (.goto 1603, 3) := by decide +kernel
theorem dL_law_284 : decode code 284 = .ok (.aload_n 1, 1) := by decide +kernel
theorem dL_law_285 : decode code 285 = .ok (.aload_n 0, 1) := by decide +kernel
theorem dL_law_286 : decode code 286 = .ok (.iload 5, 2) := by decide +kernel
theorem dL_law_288 : decode code 288 = .ok (.iconst 1, 1) := by decide +kernel
theorem dL_law_289 : decode code 289 = .ok (.iadd, 1) := by decide +kernel
theorem dL_law_290 : decode code 290 = .ok (.iaload, 1) := by decide +kernel
theorem dL_law_291 : decode code 291 = .ok (.aload_n 3, 1) := by decide +kernel
theorem dL_law_292 : decode code 292 = .ok (.invokestatic 114, 3) := by decide +kernel
theorem dL_law_295 : decode code 295 = .ok (.istore 6, 2) := by decide +kernel
theorem dL_law_297 : decode code 297 = .ok (.aload_n 2, 1) := by decide +kernel
theorem dL_law_298 : decode code 298 = .ok (.aload_n 0, 1) := by decide +kernel
theorem dL_law_299 : decode code 299 = .ok (.iload 5, 2) := by decide +kernel
theorem dL_law_301 : decode code 301 = .ok (.iconst 1, 1) := by decide +kernel
theorem dL_law_302 : decode code 302 = .ok (.iadd, 1) := by decide +kernel
theorem dL_law_303 : decode code 303 = .ok (.iaload, 1) := by decide +kernel
theorem dL_law_304 : decode code 304 = .ok (.invokevirtual 117, 3) := by decide +kernel
theorem dL_law_307 : decode code 307 = .ok (.istore 7, 2) := by decide +kernel
theorem dL_law_309 : decode code 309 = .ok (.aload_n 2, 1) := by decide +kernel
theorem dL_law_310 : decode code 310 = .ok (.invokevirtual 111, 3) := by decide +kernel
theorem dL_law_313 : decode code 313 = .ok (.iload 6, 2) := by decide +kernel
theorem dL_law_315 : decode code 315 = .ok (.if_icmp .eq 5, 3) := by decide +kernel
theorem dL_law_318 : decode code 318 = .ok (.iconst 0, 1) := by decide +kernel
theorem dL_law_319 : decode code 319 = .ok (.ireturn, 1) := by decide +kernel
theorem dL_law_320 : decode code 320 = .ok (.iload 6, 2) := by decide +kernel
theorem dL_law_322 : decode code 322 = .ok (.ifCond .ne 15, 3) := by decide +kernel
theorem dL_law_325 : decode code 325 = .ok (.aload_n 3, 1) := by decide +kernel
theorem dL_law_326 : decode code 326 = .ok (.iconst 0, 1) := by decide +kernel
theorem dL_law_327 : decode code 327 = .ok (.laload, 1) := by decide +kernel
theorem dL_law_328 : decode code 328 = .ok (.iload 7, 2) := by decide +kernel
theorem dL_law_330 : decode code 330 = .ok (.i2l, 1) := by decide +kernel
theorem dL_law_331 : decode code 331 = .ok (.lcmp, 1) := by decide +kernel
theorem dL_law_332 : decode code 332 = .ok (.ifCond .eq 5, 3) := by decide +kernel
theorem dL_law_335 : decode code 335 = .ok (.iconst 0, 1) := by decide +kernel
theorem dL_law_336 : decode code 336 = .ok (.ireturn, 1) := by decide +kernel
theorem dL_law_337 : decode code 337 = .ok (.goto 1547, 3) := by decide +kernel
theorem dL_law_340 : decode code 340 = .ok (.aload_n 1, 1) := by decide +kernel
theorem dL_law_341 : decode code 341 = .ok (.invokevirtual 118, 3) := by decide +kernel
theorem dL_law_344 : decode code 344 = .ok (.aload_n 2, 1) := by decide +kernel
theorem dL_law_345 : decode code 345 = .ok (.invokevirtual 121, 3) := by decide +kernel
theorem dL_law_348 : decode code 348 = .ok (.if_icmp .eq 1536, 3) := by decide +kernel
theorem dL_law_351 : decode code 351 = .ok (.iconst 0, 1) := by decide +kernel
theorem dL_law_352 : decode code 352 = .ok (.ireturn, 1) := by decide +kernel
theorem dL_law_353 : decode code 353 = .ok (.aload_n 1, 1) := by decide +kernel
theorem dL_law_354 : decode code 354 = .ok (.aload_n 0, 1) := by decide +kernel
theorem dL_law_355 : decode code 355 = .ok (.iload 5, 2) := by decide +kernel
theorem dL_law_357 : decode code 357 = .ok (.iconst 1, 1) := by decide +kernel
theorem dL_law_358 : decode code 358 = .ok (.iadd, 1) := by decide +kernel
theorem dL_law_359 : decode code 359 = .ok (.iaload, 1) := by decide +kernel
theorem dL_law_360 : decode code 360 = .ok (.aload_n 3, 1) := by decide +kernel
theorem dL_law_361 : decode code 361 = .ok (.invokestatic 122, 3) := by decide +kernel
theorem dL_law_364 : decode code 364 = .ok (.istore 6, 2) := by decide +kernel
theorem dL_law_366 : decode code 366 = .ok (.aload_n 2, 1) := by decide +kernel
theorem dL_law_367 : decode code 367 = .ok (.aload_n 0, 1) := by decide +kernel
theorem dL_law_368 : decode code 368 = .ok (.iload 5, 2) := by decide +kernel
theorem dL_law_370 : decode code 370 = .ok (.iconst 1, 1) := by decide +kernel
theorem dL_law_371 : decode code 371 = .ok (.iadd, 1) := by decide +kernel
theorem dL_law_372 : decode code 372 = .ok (.iaload, 1) := by decide +kernel
theorem dL_law_373 : decode code 373 = .ok (.invokevirtual 124, 3) := by decide +kernel
theorem dL_law_376 : decode code 376 = .ok (.istore 7, 2) := by decide +kernel
theorem dL_law_378 : decode code 378 = .ok (.aload_n 2, 1) := by decide +kernel
theorem dL_law_379 : decode code 379 = .ok (.invokevirtual 111, 3) := by decide +kernel
theorem dL_law_382 : decode code 382 = .ok (.iload 6, 2) := by decide +kernel
theorem dL_law_384 : decode code 384 = .ok (.if_icmp .eq 5, 3) := by decide +kernel
theorem dL_law_387 : decode code 387 = .ok (.iconst 0, 1) := by decide +kernel
theorem dL_law_388 : decode code 388 = .ok (.ireturn, 1) := by decide +kernel
theorem dL_law_389 : decode code 389 = .ok (.iload 6, 2) := by decide +kernel
theorem dL_law_391 : decode code 391 = .ok (.ifCond .ne 15, 3) := by decide +kernel
theorem dL_law_394 : decode code 394 = .ok (.aload_n 3, 1) := by decide +kernel
theorem dL_law_395 : decode code 395 = .ok (.iconst 0, 1) := by decide +kernel
theorem dL_law_396 : decode code 396 = .ok (.laload, 1) := by decide +kernel
theorem dL_law_397 : decode code 397 = .ok (.iload 7, 2) := by decide +kernel
theorem dL_law_399 : decode code 399 = .ok (.i2l, 1) := by decide +kernel
theorem dL_law_400 : decode code 400 = .ok (.lcmp, 1) := by decide +kernel
theorem dL_law_401 : decode code 401 = .ok (.ifCond .eq 5, 3) := by decide +kernel
theorem dL_law_404 : decode code 404 = .ok (.iconst 0, 1) := by decide +kernel
theorem dL_law_405 : decode code 405 = .ok (.ireturn, 1) := by decide +kernel
theorem dL_law_406 : decode code 406 = .ok (.goto 1478, 3) := by decide +kernel
theorem dL_law_409 : decode code 409 = .ok (.aload_n 1, 1) := by decide +kernel
theorem dL_law_410 : decode code 410 = .ok (.aload_n 0, 1) := by decide +kernel
theorem dL_law_411 : decode code 411 = .ok (.iload 5, 2) := by decide +kernel
theorem dL_law_413 : decode code 413 = .ok (.iconst 1, 1) := by decide +kernel
theorem dL_law_414 : decode code 414 = .ok (.iadd, 1) := by decide +kernel
theorem dL_law_415 : decode code 415 = .ok (.iaload, 1) := by decide +kernel
theorem dL_law_416 : decode code 416 = .ok (.aload_n 0, 1) := by decide +kernel
theorem dL_law_417 : decode code 417 = .ok (.iload 5, 2) := by decide +kernel
theorem dL_law_419 : decode code 419 = .ok (.iconst 2, 1) := by decide +kernel
theorem dL_law_420 : decode code 420 = .ok (.iadd, 1) := by decide +kernel
theorem dL_law_421 : decode code 421 = .ok (.iaload, 1) := by decide +kernel
theorem dL_law_422 : decode code 422 = .ok (.aload_n 3, 1) := by decide +kernel
theorem dL_law_423 : decode code 423 = .ok (.invokestatic 125, 3) := by decide +kernel
theorem dL_law_426 : decode code 426 = .ok (.istore 6, 2) := by decide +kernel
theorem dL_law_428 : decode code 428 = .ok (.aload_n 2, 1) := by decide +kernel
theorem dL_law_429 : decode code 429 = .ok (.aload_n 0, 1) := by decide +kernel
theorem dL_law_430 : decode code 430 = .ok (.iload 5, 2) := by decide +kernel
theorem dL_law_432 : decode code 432 = .ok (.iconst 1, 1) := by decide +kernel
theorem dL_law_433 : decode code 433 = .ok (.iadd, 1) := by decide +kernel
theorem dL_law_434 : decode code 434 = .ok (.iaload, 1) := by decide +kernel
theorem dL_law_435 : decode code 435 = .ok (.aload_n 0, 1) := by decide +kernel
theorem dL_law_436 : decode code 436 = .ok (.iload 5, 2) := by decide +kernel
theorem dL_law_438 : decode code 438 = .ok (.iconst 2, 1) := by decide +kernel
theorem dL_law_439 : decode code 439 = .ok (.iadd, 1) := by decide +kernel
theorem dL_law_440 : decode code 440 = .ok (.iaload, 1) := by decide +kernel
theorem dL_law_441 : decode code 441 = .ok (.invokevirtual 128, 3) := by decide +kernel
theorem dL_law_444 : decode code 444 = .ok (.istore 7, 2) := by decide +kernel
theorem dL_law_446 : decode code 446 = .ok (.aload_n 2, 1) := by decide +kernel
theorem dL_law_447 : decode code 447 = .ok (.invokevirtual 111, 3) := by decide +kernel
theorem dL_law_450 : decode code 450 = .ok (.iload 6, 2) := by decide +kernel
theorem dL_law_452 : decode code 452 = .ok (.if_icmp .eq 5, 3) := by decide +kernel
theorem dL_law_455 : decode code 455 = .ok (.iconst 0, 1) := by decide +kernel
theorem dL_law_456 : decode code 456 = .ok (.ireturn, 1) := by decide +kernel
theorem dL_law_457 : decode code 457 = .ok (.iload 6, 2) := by decide +kernel
theorem dL_law_459 : decode code 459 = .ok (.ifCond .ne 15, 3) := by decide +kernel
theorem dL_law_462 : decode code 462 = .ok (.aload_n 3, 1) := by decide +kernel
theorem dL_law_463 : decode code 463 = .ok (.iconst 0, 1) := by decide +kernel
theorem dL_law_464 : decode code 464 = .ok (.laload, 1) := by decide +kernel
theorem dL_law_465 : decode code 465 = .ok (.iload 7, 2) := by decide +kernel
theorem dL_law_467 : decode code 467 = .ok (.i2l, 1) := by decide +kernel
theorem dL_law_468 : decode code 468 = .ok (.lcmp, 1) := by decide +kernel
theorem dL_law_469 : decode code 469 = .ok (.ifCond .eq 5, 3) := by decide +kernel
theorem dL_law_472 : decode code 472 = .ok (.iconst 0, 1) := by decide +kernel
theorem dL_law_473 : decode code 473 = .ok (.ireturn, 1) := by decide +kernel
theorem dL_law_474 : decode code 474 = .ok (.goto 1410, 3) := by decide +kernel
theorem dL_law_477 : decode code 477 = .ok (.aload_n 1, 1) := by decide +kernel
theorem dL_law_478 : decode code 478 = .ok (.aload_n 0, 1) := by decide +kernel
theorem dL_law_479 : decode code 479 = .ok (.iload 5, 2) := by decide +kernel
theorem dL_law_481 : decode code 481 = .ok (.iconst 1, 1) := by decide +kernel
theorem dL_law_482 : decode code 482 = .ok (.iadd, 1) := by decide +kernel
theorem dL_law_483 : decode code 483 = .ok (.iaload, 1) := by decide +kernel
theorem dL_law_484 : decode code 484 = .ok (.aload_n 0, 1) := by decide +kernel
theorem dL_law_485 : decode code 485 = .ok (.iload 5, 2) := by decide +kernel
theorem dL_law_487 : decode code 487 = .ok (.iconst 2, 1) := by decide +kernel
theorem dL_law_488 : decode code 488 = .ok (.iadd, 1) := by decide +kernel
theorem dL_law_489 : decode code 489 = .ok (.iaload, 1) := by decide +kernel
theorem dL_law_490 : decode code 490 = .ok (.aload_n 0, 1) := by decide +kernel
theorem dL_law_491 : decode code 491 = .ok (.iload 5, 2) := by decide +kernel
theorem dL_law_493 : decode code 493 = .ok (.iconst 3, 1) := by decide +kernel
theorem dL_law_494 : decode code 494 = .ok (.iadd, 1) := by decide +kernel
theorem dL_law_495 : decode code 495 = .ok (.iaload, 1) := by decide +kernel
theorem dL_law_496 : decode code 496 = .ok (.aload_n 0, 1) := by decide +kernel
theorem dL_law_497 : decode code 497 = .ok (.iload 5, 2) := by decide +kernel
theorem dL_law_499 : decode code 499 = .ok (.iconst 4, 1) := by decide +kernel
theorem dL_law_500 : decode code 500 = .ok (.iadd, 1) := by decide +kernel
theorem dL_law_501 : decode code 501 = .ok (.iaload, 1) := by decide +kernel
theorem dL_law_502 : decode code 502 = .ok (.aload_n 0, 1) := by decide +kernel
theorem dL_law_503 : decode code 503 = .ok (.iload 5, 2) := by decide +kernel
theorem dL_law_505 : decode code 505 = .ok (.iconst 5, 1) := by decide +kernel
theorem dL_law_506 : decode code 506 = .ok (.iadd, 1) := by decide +kernel
theorem dL_law_507 : decode code 507 = .ok (.iaload, 1) := by decide +kernel
theorem dL_law_508 : decode code 508 = .ok (.aload_n 3, 1) := by decide +kernel
theorem dL_law_509 : decode code 509 = .ok (.invokestatic 129, 3) := by decide +kernel
theorem dL_law_512 : decode code 512 = .ok (.istore 6, 2) := by decide +kernel
theorem dL_law_514 : decode code 514 = .ok (.aload_n 2, 1) := by decide +kernel
theorem dL_law_515 : decode code 515 = .ok (.aload_n 0, 1) := by decide +kernel
theorem dL_law_516 : decode code 516 = .ok (.iload 5, 2) := by decide +kernel
theorem dL_law_518 : decode code 518 = .ok (.iconst 1, 1) := by decide +kernel
theorem dL_law_519 : decode code 519 = .ok (.iadd, 1) := by decide +kernel
theorem dL_law_520 : decode code 520 = .ok (.iaload, 1) := by decide +kernel
theorem dL_law_521 : decode code 521 = .ok (.aload_n 0, 1) := by decide +kernel
theorem dL_law_522 : decode code 522 = .ok (.iload 5, 2) := by decide +kernel
theorem dL_law_524 : decode code 524 = .ok (.iconst 2, 1) := by decide +kernel
theorem dL_law_525 : decode code 525 = .ok (.iadd, 1) := by decide +kernel
theorem dL_law_526 : decode code 526 = .ok (.iaload, 1) := by decide +kernel
theorem dL_law_527 : decode code 527 = .ok (.aload_n 0, 1) := by decide +kernel
theorem dL_law_528 : decode code 528 = .ok (.iload 5, 2) := by decide +kernel
theorem dL_law_530 : decode code 530 = .ok (.iconst 3, 1) := by decide +kernel
theorem dL_law_531 : decode code 531 = .ok (.iadd, 1) := by decide +kernel
theorem dL_law_532 : decode code 532 = .ok (.iaload, 1) := by decide +kernel
theorem dL_law_533 : decode code 533 = .ok (.aload_n 0, 1) := by decide +kernel
theorem dL_law_534 : decode code 534 = .ok (.iload 5, 2) := by decide +kernel
theorem dL_law_536 : decode code 536 = .ok (.iconst 4, 1) := by decide +kernel
theorem dL_law_537 : decode code 537 = .ok (.iadd, 1) := by decide +kernel
theorem dL_law_538 : decode code 538 = .ok (.iaload, 1) := by decide +kernel
theorem dL_law_539 : decode code 539 = .ok (.aload_n 0, 1) := by decide +kernel
theorem dL_law_540 : decode code 540 = .ok (.iload 5, 2) := by decide +kernel
theorem dL_law_542 : decode code 542 = .ok (.iconst 5, 1) := by decide +kernel
theorem dL_law_543 : decode code 543 = .ok (.iadd, 1) := by decide +kernel
theorem dL_law_544 : decode code 544 = .ok (.iaload, 1) := by decide +kernel
theorem dL_law_545 : decode code 545 = .ok (.invokevirtual 131, 3) := by decide +kernel
theorem dL_law_548 : decode code 548 = .ok (.istore 7, 2) := by decide +kernel
theorem dL_law_550 : decode code 550 = .ok (.aload_n 2, 1) := by decide +kernel
theorem dL_law_551 : decode code 551 = .ok (.invokevirtual 111, 3) := by decide +kernel
theorem dL_law_554 : decode code 554 = .ok (.iload 6, 2) := by decide +kernel
theorem dL_law_556 : decode code 556 = .ok (.if_icmp .eq 5, 3) := by decide +kernel
theorem dL_law_559 : decode code 559 = .ok (.iconst 0, 1) := by decide +kernel
theorem dL_law_560 : decode code 560 = .ok (.ireturn, 1) := by decide +kernel
theorem dL_law_561 : decode code 561 = .ok (.iload 6, 2) := by decide +kernel
theorem dL_law_563 : decode code 563 = .ok (.ifCond .ne 15, 3) := by decide +kernel
theorem dL_law_566 : decode code 566 = .ok (.aload_n 3, 1) := by decide +kernel
theorem dL_law_567 : decode code 567 = .ok (.iconst 0, 1) := by decide +kernel
theorem dL_law_568 : decode code 568 = .ok (.laload, 1) := by decide +kernel
theorem dL_law_569 : decode code 569 = .ok (.iload 7, 2) := by decide +kernel
theorem dL_law_571 : decode code 571 = .ok (.i2l, 1) := by decide +kernel
theorem dL_law_572 : decode code 572 = .ok (.lcmp, 1) := by decide +kernel
theorem dL_law_573 : decode code 573 = .ok (.ifCond .eq 5, 3) := by decide +kernel
theorem dL_law_576 : decode code 576 = .ok (.iconst 0, 1) := by decide +kernel
theorem dL_law_577 : decode code 577 = .ok (.ireturn, 1) := by decide +kernel
theorem dL_law_578 : decode code 578 = .ok (.goto 1306, 3) := by decide +kernel
theorem dL_law_581 : decode code 581 = .ok (.aload_n 1, 1) := by decide +kernel
theorem dL_law_582 : decode code 582 = .ok (.aload_n 0, 1) := by decide +kernel
theorem dL_law_583 : decode code 583 = .ok (.iload 5, 2) := by decide +kernel
theorem dL_law_585 : decode code 585 = .ok (.iconst 1, 1) := by decide +kernel
theorem dL_law_586 : decode code 586 = .ok (.iadd, 1) := by decide +kernel
theorem dL_law_587 : decode code 587 = .ok (.iaload, 1) := by decide +kernel
theorem dL_law_588 : decode code 588 = .ok (.aload_n 0, 1) := by decide +kernel
theorem dL_law_589 : decode code 589 = .ok (.iload 5, 2) := by decide +kernel
theorem dL_law_591 : decode code 591 = .ok (.iconst 2, 1) := by decide +kernel
theorem dL_law_592 : decode code 592 = .ok (.iadd, 1) := by decide +kernel
theorem dL_law_593 : decode code 593 = .ok (.iaload, 1) := by decide +kernel
theorem dL_law_594 : decode code 594 = .ok (.ifCond .eq 7, 3) := by decide +kernel
theorem dL_law_597 : decode code 597 = .ok (.iconst 1, 1) := by decide +kernel
theorem dL_law_598 : decode code 598 = .ok (.goto 4, 3) := by decide +kernel
