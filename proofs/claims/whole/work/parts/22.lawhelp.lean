theorem kgg2 {y' : MethodName} {c' : ByteArray} {n' : Nat} {r' : Option FieldType} (h : Cond.code y' c' n' r' ∈ lw_g) : GoodIn lw_g (Cond.code y' c' n' r' :: lw_g) := by
  intro w hw
  rcases List.mem_cons.mp hw with rfl | hw
  · exact ⟨h, good_of_word (List.mem_filter.mp h).2⟩
  · exact ⟨hw, good_of_word (List.mem_filter.mp hw).2⟩
theorem mtw {l : Launch} {y : MethodName} {rm : Room} {cc : ByteArray} {maxL : Nat} {ret : Option FieldType} {hh : List (Nat × Nat × Nat × Nat)} {av : List Value} {G : Gp} {w : va_W} {sz : Nat} {Qc : (Nat → Prop) → Array Value → State → Outcome → State → Prop} {mc ms : Nat}
    (hy : plainName y.cls = true) (hn : (lg_sl av).length ≤ maxL)
    (body : ∀ (p : Program) (e : Env) (s : State) (m : MethodId) (below : List Frame) (meth : Method) (c : Code) (A : Nat → Prop) (ls : Array Slot), p.tables.exec = Jvm.exec → c.code = cc → meth.sig.returnType = ret → meth.locks = false → c.maxLocals = maxL → c.exceptionTable.toList = tableOf hh → (∀ w ∈ Cond.codeWith y cc maxL ret hh :: lw_g, w.before av.toArray s = true) → s.vm.findClass y.cls = some m.cls → (∀ q : Nat, s.heap.size ≤ q → A q) → va_P (gD G) vwCl w s.heap → va_K (gD G) vwCl (gT G) s → va_D A w → Ev (gE G) A s → va_S A s.heap s.heap [] → lv_has ls maxL (lv_args 0 av) →
      W p l e rm s m av.toArray below meth c s.heap [] 0 0 (MQ below (Qc A) av.toArray s mc ms A) (F0 m 0 ls [])) :
    Met l y (Cond.codeWith y cc maxL ret hh :: lw_g) rm (va_Pc av (pw G w sz)) (Qc (va_A w sz)) mc ms (va_A w sz) := by
  refine MetFree.of_bodyS (code := cc) (maxLocals := maxL) (ret := ret) hy ?_ ?_
  · intro args s m h hn
    obtain ⟨m9, meth, c, hn9, h1, h2, h3, h4, -, h5, h6, -⟩ := Cond.codeWith_spec (atoms_spec (ws := Cond.codeWith y cc maxL ret hh :: lw_g) h _ List.mem_cons_self)
    cases hn.symm.trans hn9
    exact ⟨meth, c, h1, h2, h3, h4, h5, h6⟩
  · intro p e s m args below meth c s₁ B hml hv _
    have hh0 : s₁.heap = s.heap := by rw [B.state]; rfl
    obtain ⟨rfl, hsz, hP, hK, hD0, hE⟩ := hv
    subst hsz
    have hD := hD0.self (sz := s.heap.size)
    have hts := atoms_spec (ws := Cond.codeWith y cc maxL ret hh :: lw_g) B.pre
    have htb := vx_table (x := y) B (hts _ List.mem_cons_self)
    have K : W p l e rm s m av.toArray below meth c s.heap [] 0 0 (MQ below (Qc (va_A w s.heap.size)) av.toArray s mc ms (va_A w s.heap.size)) (entryFrame m av.toArray maxL) := by
      rw [lg_entry_eq]
      exact body p e s m below meth c (va_A w s.heap.size) _ B.exec B.bytes B.returns B.notSynchronized hml htb hts (findClass_of_methodNamed B.named) (fun q h => Or.inr h) hP hK hD hE va_S.rf (lv_entry av hn)
    obtain ⟨t, a1, o, b1, b2, b3⟩ := K s₁ hh0 (Stand.of_body B)
    exact ⟨t, o, a1, b1, b2, b3⟩
section XW
variable {p : Program} {l : Launch} {e : Env} {R : Room} {s : State} {m : MethodId} {args : Array Value} {below : List Frame} {meth : Method} {c : Code} {H : Heap} {locs : List Loc} {cells slots : Nat} {Q : State → Prop}
variable {cc : ByteArray} {pc : Nat} {ls : Array Slot} {rest : List Value} {A : Nat → Prop} {G : Gp}
theorem kXi {S : Type} {post : Int32 → S → Prop} {px : Nat × S → Prop} {wc wr ws : va_W} {b : Nat} {wf : S → va_W} {y2 : MethodName} {c2 : ByteArray} {n2 nL idx : Nat} {own : String} {rm : Room} {As : List Value} (hS0 : CallFix p m c cc nL s args lw_g own)
    (hM : vx_Met l y2 (Cond.code y2 c2 n2 (some .int) :: lw_g) rm (va_Pc (.ref b :: As) (pw G wc H.size)) (va_Qi post (bw G wf (va_A wc H.size)) (va_A wc H.size)) (XQ px G wf (va_A wc H.size)) 1 6 (va_A wc H.size))
    (kl : Cond.methodLink own idx y2 ∈ lw_g) (kc : Cond.instanceMethod y2 ∈ lw_g ∧ Cond.selects y2.cls y2 y2 ∈ lw_g ∧ Cond.initialized y2.cls ∈ lw_g ∧ Cond.code y2 c2 n2 (some .int) ∈ lw_g ∧ y2.cls ≠ "java/lang/invoke/MethodHandle" ∧ y2.cls ≠ "java/lang/invoke/VarHandle" ∧ (parseMethodDescriptor y2.desc).map (fun d => d.parameters.length) = some As.length) (hrm : rm.cells = 1 ∧ rm.slots = 6 ∧ rm.frames + 1 ≤ R.frames ∧ 8 + (n2 + 11) + rm.locals ≤ R.locals)
    {T : u_T} {N ci : Nat} {fs : List Value} (q0 : Nat) (hci : vwCl[ci]? = some (y2.cls, T, N)) (hq0 : wc[q0]? = some (b, .inr (ci, fs)))
    (hP : va_P (gD G) vwCl ws H) (hK : va_K (gD G) vwCl (gT G) s) (hD : va_D A ws) (hE : Ev (gE G) A s) (hS : va_S A s.heap H locs) (hA : ∀ q : Nat, s.heap.size ≤ q → A q) {out : S → va_W} (hp : ws.Perm (wc ++ wr)) (ho : ∀ u, (wf u ++ wr).Perm (out u)) (hls : ls.size = nL) (hW : (rest.map fun v => v.category).sum ≤ 8) (hcs : cells + 1 ≤ R.cells ∧ slots + 6 ≤ R.slots) (hdg : decode cc pc = .ok (.invokevirtual idx, 3))
    (kx : ∀ (k : Nat) (E : String) (u : S) (q9 : Nat) (ce : Cell) (H1 : Heap) (locs1 : List Loc), exL[k]? = some E → px (k, u) → va_P (gD G) vwCl (out u) H1 → va_D A (out u) → va_S A s.heap H1 locs1 → H1[q9]? = some ce → ce.vm = .none → s.vm.findClass E = some ce.cls → vx_W p l e R s m args below meth c H1 locs1 (cells + 1) (slots + 6) Q (F0 m pc ls rest) q9)
    (kk : ∀ (r : Int32) (u : S) (H1 : Heap) (locs1 : List Loc), post r u → va_P (gD G) vwCl (out u) H1 → va_D A (out u) → va_S A s.heap H1 locs1 → W p l e R s m args below meth c H1 locs1 (cells + 1) (slots + 6) Q (F0 m (pc + 3) ls (.int r :: rest))) :
    W p l e R s m args below meth c H locs cells slots Q (F0 m pc ls (As.reverse ++ .ref b :: rest)) := by
  have hPp := va_P_perm hP hp
  have hDp := va_D_perm hD hp
  have hPc : va_P (gD G) vwCl wc H := va_P_mem hPp fun q hq => List.mem_append_left _ hq
  have hDc := va_D_l hDp
  have hF : ∀ q, va_A wc H.size q → A q := fun q h => h.elim (fun ⟨k, e, h⟩ => hDc.2 k (q, e) h) (fun h => hA q (Nat.le_trans hS.1 h))
  have hg := hS0.2.2.2.2
  refine vx_calli (vx_runV (C := y2.cls) (As := As) (rest := rest) hS0 hM ⟨callB_of As.length hg (kgg2 kc.2.2.2.1) rfl hrm.1 hrm.2.1 (hg _ kc.2.2.1) (hg _ kl) kc.2.2.2.2 hrm.2.2, hg _ kc.1, hg _ kc.2.1⟩ ⟨pw_blind, va_recv hK hPc hci hq0, fun U hU hW => pw_pre (ws := wc) hPc hDc hK hE hS hF hU hW⟩ rfl rfl hls rfl (lv_room hW) hdg hcs) hS (fun q _ h => hF q h) hF (fun q _ h => hF q h)
    (fun E ce q9 u t H1 locs1 ht hvm hw hB hz1 hk1 hS1 h1 h2 h3 => ?_) (fun r u t H1 locs1 ht hvm hw hB hz1 hk1 hS1 => ?_)
  · obtain ⟨hkE, hP1, hK1, hD1⟩ := hB
    rw [ht] at hP1
    obtain ⟨hP2, hD2⟩ := joinA hPp hDp hk1 hF hP1 hD1
    exact kx u.1 E u.2 q9 ce H1 locs1 hkE hw (va_P_perm hP2 (ho u.2)) (va_D_perm hD2 (ho u.2)) hS1 h1 h2 h3
  · obtain ⟨hP1, hK1, hD1⟩ := hB
    rw [ht] at hP1
    obtain ⟨hP2, hD2⟩ := joinA hPp hDp hk1 hF hP1 hD1
    exact kk r u H1 locs1 hw (va_P_perm hP2 (ho u)) (va_D_perm hD2 (ho u)) hS1
theorem kXl {S : Type} {post : Int64 → S → Prop} {px : Nat × S → Prop} {wc wr ws : va_W} {b : Nat} {wf : S → va_W} {y2 : MethodName} {c2 : ByteArray} {n2 nL idx : Nat} {own : String} {rm : Room} {As : List Value} (hS0 : CallFix p m c cc nL s args lw_g own)
    (hM : vx_Met l y2 (Cond.code y2 c2 n2 (some .long) :: lw_g) rm (va_Pc (.ref b :: As) (pw G wc H.size)) (va_Ql post (bw G wf (va_A wc H.size)) (va_A wc H.size)) (XQ px G wf (va_A wc H.size)) 1 6 (va_A wc H.size))
    (kl : Cond.methodLink own idx y2 ∈ lw_g) (kc : Cond.instanceMethod y2 ∈ lw_g ∧ Cond.selects y2.cls y2 y2 ∈ lw_g ∧ Cond.initialized y2.cls ∈ lw_g ∧ Cond.code y2 c2 n2 (some .long) ∈ lw_g ∧ y2.cls ≠ "java/lang/invoke/MethodHandle" ∧ y2.cls ≠ "java/lang/invoke/VarHandle" ∧ (parseMethodDescriptor y2.desc).map (fun d => d.parameters.length) = some As.length) (hrm : rm.cells = 1 ∧ rm.slots = 6 ∧ rm.frames + 1 ≤ R.frames ∧ 8 + (n2 + 11) + rm.locals ≤ R.locals)
    {T : u_T} {N ci : Nat} {fs : List Value} (q0 : Nat) (hci : vwCl[ci]? = some (y2.cls, T, N)) (hq0 : wc[q0]? = some (b, .inr (ci, fs)))
    (hP : va_P (gD G) vwCl ws H) (hK : va_K (gD G) vwCl (gT G) s) (hD : va_D A ws) (hE : Ev (gE G) A s) (hS : va_S A s.heap H locs) (hA : ∀ q : Nat, s.heap.size ≤ q → A q) {out : S → va_W} (hp : ws.Perm (wc ++ wr)) (ho : ∀ u, (wf u ++ wr).Perm (out u)) (hls : ls.size = nL) (hW : (rest.map fun v => v.category).sum ≤ 8) (hcs : cells + 1 ≤ R.cells ∧ slots + 6 ≤ R.slots) (hdg : decode cc pc = .ok (.invokevirtual idx, 3))
    (kx : ∀ (k : Nat) (E : String) (u : S) (q9 : Nat) (ce : Cell) (H1 : Heap) (locs1 : List Loc), exL[k]? = some E → px (k, u) → va_P (gD G) vwCl (out u) H1 → va_D A (out u) → va_S A s.heap H1 locs1 → H1[q9]? = some ce → ce.vm = .none → s.vm.findClass E = some ce.cls → vx_W p l e R s m args below meth c H1 locs1 (cells + 1) (slots + 6) Q (F0 m pc ls rest) q9)
    (kk : ∀ (r : Int64) (u : S) (H1 : Heap) (locs1 : List Loc), post r u → va_P (gD G) vwCl (out u) H1 → va_D A (out u) → va_S A s.heap H1 locs1 → W p l e R s m args below meth c H1 locs1 (cells + 1) (slots + 6) Q (F0 m (pc + 3) ls (.long r :: rest))) :
    W p l e R s m args below meth c H locs cells slots Q (F0 m pc ls (As.reverse ++ .ref b :: rest)) := by
  have hPp := va_P_perm hP hp
  have hDp := va_D_perm hD hp
  have hPc : va_P (gD G) vwCl wc H := va_P_mem hPp fun q hq => List.mem_append_left _ hq
  have hDc := va_D_l hDp
  have hF : ∀ q, va_A wc H.size q → A q := fun q h => h.elim (fun ⟨k, e, h⟩ => hDc.2 k (q, e) h) (fun h => hA q (Nat.le_trans hS.1 h))
  have hg := hS0.2.2.2.2
  refine vx_calll (vx_runV (C := y2.cls) (As := As) (rest := rest) hS0 hM ⟨callB_of As.length hg (kgg2 kc.2.2.2.1) rfl hrm.1 hrm.2.1 (hg _ kc.2.2.1) (hg _ kl) kc.2.2.2.2 hrm.2.2, hg _ kc.1, hg _ kc.2.1⟩ ⟨pw_blind, va_recv hK hPc hci hq0, fun U hU hW => pw_pre (ws := wc) hPc hDc hK hE hS hF hU hW⟩ rfl rfl hls rfl (lv_room hW) hdg hcs) hS (fun q _ h => hF q h) hF (fun q _ h => hF q h)
    (fun E ce q9 u t H1 locs1 ht hvm hw hB hz1 hk1 hS1 h1 h2 h3 => ?_) (fun r u t H1 locs1 ht hvm hw hB hz1 hk1 hS1 => ?_)
  · obtain ⟨hkE, hP1, hK1, hD1⟩ := hB
    rw [ht] at hP1
    obtain ⟨hP2, hD2⟩ := joinA hPp hDp hk1 hF hP1 hD1
    exact kx u.1 E u.2 q9 ce H1 locs1 hkE hw (va_P_perm hP2 (ho u.2)) (va_D_perm hD2 (ho u.2)) hS1 h1 h2 h3
  · obtain ⟨hP1, hK1, hD1⟩ := hB
    rw [ht] at hP1
    obtain ⟨hP2, hD2⟩ := joinA hPp hDp hk1 hF hP1 hD1
    exact kk r u H1 locs1 hw (va_P_perm hP2 (ho u)) (va_D_perm hD2 (ho u)) hS1
theorem kXf {S : Type} {post : UInt32 → S → Prop} {px : Nat × S → Prop} {wc wr ws : va_W} {b : Nat} {wf : S → va_W} {y2 : MethodName} {c2 : ByteArray} {n2 nL idx : Nat} {own : String} {rm : Room} {As : List Value} (hS0 : CallFix p m c cc nL s args lw_g own)
    (hM : vx_Met l y2 (Cond.code y2 c2 n2 (some .float) :: lw_g) rm (va_Pc (.ref b :: As) (pw G wc H.size)) (va_Qf post (bw G wf (va_A wc H.size)) (va_A wc H.size)) (XQ px G wf (va_A wc H.size)) 1 6 (va_A wc H.size))
    (kl : Cond.methodLink own idx y2 ∈ lw_g) (kc : Cond.instanceMethod y2 ∈ lw_g ∧ Cond.selects y2.cls y2 y2 ∈ lw_g ∧ Cond.initialized y2.cls ∈ lw_g ∧ Cond.code y2 c2 n2 (some .float) ∈ lw_g ∧ y2.cls ≠ "java/lang/invoke/MethodHandle" ∧ y2.cls ≠ "java/lang/invoke/VarHandle" ∧ (parseMethodDescriptor y2.desc).map (fun d => d.parameters.length) = some As.length) (hrm : rm.cells = 1 ∧ rm.slots = 6 ∧ rm.frames + 1 ≤ R.frames ∧ 8 + (n2 + 11) + rm.locals ≤ R.locals)
    {T : u_T} {N ci : Nat} {fs : List Value} (q0 : Nat) (hci : vwCl[ci]? = some (y2.cls, T, N)) (hq0 : wc[q0]? = some (b, .inr (ci, fs)))
    (hP : va_P (gD G) vwCl ws H) (hK : va_K (gD G) vwCl (gT G) s) (hD : va_D A ws) (hE : Ev (gE G) A s) (hS : va_S A s.heap H locs) (hA : ∀ q : Nat, s.heap.size ≤ q → A q) {out : S → va_W} (hp : ws.Perm (wc ++ wr)) (ho : ∀ u, (wf u ++ wr).Perm (out u)) (hls : ls.size = nL) (hW : (rest.map fun v => v.category).sum ≤ 8) (hcs : cells + 1 ≤ R.cells ∧ slots + 6 ≤ R.slots) (hdg : decode cc pc = .ok (.invokevirtual idx, 3))
    (kx : ∀ (k : Nat) (E : String) (u : S) (q9 : Nat) (ce : Cell) (H1 : Heap) (locs1 : List Loc), exL[k]? = some E → px (k, u) → va_P (gD G) vwCl (out u) H1 → va_D A (out u) → va_S A s.heap H1 locs1 → H1[q9]? = some ce → ce.vm = .none → s.vm.findClass E = some ce.cls → vx_W p l e R s m args below meth c H1 locs1 (cells + 1) (slots + 6) Q (F0 m pc ls rest) q9)
    (kk : ∀ (r : UInt32) (u : S) (H1 : Heap) (locs1 : List Loc), post r u → va_P (gD G) vwCl (out u) H1 → va_D A (out u) → va_S A s.heap H1 locs1 → W p l e R s m args below meth c H1 locs1 (cells + 1) (slots + 6) Q (F0 m (pc + 3) ls (.float r :: rest))) :
    W p l e R s m args below meth c H locs cells slots Q (F0 m pc ls (As.reverse ++ .ref b :: rest)) := by
  have hPp := va_P_perm hP hp
  have hDp := va_D_perm hD hp
  have hPc : va_P (gD G) vwCl wc H := va_P_mem hPp fun q hq => List.mem_append_left _ hq
  have hDc := va_D_l hDp
  have hF : ∀ q, va_A wc H.size q → A q := fun q h => h.elim (fun ⟨k, e, h⟩ => hDc.2 k (q, e) h) (fun h => hA q (Nat.le_trans hS.1 h))
  have hg := hS0.2.2.2.2
  refine vx_callf (vx_runV (C := y2.cls) (As := As) (rest := rest) hS0 hM ⟨callB_of As.length hg (kgg2 kc.2.2.2.1) rfl hrm.1 hrm.2.1 (hg _ kc.2.2.1) (hg _ kl) kc.2.2.2.2 hrm.2.2, hg _ kc.1, hg _ kc.2.1⟩ ⟨pw_blind, va_recv hK hPc hci hq0, fun U hU hW => pw_pre (ws := wc) hPc hDc hK hE hS hF hU hW⟩ rfl rfl hls rfl (lv_room hW) hdg hcs) hS (fun q _ h => hF q h) hF (fun q _ h => hF q h)
    (fun E ce q9 u t H1 locs1 ht hvm hw hB hz1 hk1 hS1 h1 h2 h3 => ?_) (fun r u t H1 locs1 ht hvm hw hB hz1 hk1 hS1 => ?_)
  · obtain ⟨hkE, hP1, hK1, hD1⟩ := hB
    rw [ht] at hP1
    obtain ⟨hP2, hD2⟩ := joinA hPp hDp hk1 hF hP1 hD1
    exact kx u.1 E u.2 q9 ce H1 locs1 hkE hw (va_P_perm hP2 (ho u.2)) (va_D_perm hD2 (ho u.2)) hS1 h1 h2 h3
  · obtain ⟨hP1, hK1, hD1⟩ := hB
    rw [ht] at hP1
    obtain ⟨hP2, hD2⟩ := joinA hPp hDp hk1 hF hP1 hD1
    exact kk r u H1 locs1 hw (va_P_perm hP2 (ho u)) (va_D_perm hD2 (ho u)) hS1
end XW
def hc {α : Type} (k1 : Nat) : Nat ⊕ α → Int32
  | .inl k => if k = k1 then 1 else 2
  | .inr _ => 0
def hoI (fo : Nat → Int64) : Nat ⊕ Int32 → Nat → Int64
  | .inl _ => fo
  | .inr r => vp_updL fo (0 : Int32).toNatClampNeg r.toInt64
def hoL (fo : Nat → Int64) : Nat ⊕ Int64 → Nat → Int64
  | .inl _ => fo
  | .inr r => vp_updL fo (0 : Int32).toNatClampNeg r
def hoF (fo : Nat → UInt64) : Nat ⊕ UInt32 → Nat → UInt64
  | .inl _ => fo
  | .inr r => vf_upd fo (0 : Int32).toNatClampNeg (FP.f2d r)
theorem dL_append_0 : decode cL_append 0 = .ok (.aload 6, 2) := by decide +kernel
theorem dL_append_2 : decode cL_append 2 = .ok (.iconst 0, 1) := by decide +kernel
theorem dL_append_3 : decode cL_append 3 = .ok (.aload_n 0, 1) := by decide +kernel
theorem dL_append_4 : decode cL_append 4 = .ok (.iload_n 1, 1) := by decide +kernel
theorem dL_append_5 : decode cL_append 5 = .ok (.iload_n 2, 1) := by decide +kernel
theorem dL_append_6 : decode cL_append 6 = .ok (.iload_n 3, 1) := by decide +kernel
theorem dL_append_7 : decode cL_append 7 = .ok (.iload 4, 2) := by decide +kernel
theorem dL_append_9 : decode cL_append 9 = .ok (.iload 5, 2) := by decide +kernel
theorem dL_append_11 : decode cL_append 11 = .ok (.invokevirtual 7, 3) := by decide +kernel
theorem dL_append_14 : decode cL_append 14 = .ok (.i2l, 1) := by decide +kernel
theorem dL_append_15 : decode cL_append 15 = .ok (.lastore, 1) := by decide +kernel
theorem dL_append_16 : decode cL_append 16 = .ok (.goto 7, 3) := by decide +kernel
theorem dL_append_19 : decode cL_append 19 = .ok (.astore 7, 2) := by decide +kernel
theorem dL_append_21 : decode cL_append 21 = .ok (.iconst 1, 1) := by decide +kernel
theorem dL_append_22 : decode cL_append 22 = .ok (.ireturn, 1) := by decide +kernel
theorem dL_append_23 : decode cL_append 23 = .ok (.iconst 0, 1) := by decide +kernel
theorem dL_append_24 : decode cL_append 24 = .ok (.ireturn, 1) := by decide +kernel
set_option maxRecDepth 100000 in
set_option maxHeartbeats 4000000 in
theorem c_L_append {l : Launch} (hlf : l.stackTraces = false) {G : Gp} {sz N : Nat} {x1 : Int32} {x2 : Int32} {x3 : Int32} {x4 : Int32} {x5 : Int32} {h0 : Nat} {a0 a1 : Nat → Nat} {ra rb : Nat → Nat → Nat} {u0 u1 : Ob} {u2 u3 : Nat → Ob} {ho : Nat} {fo : Nat → Int64} {q : (Nat ⊕ Int32) × Ob × Ob × (Nat → Ob) × (Nat → Ob)} (hf : f_X5_append N x1 x2 x3 x4 x5 u0 u1 u2 u3 = some q) (hk : ∀ k, q.1 = .inl k → k = 0) : Met l yL_append (Cond.codeWith yL_append cL_append 8 (some .int) [(0, 16, 19, 13)] :: lw_g) ({ frames := 7, cells := 1, slots := 6, locals := 115 } : Room) (va_Pc [.ref h0, .int x1, .int x2, .int x3, .int x4, .int x5, .ref ho] (pw G ([(ho, .inl (G.2.2.1 2, 1, .inr (.inl fo)))] ++ wAll G h0 a0 u0 a1 u1 ra rb u2 u3) sz)) (va_Qi (fun (r : Int32) (v : (Nat → Int64) × Ob × Ob × (Nat → Ob) × (Nat → Ob)) => hc 0 q.1 = r ∧ (hoI fo q.1, q.2) = v) (bw G (fun v : (Nat → Int64) × Ob × Ob × (Nat → Ob) × (Nat → Ob) => [(ho, .inl (G.2.2.1 2, 1, .inr (.inl v.1)))] ++ wAll G h0 a0 v.2.1 a1 v.2.2.1 ra rb v.2.2.2.1 v.2.2.2.2) (va_A ([(ho, .inl (G.2.2.1 2, 1, .inr (.inl fo)))] ++ wAll G h0 a0 u0 a1 u1 ra rb u2 u3) sz)) (va_A ([(ho, .inl (G.2.2.1 2, 1, .inr (.inl fo)))] ++ wAll G h0 a0 u0 a1 u1 ra rb u2 u3) sz)) 1 6 (va_A ([(ho, .inl (G.2.2.1 2, 1, .inr (.inl fo)))] ++ wAll G h0 a0 u0 a1 u1 ra rb u2 u3) sz) := by
  refine mtw (y := yL_append) (maxL := 8) (av := [.ref h0, .int x1, .int x2, .int x3, .int x4, .int x5, .ref ho]) (Qc := fun A => va_Qi (fun (r : Int32) (v : (Nat → Int64) × Ob × Ob × (Nat → Ob) × (Nat → Ob)) => hc 0 q.1 = r ∧ (hoI fo q.1, q.2) = v) (bw G (fun v : (Nat → Int64) × Ob × Ob × (Nat → Ob) × (Nat → Ob) => [(ho, .inl (G.2.2.1 2, 1, .inr (.inl v.1)))] ++ wAll G h0 a0 v.2.1 a1 v.2.2.1 ra rb v.2.2.2.1 v.2.2.2.2) A) A) (by decide) (Nat.le_of_ble_eq_true rfl) ?_
  intro p e s m below meth c A ls hx hb hr hlk hml htb hts hown hA hP hK hD hE hS hl
  have hown : s.vm.findClass RL = some m.cls := hown
  have hg : ∀ w ∈ lw_g, w.before ([.ref h0, .int x1, .int x2, .int x3, .int x4, .int x5, .ref ho] : List Value).toArray s = true := fun w h => hts w (List.mem_cons_of_mem _ h)
  have hC : CallFix p m c cL_append 8 s ([.ref h0, .int x1, .int x2, .int x3, .int x4, .int x5, .ref ho] : List Value).toArray lw_g RL := ⟨hx, hb, hml, hown, hg⟩
  have hl : lv_has ls 8 [(0, .ref h0), (1, .int x1), (2, .int x2), (3, .int x3), (4, .int x4), (5, .int x5), (6, .ref ho)] := hl
  refine lv_aload hx hb dL_append_0 (lv_at hl 6 rfl) ?_
  refine lv_iconst (v := (0 : Int32)) hx hb dL_append_2 (by decide) ?_
  refine lv_aload_n hx hb dL_append_3 rfl (lv_at hl 0 rfl) ?_
  refine lv_iload_n hx hb dL_append_4 rfl (lv_at hl 1 rfl) ?_
  refine lv_iload_n hx hb dL_append_5 rfl (lv_at hl 2 rfl) ?_
  refine lv_iload_n hx hb dL_append_6 rfl (lv_at hl 3 rfl) ?_
  refine lv_iload hx hb dL_append_7 (lv_at hl 4 rfl) ?_
  refine lv_iload hx hb dL_append_9 (lv_at hl 5 rfl) ?_
  refine kXi (As := [.int x1, .int x2, .int x3, .int x4, .int x5]) (rest := [.int (0 : Int32), .ref ho]) hC (c_X5_append hlf (G := G) hf) kq2_107 kc_X5_append (by decide) 0 (ci := 3) rfl rfl hP hK hD hE hS hA (out := (fun v : Ob × Ob × (Nat → Ob) × (Nat → Ob) => [(ho, .inl (G.2.2.1 2, 1, .inr (.inl fo)))] ++ wAll G h0 a0 v.1 a1 v.2.1 ra rb v.2.2.1 v.2.2.2)) (wr := [(ho, .inl (G.2.2.1 2, 1, .inr (.inl fo)))]) List.perm_append_comm (fun _ => List.perm_append_comm) hl.1 (Nat.le_of_ble_eq_true rfl) ⟨Nat.le_of_ble_eq_true rfl, Nat.le_of_ble_eq_true rfl⟩ dL_append_11 (fun k E u9 q9 ce H locs hkE hw hP hD hS h1 h2 h3 => ?_) (fun r9 u9 H locs hw hP hD hS => ?_)
  · obtain ⟨v0, v1, v2, v3⟩ := u9
    have hw : q = (.inl k, (v0, v1, v2, v3)) := hw
    subst hw
    have hk := hk k rfl
    subst hk
    cases hkE
    refine vx_catch (name := "java/lang/IllegalStateException") (E := "java/lang/IllegalStateException") hown [] ⟨0, 16, 19, 13⟩ [] htb (fun z h => absurd h List.not_mem_nil) (by decide) (by decide) (hg _ kq2_106) ((hE.2.2.2.2.2.1 "java/lang/IllegalStateException" (by decide +kernel)).use rfl) h1 h2 h3 ?_
    refine lv_astore (lv' := [(7, .ref q9), (0, .ref h0), (1, .int x1), (2, .int x2), (3, .int x3), (4, .int x4), (5, .int x5), (6, .ref ho)]) hx hb dL_append_19 hl (by decide) rfl (fun ls hl => ?_)
    refine lv_iconst (v := (1 : Int32)) hx hb dL_append_21 (by decide) ?_
    refine W.widen (k := 1) (n := 6) (by decide) (by decide) ?_
    exact e_i (post := (fun (r : Int32) (v : (Nat → Int64) × Ob × Ob × (Nat → Ob) × (Nat → Ob)) => hc 0 ((.inl 0, (v0, v1, v2, v3)) : (Nat ⊕ Int32) × Ob × Ob × (Nat → Ob) × (Nat → Ob)).1 = r ∧ (hoI fo ((.inl 0, (v0, v1, v2, v3)) : (Nat ⊕ Int32) × Ob × Ob × (Nat → Ob) × (Nat → Ob)).1, ((.inl 0, (v0, v1, v2, v3)) : (Nat ⊕ Int32) × Ob × Ob × (Nat → Ob) × (Nat → Ob)).2) = v)) (wf := (fun v : (Nat → Int64) × Ob × Ob × (Nat → Ob) × (Nat → Ob) => [(ho, .inl (G.2.2.1 2, 1, .inr (.inl v.1)))] ++ wAll G h0 a0 v.2.1 a1 v.2.2.1 ra rb v.2.2.2.1 v.2.2.2.2)) hx hb hr hlk (fo, v0, v1, v2, v3) ⟨rfl, rfl⟩ hP hK hD hS dL_append_22
  · have hw : q = (.inr r9, u9) := hw
    subst hw
    refine lv_i2l (v := r9.toInt64) hx hb dL_append_14 rfl ?_
    refine va_last (f := fo) hx hb hK hP hD hS 0 2 rfl rfl (vin (by decide)) dL_append_15 (fun H locs hP hD hS => ?_)
    have hP : va_P (gD G) vwCl ([(ho, .inl (G.2.2.1 2, 1, .inr (.inl (vp_updL fo (0 : Int32).toNatClampNeg r9.toInt64))))] ++ wAll G h0 a0 u9.1 a1 u9.2.1 ra rb u9.2.2.1 u9.2.2.2) H := hP
    have hD : va_D A ([(ho, .inl (G.2.2.1 2, 1, .inr (.inl (vp_updL fo (0 : Int32).toNatClampNeg r9.toInt64))))] ++ wAll G h0 a0 u9.1 a1 u9.2.1 ra rb u9.2.2.1 u9.2.2.2) := hD
    refine lv_goto (tgt := 23) hx hb dL_append_16 (by decide) ?_
    refine lv_iconst (v := (0 : Int32)) hx hb dL_append_23 (by decide) ?_
    refine W.widen (k := 1) (n := 6) (by decide) (by decide) ?_
    exact e_i (post := (fun (r : Int32) (v : (Nat → Int64) × Ob × Ob × (Nat → Ob) × (Nat → Ob)) => hc 0 ((.inr r9, u9) : (Nat ⊕ Int32) × Ob × Ob × (Nat → Ob) × (Nat → Ob)).1 = r ∧ (hoI fo ((.inr r9, u9) : (Nat ⊕ Int32) × Ob × Ob × (Nat → Ob) × (Nat → Ob)).1, ((.inr r9, u9) : (Nat ⊕ Int32) × Ob × Ob × (Nat → Ob) × (Nat → Ob)).2) = v)) (wf := (fun v : (Nat → Int64) × Ob × Ob × (Nat → Ob) × (Nat → Ob) => [(ho, .inl (G.2.2.1 2, 1, .inr (.inl v.1)))] ++ wAll G h0 a0 v.2.1 a1 v.2.2.1 ra rb v.2.2.2.1 v.2.2.2.2)) hx hb hr hlk ((vp_updL fo (0 : Int32).toNatClampNeg r9.toInt64), u9) ⟨rfl, rfl⟩ hP hK hD hS dL_append_24
theorem kc_L_append : Cond.static yL_append ∈ lw_g ∧ Cond.initialized yL_append.cls ∈ lw_g ∧ Cond.codeWith yL_append cL_append 8 (some .int) [(0, 16, 19, 13)] ∈ lw_g ∧ yL_append.cls ≠ "java/lang/invoke/MethodHandle" ∧ yL_append.cls ≠ "java/lang/invoke/VarHandle" ∧ (parseMethodDescriptor yL_append.desc).map (fun d => d.parameters.length) = some 7 := ⟨kq2_104, kq1_0, kq2_105, by decide +kernel, by decide +kernel, by decide +kernel⟩
theorem dL_bit_0 : decode cL_bit 0 = .ok (.aload_n 2, 1) := by decide +kernel
theorem dL_bit_1 : decode cL_bit 1 = .ok (.iconst 0, 1) := by decide +kernel
theorem dL_bit_2 : decode cL_bit 2 = .ok (.aload_n 0, 1) := by decide +kernel
theorem dL_bit_3 : decode cL_bit 3 = .ok (.iload_n 1, 1) := by decide +kernel
theorem dL_bit_4 : decode cL_bit 4 = .ok (.invokevirtual 42, 3) := by decide +kernel
theorem dL_bit_7 : decode cL_bit 7 = .ok (.i2l, 1) := by decide +kernel
theorem dL_bit_8 : decode cL_bit 8 = .ok (.lastore, 1) := by decide +kernel
theorem dL_bit_9 : decode cL_bit 9 = .ok (.goto 6, 3) := by decide +kernel
theorem dL_bit_12 : decode cL_bit 12 = .ok (.astore_n 3, 1) := by decide +kernel
theorem dL_bit_13 : decode cL_bit 13 = .ok (.iconst 1, 1) := by decide +kernel
theorem dL_bit_14 : decode cL_bit 14 = .ok (.ireturn, 1) := by decide +kernel
theorem dL_bit_15 : decode cL_bit 15 = .ok (.iconst 0, 1) := by decide +kernel
theorem dL_bit_16 : decode cL_bit 16 = .ok (.ireturn, 1) := by decide +kernel
set_option maxRecDepth 100000 in
set_option maxHeartbeats 4000000 in
theorem c_L_bit {l : Launch} (hlf : l.stackTraces = false) {G : Gp} {sz N : Nat} {x1 : Int32} {h0 : Nat} {a0 a1 : Nat → Nat} {ra rb : Nat → Nat → Nat} {u0 u1 : Ob} {u2 u3 : Nat → Ob} {ho : Nat} {fo : Nat → Int64} {q : (Nat ⊕ Int32) × Ob × Ob × (Nat → Ob) × (Nat → Ob)} (hf : f_X5_bit N x1 u0 u1 u2 u3 = some q) (hk : ∀ k, q.1 = .inl k → k = 2) : Met l yL_bit (Cond.codeWith yL_bit cL_bit 4 (some .int) [(0, 9, 12, 45)] :: lw_g) ({ frames := 7, cells := 1, slots := 6, locals := 111 } : Room) (va_Pc [.ref h0, .int x1, .ref ho] (pw G ([(ho, .inl (G.2.2.1 2, 1, .inr (.inl fo)))] ++ wAll G h0 a0 u0 a1 u1 ra rb u2 u3) sz)) (va_Qi (fun (r : Int32) (v : (Nat → Int64) × Ob × Ob × (Nat → Ob) × (Nat → Ob)) => hc 2 q.1 = r ∧ (hoI fo q.1, q.2) = v) (bw G (fun v : (Nat → Int64) × Ob × Ob × (Nat → Ob) × (Nat → Ob) => [(ho, .inl (G.2.2.1 2, 1, .inr (.inl v.1)))] ++ wAll G h0 a0 v.2.1 a1 v.2.2.1 ra rb v.2.2.2.1 v.2.2.2.2) (va_A ([(ho, .inl (G.2.2.1 2, 1, .inr (.inl fo)))] ++ wAll G h0 a0 u0 a1 u1 ra rb u2 u3) sz)) (va_A ([(ho, .inl (G.2.2.1 2, 1, .inr (.inl fo)))] ++ wAll G h0 a0 u0 a1 u1 ra rb u2 u3) sz)) 1 6 (va_A ([(ho, .inl (G.2.2.1 2, 1, .inr (.inl fo)))] ++ wAll G h0 a0 u0 a1 u1 ra rb u2 u3) sz) := by
  refine mtw (y := yL_bit) (maxL := 4) (av := [.ref h0, .int x1, .ref ho]) (Qc := fun A => va_Qi (fun (r : Int32) (v : (Nat → Int64) × Ob × Ob × (Nat → Ob) × (Nat → Ob)) => hc 2 q.1 = r ∧ (hoI fo q.1, q.2) = v) (bw G (fun v : (Nat → Int64) × Ob × Ob × (Nat → Ob) × (Nat → Ob) => [(ho, .inl (G.2.2.1 2, 1, .inr (.inl v.1)))] ++ wAll G h0 a0 v.2.1 a1 v.2.2.1 ra rb v.2.2.2.1 v.2.2.2.2) A) A) (by decide) (Nat.le_of_ble_eq_true rfl) ?_
  intro p e s m below meth c A ls hx hb hr hlk hml htb hts hown hA hP hK hD hE hS hl
  have hown : s.vm.findClass RL = some m.cls := hown
  have hg : ∀ w ∈ lw_g, w.before ([.ref h0, .int x1, .ref ho] : List Value).toArray s = true := fun w h => hts w (List.mem_cons_of_mem _ h)
  have hC : CallFix p m c cL_bit 4 s ([.ref h0, .int x1, .ref ho] : List Value).toArray lw_g RL := ⟨hx, hb, hml, hown, hg⟩
  have hl : lv_has ls 4 [(0, .ref h0), (1, .int x1), (2, .ref ho)] := hl
  refine lv_aload_n hx hb dL_bit_0 rfl (lv_at hl 2 rfl) ?_
  refine lv_iconst (v := (0 : Int32)) hx hb dL_bit_1 (by decide) ?_
  refine lv_aload_n hx hb dL_bit_2 rfl (lv_at hl 0 rfl) ?_
  refine lv_iload_n hx hb dL_bit_3 rfl (lv_at hl 1 rfl) ?_
  refine kXi (As := [.int x1]) (rest := [.int (0 : Int32), .ref ho]) hC (c_X5_bit hlf (G := G) hf) kq4_17 kc_X5_bit (by decide) 0 (ci := 3) rfl rfl hP hK hD hE hS hA (out := (fun v : Ob × Ob × (Nat → Ob) × (Nat → Ob) => [(ho, .inl (G.2.2.1 2, 1, .inr (.inl fo)))] ++ wAll G h0 a0 v.1 a1 v.2.1 ra rb v.2.2.1 v.2.2.2)) (wr := [(ho, .inl (G.2.2.1 2, 1, .inr (.inl fo)))]) List.perm_append_comm (fun _ => List.perm_append_comm) hl.1 (Nat.le_of_ble_eq_true rfl) ⟨Nat.le_of_ble_eq_true rfl, Nat.le_of_ble_eq_true rfl⟩ dL_bit_4 (fun k E u9 q9 ce H locs hkE hw hP hD hS h1 h2 h3 => ?_) (fun r9 u9 H locs hw hP hD hS => ?_)
  · obtain ⟨v0, v1, v2, v3⟩ := u9
    have hw : q = (.inl k, (v0, v1, v2, v3)) := hw
    subst hw
    have hk := hk k rfl
    subst hk
    cases hkE
    refine vx_catch (name := "java/lang/IndexOutOfBoundsException") (E := "java/lang/IndexOutOfBoundsException") hown [] ⟨0, 9, 12, 45⟩ [] htb (fun z h => absurd h List.not_mem_nil) (by decide) (by decide) (hg _ kq4_16) ((hE.2.2.2.2.2.1 "java/lang/IndexOutOfBoundsException" (by decide +kernel)).use rfl) h1 h2 h3 ?_
    refine lv_astore_n (lv' := [(3, .ref q9), (0, .ref h0), (1, .int x1), (2, .ref ho)]) hx hb dL_bit_12 rfl hl (by decide) rfl (fun ls hl => ?_)
    refine lv_iconst (v := (1 : Int32)) hx hb dL_bit_13 (by decide) ?_
    refine W.widen (k := 1) (n := 6) (by decide) (by decide) ?_
    exact e_i (post := (fun (r : Int32) (v : (Nat → Int64) × Ob × Ob × (Nat → Ob) × (Nat → Ob)) => hc 2 ((.inl 2, (v0, v1, v2, v3)) : (Nat ⊕ Int32) × Ob × Ob × (Nat → Ob) × (Nat → Ob)).1 = r ∧ (hoI fo ((.inl 2, (v0, v1, v2, v3)) : (Nat ⊕ Int32) × Ob × Ob × (Nat → Ob) × (Nat → Ob)).1, ((.inl 2, (v0, v1, v2, v3)) : (Nat ⊕ Int32) × Ob × Ob × (Nat → Ob) × (Nat → Ob)).2) = v)) (wf := (fun v : (Nat → Int64) × Ob × Ob × (Nat → Ob) × (Nat → Ob) => [(ho, .inl (G.2.2.1 2, 1, .inr (.inl v.1)))] ++ wAll G h0 a0 v.2.1 a1 v.2.2.1 ra rb v.2.2.2.1 v.2.2.2.2)) hx hb hr hlk (fo, v0, v1, v2, v3) ⟨rfl, rfl⟩ hP hK hD hS dL_bit_14
  · have hw : q = (.inr r9, u9) := hw
    subst hw
    refine lv_i2l (v := r9.toInt64) hx hb dL_bit_7 rfl ?_
    refine va_last (f := fo) hx hb hK hP hD hS 0 2 rfl rfl (vin (by decide)) dL_bit_8 (fun H locs hP hD hS => ?_)
    have hP : va_P (gD G) vwCl ([(ho, .inl (G.2.2.1 2, 1, .inr (.inl (vp_updL fo (0 : Int32).toNatClampNeg r9.toInt64))))] ++ wAll G h0 a0 u9.1 a1 u9.2.1 ra rb u9.2.2.1 u9.2.2.2) H := hP
    have hD : va_D A ([(ho, .inl (G.2.2.1 2, 1, .inr (.inl (vp_updL fo (0 : Int32).toNatClampNeg r9.toInt64))))] ++ wAll G h0 a0 u9.1 a1 u9.2.1 ra rb u9.2.2.1 u9.2.2.2) := hD
    refine lv_goto (tgt := 15) hx hb dL_bit_9 (by decide) ?_
    refine lv_iconst (v := (0 : Int32)) hx hb dL_bit_15 (by decide) ?_
    refine W.widen (k := 1) (n := 6) (by decide) (by decide) ?_
    exact e_i (post := (fun (r : Int32) (v : (Nat → Int64) × Ob × Ob × (Nat → Ob) × (Nat → Ob)) => hc 2 ((.inr r9, u9) : (Nat ⊕ Int32) × Ob × Ob × (Nat → Ob) × (Nat → Ob)).1 = r ∧ (hoI fo ((.inr r9, u9) : (Nat ⊕ Int32) × Ob × Ob × (Nat → Ob) × (Nat → Ob)).1, ((.inr r9, u9) : (Nat ⊕ Int32) × Ob × Ob × (Nat → Ob) × (Nat → Ob)).2) = v)) (wf := (fun v : (Nat → Int64) × Ob × Ob × (Nat → Ob) × (Nat → Ob) => [(ho, .inl (G.2.2.1 2, 1, .inr (.inl v.1)))] ++ wAll G h0 a0 v.2.1 a1 v.2.2.1 ra rb v.2.2.2.1 v.2.2.2.2)) hx hb hr hlk ((vp_updL fo (0 : Int32).toNatClampNeg r9.toInt64), u9) ⟨rfl, rfl⟩ hP hK hD hS dL_bit_16
theorem kc_L_bit : Cond.static yL_bit ∈ lw_g ∧ Cond.initialized yL_bit.cls ∈ lw_g ∧ Cond.codeWith yL_bit cL_bit 4 (some .int) [(0, 9, 12, 45)] ∈ lw_g ∧ yL_bit.cls ≠ "java/lang/invoke/MethodHandle" ∧ yL_bit.cls ≠ "java/lang/invoke/VarHandle" ∧ (parseMethodDescriptor yL_bit.desc).map (fun d => d.parameters.length) = some 3 := ⟨kq4_14, kq1_0, kq4_15, by decide +kernel, by decide +kernel, by decide +kernel⟩
theorem dL_block_0 : decode cL_block 0 = .ok (.aload_n 3, 1) := by decide +kernel
theorem dL_block_1 : decode cL_block 1 = .ok (.iconst 0, 1) := by decide +kernel
theorem dL_block_2 : decode cL_block 2 = .ok (.aload_n 0, 1) := by decide +kernel
theorem dL_block_3 : decode cL_block 3 = .ok (.iload_n 1, 1) := by decide +kernel
theorem dL_block_4 : decode cL_block 4 = .ok (.iload_n 2, 1) := by decide +kernel
theorem dL_block_5 : decode cL_block 5 = .ok (.invokevirtual 59, 3) := by decide +kernel
theorem dL_block_8 : decode cL_block 8 = .ok (.i2l, 1) := by decide +kernel
theorem dL_block_9 : decode cL_block 9 = .ok (.lastore, 1) := by decide +kernel
theorem dL_block_10 : decode cL_block 10 = .ok (.goto 11, 3) := by decide +kernel
theorem dL_block_13 : decode cL_block 13 = .ok (.astore 4, 2) := by decide +kernel
theorem dL_block_15 : decode cL_block 15 = .ok (.iconst 1, 1) := by decide +kernel
theorem dL_block_16 : decode cL_block 16 = .ok (.ireturn, 1) := by decide +kernel
theorem dL_block_17 : decode cL_block 17 = .ok (.astore 4, 2) := by decide +kernel
theorem dL_block_19 : decode cL_block 19 = .ok (.iconst 2, 1) := by decide +kernel
theorem dL_block_20 : decode cL_block 20 = .ok (.ireturn, 1) := by decide +kernel
theorem dL_block_21 : decode cL_block 21 = .ok (.iconst 0, 1) := by decide +kernel
theorem dL_block_22 : decode cL_block 22 = .ok (.ireturn, 1) := by decide +kernel
set_option maxRecDepth 100000 in
set_option maxHeartbeats 4000000 in
theorem c_L_block {l : Launch} (hlf : l.stackTraces = false) {G : Gp} {sz N : Nat} {x1 : Int32} {x2 : Int32} {h0 : Nat} {a0 a1 : Nat → Nat} {ra rb : Nat → Nat → Nat} {u0 u1 : Ob} {u2 u3 : Nat → Ob} {ho : Nat} {fo : Nat → Int64} {q : (Nat ⊕ Int32) × Ob × Ob × (Nat → Ob) × (Nat → Ob)} (hf : f_X5_block N x1 x2 u0 u1 u2 u3 = some q) (hk : ∀ k, q.1 = .inl k → k = 2 ∨ k = 1) : Met l yL_block (Cond.codeWith yL_block cL_block 5 (some .int) [(0, 10, 13, 45), (0, 10, 17, 19)] :: lw_g) ({ frames := 7, cells := 1, slots := 6, locals := 112 } : Room) (va_Pc [.ref h0, .int x1, .int x2, .ref ho] (pw G ([(ho, .inl (G.2.2.1 2, 1, .inr (.inl fo)))] ++ wAll G h0 a0 u0 a1 u1 ra rb u2 u3) sz)) (va_Qi (fun (r : Int32) (v : (Nat → Int64) × Ob × Ob × (Nat → Ob) × (Nat → Ob)) => hc 2 q.1 = r ∧ (hoI fo q.1, q.2) = v) (bw G (fun v : (Nat → Int64) × Ob × Ob × (Nat → Ob) × (Nat → Ob) => [(ho, .inl (G.2.2.1 2, 1, .inr (.inl v.1)))] ++ wAll G h0 a0 v.2.1 a1 v.2.2.1 ra rb v.2.2.2.1 v.2.2.2.2) (va_A ([(ho, .inl (G.2.2.1 2, 1, .inr (.inl fo)))] ++ wAll G h0 a0 u0 a1 u1 ra rb u2 u3) sz)) (va_A ([(ho, .inl (G.2.2.1 2, 1, .inr (.inl fo)))] ++ wAll G h0 a0 u0 a1 u1 ra rb u2 u3) sz)) 1 6 (va_A ([(ho, .inl (G.2.2.1 2, 1, .inr (.inl fo)))] ++ wAll G h0 a0 u0 a1 u1 ra rb u2 u3) sz) := by
  refine mtw (y := yL_block) (maxL := 5) (av := [.ref h0, .int x1, .int x2, .ref ho]) (Qc := fun A => va_Qi (fun (r : Int32) (v : (Nat → Int64) × Ob × Ob × (Nat → Ob) × (Nat → Ob)) => hc 2 q.1 = r ∧ (hoI fo q.1, q.2) = v) (bw G (fun v : (Nat → Int64) × Ob × Ob × (Nat → Ob) × (Nat → Ob) => [(ho, .inl (G.2.2.1 2, 1, .inr (.inl v.1)))] ++ wAll G h0 a0 v.2.1 a1 v.2.2.1 ra rb v.2.2.2.1 v.2.2.2.2) A) A) (by decide) (Nat.le_of_ble_eq_true rfl) ?_
  intro p e s m below meth c A ls hx hb hr hlk hml htb hts hown hA hP hK hD hE hS hl
  have hown : s.vm.findClass RL = some m.cls := hown
  have hg : ∀ w ∈ lw_g, w.before ([.ref h0, .int x1, .int x2, .ref ho] : List Value).toArray s = true := fun w h => hts w (List.mem_cons_of_mem _ h)
  have hC : CallFix p m c cL_block 5 s ([.ref h0, .int x1, .int x2, .ref ho] : List Value).toArray lw_g RL := ⟨hx, hb, hml, hown, hg⟩
  have hl : lv_has ls 5 [(0, .ref h0), (1, .int x1), (2, .int x2), (3, .ref ho)] := hl
  refine lv_aload_n hx hb dL_block_0 rfl (lv_at hl 3 rfl) ?_
  refine lv_iconst (v := (0 : Int32)) hx hb dL_block_1 (by decide) ?_
  refine lv_aload_n hx hb dL_block_2 rfl (lv_at hl 0 rfl) ?_
  refine lv_iload_n hx hb dL_block_3 rfl (lv_at hl 1 rfl) ?_
  refine lv_iload_n hx hb dL_block_4 rfl (lv_at hl 2 rfl) ?_
  refine kXi (As := [.int x1, .int x2]) (rest := [.int (0 : Int32), .ref ho]) hC (c_X5_block hlf (G := G) hf) kq4_93 kc_X5_block (by decide) 0 (ci := 3) rfl rfl hP hK hD hE hS hA (out := (fun v : Ob × Ob × (Nat → Ob) × (Nat → Ob) => [(ho, .inl (G.2.2.1 2, 1, .inr (.inl fo)))] ++ wAll G h0 a0 v.1 a1 v.2.1 ra rb v.2.2.1 v.2.2.2)) (wr := [(ho, .inl (G.2.2.1 2, 1, .inr (.inl fo)))]) List.perm_append_comm (fun _ => List.perm_append_comm) hl.1 (Nat.le_of_ble_eq_true rfl) ⟨Nat.le_of_ble_eq_true rfl, Nat.le_of_ble_eq_true rfl⟩ dL_block_5 (fun k E u9 q9 ce H locs hkE hw hP hD hS h1 h2 h3 => ?_) (fun r9 u9 H locs hw hP hD hS => ?_)
  · obtain ⟨v0, v1, v2, v3⟩ := u9
    have hw : q = (.inl k, (v0, v1, v2, v3)) := hw
    subst hw
    have hk := hk k rfl
    rcases hk with rfl | rfl
    · cases hkE
      refine vx_catch (name := "java/lang/IndexOutOfBoundsException") (E := "java/lang/IndexOutOfBoundsException") hown [] ⟨0, 10, 13, 45⟩ [⟨0, 10, 17, 19⟩] htb (fun z h => absurd h List.not_mem_nil) (by decide) (by decide) (hg _ kq4_16) ((hE.2.2.2.2.2.1 "java/lang/IndexOutOfBoundsException" (by decide +kernel)).use rfl) h1 h2 h3 ?_
      refine lv_astore (lv' := [(4, .ref q9), (0, .ref h0), (1, .int x1), (2, .int x2), (3, .ref ho)]) hx hb dL_block_13 hl (by decide) rfl (fun ls hl => ?_)
      refine lv_iconst (v := (1 : Int32)) hx hb dL_block_15 (by decide) ?_
      refine W.widen (k := 1) (n := 6) (by decide) (by decide) ?_
      exact e_i (post := (fun (r : Int32) (v : (Nat → Int64) × Ob × Ob × (Nat → Ob) × (Nat → Ob)) => hc 2 ((.inl 2, (v0, v1, v2, v3)) : (Nat ⊕ Int32) × Ob × Ob × (Nat → Ob) × (Nat → Ob)).1 = r ∧ (hoI fo ((.inl 2, (v0, v1, v2, v3)) : (Nat ⊕ Int32) × Ob × Ob × (Nat → Ob) × (Nat → Ob)).1, ((.inl 2, (v0, v1, v2, v3)) : (Nat ⊕ Int32) × Ob × Ob × (Nat → Ob) × (Nat → Ob)).2) = v)) (wf := (fun v : (Nat → Int64) × Ob × Ob × (Nat → Ob) × (Nat → Ob) => [(ho, .inl (G.2.2.1 2, 1, .inr (.inl v.1)))] ++ wAll G h0 a0 v.2.1 a1 v.2.2.1 ra rb v.2.2.2.1 v.2.2.2.2)) hx hb hr hlk (fo, v0, v1, v2, v3) ⟨rfl, rfl⟩ hP hK hD hS dL_block_16
    · cases hkE
      refine vx_catch (name := "java/lang/IllegalArgumentException") (E := "java/lang/IllegalArgumentException") hown [⟨0, 10, 13, 45⟩] ⟨0, 10, 17, 19⟩ [] htb (fun z h => by obtain rfl := List.mem_singleton.mp h; exact Or.inr ⟨by decide, "java/lang/IndexOutOfBoundsException", hg _ kq4_16, hE.2.2.2.2.2.2.1 "java/lang/IllegalArgumentException" (by decide +kernel) "java/lang/IndexOutOfBoundsException" (by decide +kernel) (by decide +kernel)⟩) (by decide) (by decide) (hg _ kq2_186) ((hE.2.2.2.2.2.1 "java/lang/IllegalArgumentException" (by decide +kernel)).use rfl) h1 h2 h3 ?_
      refine lv_astore (lv' := [(4, .ref q9), (0, .ref h0), (1, .int x1), (2, .int x2), (3, .ref ho)]) hx hb dL_block_17 hl (by decide) rfl (fun ls hl => ?_)
      refine lv_iconst (v := (2 : Int32)) hx hb dL_block_19 (by decide) ?_
      refine W.widen (k := 1) (n := 6) (by decide) (by decide) ?_
      exact e_i (post := (fun (r : Int32) (v : (Nat → Int64) × Ob × Ob × (Nat → Ob) × (Nat → Ob)) => hc 2 ((.inl 1, (v0, v1, v2, v3)) : (Nat ⊕ Int32) × Ob × Ob × (Nat → Ob) × (Nat → Ob)).1 = r ∧ (hoI fo ((.inl 1, (v0, v1, v2, v3)) : (Nat ⊕ Int32) × Ob × Ob × (Nat → Ob) × (Nat → Ob)).1, ((.inl 1, (v0, v1, v2, v3)) : (Nat ⊕ Int32) × Ob × Ob × (Nat → Ob) × (Nat → Ob)).2) = v)) (wf := (fun v : (Nat → Int64) × Ob × Ob × (Nat → Ob) × (Nat → Ob) => [(ho, .inl (G.2.2.1 2, 1, .inr (.inl v.1)))] ++ wAll G h0 a0 v.2.1 a1 v.2.2.1 ra rb v.2.2.2.1 v.2.2.2.2)) hx hb hr hlk (fo, v0, v1, v2, v3) ⟨rfl, rfl⟩ hP hK hD hS dL_block_20
  · have hw : q = (.inr r9, u9) := hw
    subst hw
    refine lv_i2l (v := r9.toInt64) hx hb dL_block_8 rfl ?_
    refine va_last (f := fo) hx hb hK hP hD hS 0 2 rfl rfl (vin (by decide)) dL_block_9 (fun H locs hP hD hS => ?_)
    have hP : va_P (gD G) vwCl ([(ho, .inl (G.2.2.1 2, 1, .inr (.inl (vp_updL fo (0 : Int32).toNatClampNeg r9.toInt64))))] ++ wAll G h0 a0 u9.1 a1 u9.2.1 ra rb u9.2.2.1 u9.2.2.2) H := hP
    have hD : va_D A ([(ho, .inl (G.2.2.1 2, 1, .inr (.inl (vp_updL fo (0 : Int32).toNatClampNeg r9.toInt64))))] ++ wAll G h0 a0 u9.1 a1 u9.2.1 ra rb u9.2.2.1 u9.2.2.2) := hD
    refine lv_goto (tgt := 21) hx hb dL_block_10 (by decide) ?_
    refine lv_iconst (v := (0 : Int32)) hx hb dL_block_21 (by decide) ?_
    refine W.widen (k := 1) (n := 6) (by decide) (by decide) ?_
    exact e_i (post := (fun (r : Int32) (v : (Nat → Int64) × Ob × Ob × (Nat → Ob) × (Nat → Ob)) => hc 2 ((.inr r9, u9) : (Nat ⊕ Int32) × Ob × Ob × (Nat → Ob) × (Nat → Ob)).1 = r ∧ (hoI fo ((.inr r9, u9) : (Nat ⊕ Int32) × Ob × Ob × (Nat → Ob) × (Nat → Ob)).1, ((.inr r9, u9) : (Nat ⊕ Int32) × Ob × Ob × (Nat → Ob) × (Nat → Ob)).2) = v)) (wf := (fun v : (Nat → Int64) × Ob × Ob × (Nat → Ob) × (Nat → Ob) => [(ho, .inl (G.2.2.1 2, 1, .inr (.inl v.1)))] ++ wAll G h0 a0 v.2.1 a1 v.2.2.1 ra rb v.2.2.2.1 v.2.2.2.2)) hx hb hr hlk ((vp_updL fo (0 : Int32).toNatClampNeg r9.toInt64), u9) ⟨rfl, rfl⟩ hP hK hD hS dL_block_22
theorem kc_L_block : Cond.static yL_block ∈ lw_g ∧ Cond.initialized yL_block.cls ∈ lw_g ∧ Cond.codeWith yL_block cL_block 5 (some .int) [(0, 10, 13, 45), (0, 10, 17, 19)] ∈ lw_g ∧ yL_block.cls ≠ "java/lang/invoke/MethodHandle" ∧ yL_block.cls ≠ "java/lang/invoke/VarHandle" ∧ (parseMethodDescriptor yL_block.desc).map (fun d => d.parameters.length) = some 4 := ⟨kq4_91, kq1_0, kq4_92, by decide +kernel, by decide +kernel, by decide +kernel⟩
theorem dL_clock_0 : decode cL_clock 0 = .ok (.aload_n 2, 1) := by decide +kernel
theorem dL_clock_1 : decode cL_clock 1 = .ok (.iconst 0, 1) := by decide +kernel
theorem dL_clock_2 : decode cL_clock 2 = .ok (.aload_n 0, 1) := by decide +kernel
theorem dL_clock_3 : decode cL_clock 3 = .ok (.iload_n 1, 1) := by decide +kernel
theorem dL_clock_4 : decode cL_clock 4 = .ok (.invokevirtual 68, 3) := by decide +kernel
theorem dL_clock_7 : decode cL_clock 7 = .ok (.lastore, 1) := by decide +kernel
theorem dL_clock_8 : decode cL_clock 8 = .ok (.goto 9, 3) := by decide +kernel
theorem dL_clock_11 : decode cL_clock 11 = .ok (.astore_n 3, 1) := by decide +kernel
theorem dL_clock_12 : decode cL_clock 12 = .ok (.iconst 1, 1) := by decide +kernel
theorem dL_clock_13 : decode cL_clock 13 = .ok (.ireturn, 1) := by decide +kernel
theorem dL_clock_14 : decode cL_clock 14 = .ok (.astore_n 3, 1) := by decide +kernel
theorem dL_clock_15 : decode cL_clock 15 = .ok (.iconst 2, 1) := by decide +kernel
theorem dL_clock_16 : decode cL_clock 16 = .ok (.ireturn, 1) := by decide +kernel
theorem dL_clock_17 : decode cL_clock 17 = .ok (.iconst 0, 1) := by decide +kernel
theorem dL_clock_18 : decode cL_clock 18 = .ok (.ireturn, 1) := by decide +kernel
set_option maxRecDepth 100000 in
set_option maxHeartbeats 4000000 in
theorem c_L_clock {l : Launch} (hlf : l.stackTraces = false) {G : Gp} {sz N : Nat} {x1 : Int32} {h0 : Nat} {a0 a1 : Nat → Nat} {ra rb : Nat → Nat → Nat} {u0 u1 : Ob} {u2 u3 : Nat → Ob} {ho : Nat} {fo : Nat → Int64} {q : (Nat ⊕ Int64) × Ob × Ob × (Nat → Ob) × (Nat → Ob)} (hf : f_X5_clock N x1 u0 u1 u2 u3 = some q) (hk : ∀ k, q.1 = .inl k → k = 1 ∨ k = 3) : Met l yL_clock (Cond.codeWith yL_clock cL_clock 4 (some .int) [(0, 8, 11, 19), (0, 8, 14, 57)] :: lw_g) ({ frames := 7, cells := 1, slots := 6, locals := 115 } : Room) (va_Pc [.ref h0, .int x1, .ref ho] (pw G ([(ho, .inl (G.2.2.1 2, 1, .inr (.inl fo)))] ++ wAll G h0 a0 u0 a1 u1 ra rb u2 u3) sz)) (va_Qi (fun (r : Int32) (v : (Nat → Int64) × Ob × Ob × (Nat → Ob) × (Nat → Ob)) => hc 1 q.1 = r ∧ (hoL fo q.1, q.2) = v) (bw G (fun v : (Nat → Int64) × Ob × Ob × (Nat → Ob) × (Nat → Ob) => [(ho, .inl (G.2.2.1 2, 1, .inr (.inl v.1)))] ++ wAll G h0 a0 v.2.1 a1 v.2.2.1 ra rb v.2.2.2.1 v.2.2.2.2) (va_A ([(ho, .inl (G.2.2.1 2, 1, .inr (.inl fo)))] ++ wAll G h0 a0 u0 a1 u1 ra rb u2 u3) sz)) (va_A ([(ho, .inl (G.2.2.1 2, 1, .inr (.inl fo)))] ++ wAll G h0 a0 u0 a1 u1 ra rb u2 u3) sz)) 1 6 (va_A ([(ho, .inl (G.2.2.1 2, 1, .inr (.inl fo)))] ++ wAll G h0 a0 u0 a1 u1 ra rb u2 u3) sz) := by
  refine mtw (y := yL_clock) (maxL := 4) (av := [.ref h0, .int x1, .ref ho]) (Qc := fun A => va_Qi (fun (r : Int32) (v : (Nat → Int64) × Ob × Ob × (Nat → Ob) × (Nat → Ob)) => hc 1 q.1 = r ∧ (hoL fo q.1, q.2) = v) (bw G (fun v : (Nat → Int64) × Ob × Ob × (Nat → Ob) × (Nat → Ob) => [(ho, .inl (G.2.2.1 2, 1, .inr (.inl v.1)))] ++ wAll G h0 a0 v.2.1 a1 v.2.2.1 ra rb v.2.2.2.1 v.2.2.2.2) A) A) (by decide) (Nat.le_of_ble_eq_true rfl) ?_
  intro p e s m below meth c A ls hx hb hr hlk hml htb hts hown hA hP hK hD hE hS hl
  have hown : s.vm.findClass RL = some m.cls := hown
  have hg : ∀ w ∈ lw_g, w.before ([.ref h0, .int x1, .ref ho] : List Value).toArray s = true := fun w h => hts w (List.mem_cons_of_mem _ h)
  have hC : CallFix p m c cL_clock 4 s ([.ref h0, .int x1, .ref ho] : List Value).toArray lw_g RL := ⟨hx, hb, hml, hown, hg⟩
  have hl : lv_has ls 4 [(0, .ref h0), (1, .int x1), (2, .ref ho)] := hl
  refine lv_aload_n hx hb dL_clock_0 rfl (lv_at hl 2 rfl) ?_
  refine lv_iconst (v := (0 : Int32)) hx hb dL_clock_1 (by decide) ?_
  refine lv_aload_n hx hb dL_clock_2 rfl (lv_at hl 0 rfl) ?_
  refine lv_iload_n hx hb dL_clock_3 rfl (lv_at hl 1 rfl) ?_
  refine kXl (As := [.int x1]) (rest := [.int (0 : Int32), .ref ho]) hC (c_X5_clock hlf (G := G) hf) kq4_119 kc_X5_clock (by decide) 0 (ci := 3) rfl rfl hP hK hD hE hS hA (out := (fun v : Ob × Ob × (Nat → Ob) × (Nat → Ob) => [(ho, .inl (G.2.2.1 2, 1, .inr (.inl fo)))] ++ wAll G h0 a0 v.1 a1 v.2.1 ra rb v.2.2.1 v.2.2.2)) (wr := [(ho, .inl (G.2.2.1 2, 1, .inr (.inl fo)))]) List.perm_append_comm (fun _ => List.perm_append_comm) hl.1 (Nat.le_of_ble_eq_true rfl) ⟨Nat.le_of_ble_eq_true rfl, Nat.le_of_ble_eq_true rfl⟩ dL_clock_4 (fun k E u9 q9 ce H locs hkE hw hP hD hS h1 h2 h3 => ?_) (fun r9 u9 H locs hw hP hD hS => ?_)
  · obtain ⟨v0, v1, v2, v3⟩ := u9
    have hw : q = (.inl k, (v0, v1, v2, v3)) := hw
    subst hw
    have hk := hk k rfl
    rcases hk with rfl | rfl
    · cases hkE
      refine vx_catch (name := "java/lang/IllegalArgumentException") (E := "java/lang/IllegalArgumentException") hown [] ⟨0, 8, 11, 19⟩ [⟨0, 8, 14, 57⟩] htb (fun z h => absurd h List.not_mem_nil) (by decide) (by decide) (hg _ kq2_186) ((hE.2.2.2.2.2.1 "java/lang/IllegalArgumentException" (by decide +kernel)).use rfl) h1 h2 h3 ?_
      refine lv_astore_n (lv' := [(3, .ref q9), (0, .ref h0), (1, .int x1), (2, .ref ho)]) hx hb dL_clock_11 rfl hl (by decide) rfl (fun ls hl => ?_)
      refine lv_iconst (v := (1 : Int32)) hx hb dL_clock_12 (by decide) ?_
      refine W.widen (k := 1) (n := 6) (by decide) (by decide) ?_
      exact e_i (post := (fun (r : Int32) (v : (Nat → Int64) × Ob × Ob × (Nat → Ob) × (Nat → Ob)) => hc 1 ((.inl 1, (v0, v1, v2, v3)) : (Nat ⊕ Int64) × Ob × Ob × (Nat → Ob) × (Nat → Ob)).1 = r ∧ (hoL fo ((.inl 1, (v0, v1, v2, v3)) : (Nat ⊕ Int64) × Ob × Ob × (Nat → Ob) × (Nat → Ob)).1, ((.inl 1, (v0, v1, v2, v3)) : (Nat ⊕ Int64) × Ob × Ob × (Nat → Ob) × (Nat → Ob)).2) = v)) (wf := (fun v : (Nat → Int64) × Ob × Ob × (Nat → Ob) × (Nat → Ob) => [(ho, .inl (G.2.2.1 2, 1, .inr (.inl v.1)))] ++ wAll G h0 a0 v.2.1 a1 v.2.2.1 ra rb v.2.2.2.1 v.2.2.2.2)) hx hb hr hlk (fo, v0, v1, v2, v3) ⟨rfl, rfl⟩ hP hK hD hS dL_clock_13
    · cases hkE
      refine vx_catch (name := "java/util/NoSuchElementException") (E := "java/util/NoSuchElementException") hown [⟨0, 8, 11, 19⟩] ⟨0, 8, 14, 57⟩ [] htb (fun z h => by obtain rfl := List.mem_singleton.mp h; exact Or.inr ⟨by decide, "java/lang/IllegalArgumentException", hg _ kq2_186, hE.2.2.2.2.2.2.1 "java/util/NoSuchElementException" (by decide +kernel) "java/lang/IllegalArgumentException" (by decide +kernel) (by decide +kernel)⟩) (by decide) (by decide) (hg _ kq4_68) ((hE.2.2.2.2.2.1 "java/util/NoSuchElementException" (by decide +kernel)).use rfl) h1 h2 h3 ?_
      refine lv_astore_n (lv' := [(3, .ref q9), (0, .ref h0), (1, .int x1), (2, .ref ho)]) hx hb dL_clock_14 rfl hl (by decide) rfl (fun ls hl => ?_)
      refine lv_iconst (v := (2 : Int32)) hx hb dL_clock_15 (by decide) ?_
      refine W.widen (k := 1) (n := 6) (by decide) (by decide) ?_
      exact e_i (post := (fun (r : Int32) (v : (Nat → Int64) × Ob × Ob × (Nat → Ob) × (Nat → Ob)) => hc 1 ((.inl 3, (v0, v1, v2, v3)) : (Nat ⊕ Int64) × Ob × Ob × (Nat → Ob) × (Nat → Ob)).1 = r ∧ (hoL fo ((.inl 3, (v0, v1, v2, v3)) : (Nat ⊕ Int64) × Ob × Ob × (Nat → Ob) × (Nat → Ob)).1, ((.inl 3, (v0, v1, v2, v3)) : (Nat ⊕ Int64) × Ob × Ob × (Nat → Ob) × (Nat → Ob)).2) = v)) (wf := (fun v : (Nat → Int64) × Ob × Ob × (Nat → Ob) × (Nat → Ob) => [(ho, .inl (G.2.2.1 2, 1, .inr (.inl v.1)))] ++ wAll G h0 a0 v.2.1 a1 v.2.2.1 ra rb v.2.2.2.1 v.2.2.2.2)) hx hb hr hlk (fo, v0, v1, v2, v3) ⟨rfl, rfl⟩ hP hK hD hS dL_clock_16
  · have hw : q = (.inr r9, u9) := hw
    subst hw
    refine va_last (f := fo) hx hb hK hP hD hS 0 2 rfl rfl (vin (by decide)) dL_clock_7 (fun H locs hP hD hS => ?_)
    have hP : va_P (gD G) vwCl ([(ho, .inl (G.2.2.1 2, 1, .inr (.inl (vp_updL fo (0 : Int32).toNatClampNeg r9))))] ++ wAll G h0 a0 u9.1 a1 u9.2.1 ra rb u9.2.2.1 u9.2.2.2) H := hP
    have hD : va_D A ([(ho, .inl (G.2.2.1 2, 1, .inr (.inl (vp_updL fo (0 : Int32).toNatClampNeg r9))))] ++ wAll G h0 a0 u9.1 a1 u9.2.1 ra rb u9.2.2.1 u9.2.2.2) := hD
    refine lv_goto (tgt := 17) hx hb dL_clock_8 (by decide) ?_
    refine lv_iconst (v := (0 : Int32)) hx hb dL_clock_17 (by decide) ?_
    refine W.widen (k := 1) (n := 6) (by decide) (by decide) ?_
    exact e_i (post := (fun (r : Int32) (v : (Nat → Int64) × Ob × Ob × (Nat → Ob) × (Nat → Ob)) => hc 1 ((.inr r9, u9) : (Nat ⊕ Int64) × Ob × Ob × (Nat → Ob) × (Nat → Ob)).1 = r ∧ (hoL fo ((.inr r9, u9) : (Nat ⊕ Int64) × Ob × Ob × (Nat → Ob) × (Nat → Ob)).1, ((.inr r9, u9) : (Nat ⊕ Int64) × Ob × Ob × (Nat → Ob) × (Nat → Ob)).2) = v)) (wf := (fun v : (Nat → Int64) × Ob × Ob × (Nat → Ob) × (Nat → Ob) => [(ho, .inl (G.2.2.1 2, 1, .inr (.inl v.1)))] ++ wAll G h0 a0 v.2.1 a1 v.2.2.1 ra rb v.2.2.2.1 v.2.2.2.2)) hx hb hr hlk ((vp_updL fo (0 : Int32).toNatClampNeg r9), u9) ⟨rfl, rfl⟩ hP hK hD hS dL_clock_18
theorem kc_L_clock : Cond.static yL_clock ∈ lw_g ∧ Cond.initialized yL_clock.cls ∈ lw_g ∧ Cond.codeWith yL_clock cL_clock 4 (some .int) [(0, 8, 11, 19), (0, 8, 14, 57)] ∈ lw_g ∧ yL_clock.cls ≠ "java/lang/invoke/MethodHandle" ∧ yL_clock.cls ≠ "java/lang/invoke/VarHandle" ∧ (parseMethodDescriptor yL_clock.desc).map (fun d => d.parameters.length) = some 3 := ⟨kq4_117, kq1_0, kq4_118, by decide +kernel, by decide +kernel, by decide +kernel⟩
theorem dL_code_0 : decode cL_code 0 = .ok (.aload_n 3, 1) := by decide +kernel
theorem dL_code_1 : decode cL_code 1 = .ok (.iconst 0, 1) := by decide +kernel
theorem dL_code_2 : decode cL_code 2 = .ok (.aload_n 0, 1) := by decide +kernel
theorem dL_code_3 : decode cL_code 3 = .ok (.iload_n 1, 1) := by decide +kernel
theorem dL_code_4 : decode cL_code 4 = .ok (.iload_n 2, 1) := by decide +kernel
theorem dL_code_5 : decode cL_code 5 = .ok (.invokevirtual 31, 3) := by decide +kernel
theorem dL_code_8 : decode cL_code 8 = .ok (.lastore, 1) := by decide +kernel
theorem dL_code_9 : decode cL_code 9 = .ok (.goto 7, 3) := by decide +kernel
theorem dL_code_12 : decode cL_code 12 = .ok (.astore 4, 2) := by decide +kernel
theorem dL_code_14 : decode cL_code 14 = .ok (.iconst 1, 1) := by decide +kernel
theorem dL_code_15 : decode cL_code 15 = .ok (.ireturn, 1) := by decide +kernel
theorem dL_code_16 : decode cL_code 16 = .ok (.iconst 0, 1) := by decide +kernel
theorem dL_code_17 : decode cL_code 17 = .ok (.ireturn, 1) := by decide +kernel
set_option maxRecDepth 100000 in
set_option maxHeartbeats 4000000 in
theorem c_L_code {l : Launch} (hlf : l.stackTraces = false) {G : Gp} {sz N : Nat} {x1 : Int32} {x2 : Bool} {h0 : Nat} {a0 a1 : Nat → Nat} {ra rb : Nat → Nat → Nat} {u0 u1 : Ob} {u2 u3 : Nat → Ob} {ho : Nat} {fo : Nat → Int64} {q : (Nat ⊕ Int64) × Ob × Ob × (Nat → Ob) × (Nat → Ob)} (hf : f_X5_code N x1 x2 u0 u1 u2 u3 = some q) (hk : ∀ k, q.1 = .inl k → k = 1) : Met l yL_code (Cond.codeWith yL_code cL_code 5 (some .int) [(0, 9, 12, 19)] :: lw_g) ({ frames := 7, cells := 1, slots := 6, locals := 114 } : Room) (va_Pc [.ref h0, .int x1, .int (bI x2), .ref ho] (pw G ([(ho, .inl (G.2.2.1 2, 1, .inr (.inl fo)))] ++ wAll G h0 a0 u0 a1 u1 ra rb u2 u3) sz)) (va_Qi (fun (r : Int32) (v : (Nat → Int64) × Ob × Ob × (Nat → Ob) × (Nat → Ob)) => hc 1 q.1 = r ∧ (hoL fo q.1, q.2) = v) (bw G (fun v : (Nat → Int64) × Ob × Ob × (Nat → Ob) × (Nat → Ob) => [(ho, .inl (G.2.2.1 2, 1, .inr (.inl v.1)))] ++ wAll G h0 a0 v.2.1 a1 v.2.2.1 ra rb v.2.2.2.1 v.2.2.2.2) (va_A ([(ho, .inl (G.2.2.1 2, 1, .inr (.inl fo)))] ++ wAll G h0 a0 u0 a1 u1 ra rb u2 u3) sz)) (va_A ([(ho, .inl (G.2.2.1 2, 1, .inr (.inl fo)))] ++ wAll G h0 a0 u0 a1 u1 ra rb u2 u3) sz)) 1 6 (va_A ([(ho, .inl (G.2.2.1 2, 1, .inr (.inl fo)))] ++ wAll G h0 a0 u0 a1 u1 ra rb u2 u3) sz) := by
  refine mtw (y := yL_code) (maxL := 5) (av := [.ref h0, .int x1, .int (bI x2), .ref ho]) (Qc := fun A => va_Qi (fun (r : Int32) (v : (Nat → Int64) × Ob × Ob × (Nat → Ob) × (Nat → Ob)) => hc 1 q.1 = r ∧ (hoL fo q.1, q.2) = v) (bw G (fun v : (Nat → Int64) × Ob × Ob × (Nat → Ob) × (Nat → Ob) => [(ho, .inl (G.2.2.1 2, 1, .inr (.inl v.1)))] ++ wAll G h0 a0 v.2.1 a1 v.2.2.1 ra rb v.2.2.2.1 v.2.2.2.2) A) A) (by decide) (Nat.le_of_ble_eq_true rfl) ?_
  intro p e s m below meth c A ls hx hb hr hlk hml htb hts hown hA hP hK hD hE hS hl
  have hown : s.vm.findClass RL = some m.cls := hown
  have hg : ∀ w ∈ lw_g, w.before ([.ref h0, .int x1, .int (bI x2), .ref ho] : List Value).toArray s = true := fun w h => hts w (List.mem_cons_of_mem _ h)
  have hC : CallFix p m c cL_code 5 s ([.ref h0, .int x1, .int (bI x2), .ref ho] : List Value).toArray lw_g RL := ⟨hx, hb, hml, hown, hg⟩
  have hl : lv_has ls 5 [(0, .ref h0), (1, .int x1), (2, .int (bI x2)), (3, .ref ho)] := hl
  refine lv_aload_n hx hb dL_code_0 rfl (lv_at hl 3 rfl) ?_
  refine lv_iconst (v := (0 : Int32)) hx hb dL_code_1 (by decide) ?_
  refine lv_aload_n hx hb dL_code_2 rfl (lv_at hl 0 rfl) ?_
  refine lv_iload_n hx hb dL_code_3 rfl (lv_at hl 1 rfl) ?_
  refine lv_iload_n hx hb dL_code_4 rfl (lv_at hl 2 rfl) ?_
  refine kXl (As := [.int x1, .int (bI x2)]) (rest := [.int (0 : Int32), .ref ho]) hC (c_X5_code hlf (G := G) hf) kq3_229 kc_X5_code (by decide) 0 (ci := 3) rfl rfl hP hK hD hE hS hA (out := (fun v : Ob × Ob × (Nat → Ob) × (Nat → Ob) => [(ho, .inl (G.2.2.1 2, 1, .inr (.inl fo)))] ++ wAll G h0 a0 v.1 a1 v.2.1 ra rb v.2.2.1 v.2.2.2)) (wr := [(ho, .inl (G.2.2.1 2, 1, .inr (.inl fo)))]) List.perm_append_comm (fun _ => List.perm_append_comm) hl.1 (Nat.le_of_ble_eq_true rfl) ⟨Nat.le_of_ble_eq_true rfl, Nat.le_of_ble_eq_true rfl⟩ dL_code_5 (fun k E u9 q9 ce H locs hkE hw hP hD hS h1 h2 h3 => ?_) (fun r9 u9 H locs hw hP hD hS => ?_)
  · obtain ⟨v0, v1, v2, v3⟩ := u9
    have hw : q = (.inl k, (v0, v1, v2, v3)) := hw
    subst hw
    have hk := hk k rfl
    subst hk
    cases hkE
    refine vx_catch (name := "java/lang/IllegalArgumentException") (E := "java/lang/IllegalArgumentException") hown [] ⟨0, 9, 12, 19⟩ [] htb (fun z h => absurd h List.not_mem_nil) (by decide) (by decide) (hg _ kq2_186) ((hE.2.2.2.2.2.1 "java/lang/IllegalArgumentException" (by decide +kernel)).use rfl) h1 h2 h3 ?_
    refine lv_astore (lv' := [(4, .ref q9), (0, .ref h0), (1, .int x1), (2, .int (bI x2)), (3, .ref ho)]) hx hb dL_code_12 hl (by decide) rfl (fun ls hl => ?_)
    refine lv_iconst (v := (1 : Int32)) hx hb dL_code_14 (by decide) ?_
    refine W.widen (k := 1) (n := 6) (by decide) (by decide) ?_
    exact e_i (post := (fun (r : Int32) (v : (Nat → Int64) × Ob × Ob × (Nat → Ob) × (Nat → Ob)) => hc 1 ((.inl 1, (v0, v1, v2, v3)) : (Nat ⊕ Int64) × Ob × Ob × (Nat → Ob) × (Nat → Ob)).1 = r ∧ (hoL fo ((.inl 1, (v0, v1, v2, v3)) : (Nat ⊕ Int64) × Ob × Ob × (Nat → Ob) × (Nat → Ob)).1, ((.inl 1, (v0, v1, v2, v3)) : (Nat ⊕ Int64) × Ob × Ob × (Nat → Ob) × (Nat → Ob)).2) = v)) (wf := (fun v : (Nat → Int64) × Ob × Ob × (Nat → Ob) × (Nat → Ob) => [(ho, .inl (G.2.2.1 2, 1, .inr (.inl v.1)))] ++ wAll G h0 a0 v.2.1 a1 v.2.2.1 ra rb v.2.2.2.1 v.2.2.2.2)) hx hb hr hlk (fo, v0, v1, v2, v3) ⟨rfl, rfl⟩ hP hK hD hS dL_code_15
  · have hw : q = (.inr r9, u9) := hw
    subst hw
    refine va_last (f := fo) hx hb hK hP hD hS 0 2 rfl rfl (vin (by decide)) dL_code_8 (fun H locs hP hD hS => ?_)
    have hP : va_P (gD G) vwCl ([(ho, .inl (G.2.2.1 2, 1, .inr (.inl (vp_updL fo (0 : Int32).toNatClampNeg r9))))] ++ wAll G h0 a0 u9.1 a1 u9.2.1 ra rb u9.2.2.1 u9.2.2.2) H := hP
    have hD : va_D A ([(ho, .inl (G.2.2.1 2, 1, .inr (.inl (vp_updL fo (0 : Int32).toNatClampNeg r9))))] ++ wAll G h0 a0 u9.1 a1 u9.2.1 ra rb u9.2.2.1 u9.2.2.2) := hD
    refine lv_goto (tgt := 16) hx hb dL_code_9 (by decide) ?_
    refine lv_iconst (v := (0 : Int32)) hx hb dL_code_16 (by decide) ?_
    refine W.widen (k := 1) (n := 6) (by decide) (by decide) ?_
    exact e_i (post := (fun (r : Int32) (v : (Nat → Int64) × Ob × Ob × (Nat → Ob) × (Nat → Ob)) => hc 1 ((.inr r9, u9) : (Nat ⊕ Int64) × Ob × Ob × (Nat → Ob) × (Nat → Ob)).1 = r ∧ (hoL fo ((.inr r9, u9) : (Nat ⊕ Int64) × Ob × Ob × (Nat → Ob) × (Nat → Ob)).1, ((.inr r9, u9) : (Nat ⊕ Int64) × Ob × Ob × (Nat → Ob) × (Nat → Ob)).2) = v)) (wf := (fun v : (Nat → Int64) × Ob × Ob × (Nat → Ob) × (Nat → Ob) => [(ho, .inl (G.2.2.1 2, 1, .inr (.inl v.1)))] ++ wAll G h0 a0 v.2.1 a1 v.2.2.1 ra rb v.2.2.2.1 v.2.2.2.2)) hx hb hr hlk ((vp_updL fo (0 : Int32).toNatClampNeg r9), u9) ⟨rfl, rfl⟩ hP hK hD hS dL_code_17
theorem kc_L_code : Cond.static yL_code ∈ lw_g ∧ Cond.initialized yL_code.cls ∈ lw_g ∧ Cond.codeWith yL_code cL_code 5 (some .int) [(0, 9, 12, 19)] ∈ lw_g ∧ yL_code.cls ≠ "java/lang/invoke/MethodHandle" ∧ yL_code.cls ≠ "java/lang/invoke/VarHandle" ∧ (parseMethodDescriptor yL_code.desc).map (fun d => d.parameters.length) = some 4 := ⟨kq3_227, kq1_0, kq3_228, by decide +kernel, by decide +kernel, by decide +kernel⟩
theorem dL_count_0 : decode cL_count 0 = .ok (.aload_n 2, 1) := by decide +kernel
theorem dL_count_1 : decode cL_count 1 = .ok (.iconst 0, 1) := by decide +kernel
theorem dL_count_2 : decode cL_count 2 = .ok (.aload_n 0, 1) := by decide +kernel
theorem dL_count_3 : decode cL_count 3 = .ok (.iload_n 1, 1) := by decide +kernel
theorem dL_count_4 : decode cL_count 4 = .ok (.invokevirtual 21, 3) := by decide +kernel
theorem dL_count_7 : decode cL_count 7 = .ok (.i2l, 1) := by decide +kernel
theorem dL_count_8 : decode cL_count 8 = .ok (.lastore, 1) := by decide +kernel
theorem dL_count_9 : decode cL_count 9 = .ok (.goto 6, 3) := by decide +kernel
theorem dL_count_12 : decode cL_count 12 = .ok (.astore_n 3, 1) := by decide +kernel
theorem dL_count_13 : decode cL_count 13 = .ok (.iconst 1, 1) := by decide +kernel
theorem dL_count_14 : decode cL_count 14 = .ok (.ireturn, 1) := by decide +kernel
theorem dL_count_15 : decode cL_count 15 = .ok (.iconst 0, 1) := by decide +kernel
theorem dL_count_16 : decode cL_count 16 = .ok (.ireturn, 1) := by decide +kernel
set_option maxRecDepth 100000 in
set_option maxHeartbeats 4000000 in
theorem c_L_count {l : Launch} (hlf : l.stackTraces = false) {G : Gp} {sz N : Nat} {x1 : Int32} {h0 : Nat} {a0 a1 : Nat → Nat} {ra rb : Nat → Nat → Nat} {u0 u1 : Ob} {u2 u3 : Nat → Ob} {ho : Nat} {fo : Nat → Int64} {q : (Nat ⊕ Int32) × Ob × Ob × (Nat → Ob) × (Nat → Ob)} (hf : f_X5_count N x1 u0 u1 u2 u3 = some q) (hk : ∀ k, q.1 = .inl k → k = 1) : Met l yL_count (Cond.codeWith yL_count cL_count 4 (some .int) [(0, 9, 12, 19)] :: lw_g) ({ frames := 7, cells := 1, slots := 6, locals := 111 } : Room) (va_Pc [.ref h0, .int x1, .ref ho] (pw G ([(ho, .inl (G.2.2.1 2, 1, .inr (.inl fo)))] ++ wAll G h0 a0 u0 a1 u1 ra rb u2 u3) sz)) (va_Qi (fun (r : Int32) (v : (Nat → Int64) × Ob × Ob × (Nat → Ob) × (Nat → Ob)) => hc 1 q.1 = r ∧ (hoI fo q.1, q.2) = v) (bw G (fun v : (Nat → Int64) × Ob × Ob × (Nat → Ob) × (Nat → Ob) => [(ho, .inl (G.2.2.1 2, 1, .inr (.inl v.1)))] ++ wAll G h0 a0 v.2.1 a1 v.2.2.1 ra rb v.2.2.2.1 v.2.2.2.2) (va_A ([(ho, .inl (G.2.2.1 2, 1, .inr (.inl fo)))] ++ wAll G h0 a0 u0 a1 u1 ra rb u2 u3) sz)) (va_A ([(ho, .inl (G.2.2.1 2, 1, .inr (.inl fo)))] ++ wAll G h0 a0 u0 a1 u1 ra rb u2 u3) sz)) 1 6 (va_A ([(ho, .inl (G.2.2.1 2, 1, .inr (.inl fo)))] ++ wAll G h0 a0 u0 a1 u1 ra rb u2 u3) sz) := by
  refine mtw (y := yL_count) (maxL := 4) (av := [.ref h0, .int x1, .ref ho]) (Qc := fun A => va_Qi (fun (r : Int32) (v : (Nat → Int64) × Ob × Ob × (Nat → Ob) × (Nat → Ob)) => hc 1 q.1 = r ∧ (hoI fo q.1, q.2) = v) (bw G (fun v : (Nat → Int64) × Ob × Ob × (Nat → Ob) × (Nat → Ob) => [(ho, .inl (G.2.2.1 2, 1, .inr (.inl v.1)))] ++ wAll G h0 a0 v.2.1 a1 v.2.2.1 ra rb v.2.2.2.1 v.2.2.2.2) A) A) (by decide) (Nat.le_of_ble_eq_true rfl) ?_
  intro p e s m below meth c A ls hx hb hr hlk hml htb hts hown hA hP hK hD hE hS hl
  have hown : s.vm.findClass RL = some m.cls := hown
  have hg : ∀ w ∈ lw_g, w.before ([.ref h0, .int x1, .ref ho] : List Value).toArray s = true := fun w h => hts w (List.mem_cons_of_mem _ h)
  have hC : CallFix p m c cL_count 4 s ([.ref h0, .int x1, .ref ho] : List Value).toArray lw_g RL := ⟨hx, hb, hml, hown, hg⟩
  have hl : lv_has ls 4 [(0, .ref h0), (1, .int x1), (2, .ref ho)] := hl
  refine lv_aload_n hx hb dL_count_0 rfl (lv_at hl 2 rfl) ?_
  refine lv_iconst (v := (0 : Int32)) hx hb dL_count_1 (by decide) ?_
  refine lv_aload_n hx hb dL_count_2 rfl (lv_at hl 0 rfl) ?_
  refine lv_iload_n hx hb dL_count_3 rfl (lv_at hl 1 rfl) ?_
  refine kXi (As := [.int x1]) (rest := [.int (0 : Int32), .ref ho]) hC (c_X5_count hlf (G := G) hf) kq3_188 kc_X5_count (by decide) 0 (ci := 3) rfl rfl hP hK hD hE hS hA (out := (fun v : Ob × Ob × (Nat → Ob) × (Nat → Ob) => [(ho, .inl (G.2.2.1 2, 1, .inr (.inl fo)))] ++ wAll G h0 a0 v.1 a1 v.2.1 ra rb v.2.2.1 v.2.2.2)) (wr := [(ho, .inl (G.2.2.1 2, 1, .inr (.inl fo)))]) List.perm_append_comm (fun _ => List.perm_append_comm) hl.1 (Nat.le_of_ble_eq_true rfl) ⟨Nat.le_of_ble_eq_true rfl, Nat.le_of_ble_eq_true rfl⟩ dL_count_4 (fun k E u9 q9 ce H locs hkE hw hP hD hS h1 h2 h3 => ?_) (fun r9 u9 H locs hw hP hD hS => ?_)
  · obtain ⟨v0, v1, v2, v3⟩ := u9
    have hw : q = (.inl k, (v0, v1, v2, v3)) := hw
    subst hw
    have hk := hk k rfl
    subst hk
    cases hkE
    refine vx_catch (name := "java/lang/IllegalArgumentException") (E := "java/lang/IllegalArgumentException") hown [] ⟨0, 9, 12, 19⟩ [] htb (fun z h => absurd h List.not_mem_nil) (by decide) (by decide) (hg _ kq2_186) ((hE.2.2.2.2.2.1 "java/lang/IllegalArgumentException" (by decide +kernel)).use rfl) h1 h2 h3 ?_
    refine lv_astore_n (lv' := [(3, .ref q9), (0, .ref h0), (1, .int x1), (2, .ref ho)]) hx hb dL_count_12 rfl hl (by decide) rfl (fun ls hl => ?_)
    refine lv_iconst (v := (1 : Int32)) hx hb dL_count_13 (by decide) ?_
    refine W.widen (k := 1) (n := 6) (by decide) (by decide) ?_
    exact e_i (post := (fun (r : Int32) (v : (Nat → Int64) × Ob × Ob × (Nat → Ob) × (Nat → Ob)) => hc 1 ((.inl 1, (v0, v1, v2, v3)) : (Nat ⊕ Int32) × Ob × Ob × (Nat → Ob) × (Nat → Ob)).1 = r ∧ (hoI fo ((.inl 1, (v0, v1, v2, v3)) : (Nat ⊕ Int32) × Ob × Ob × (Nat → Ob) × (Nat → Ob)).1, ((.inl 1, (v0, v1, v2, v3)) : (Nat ⊕ Int32) × Ob × Ob × (Nat → Ob) × (Nat → Ob)).2) = v)) (wf := (fun v : (Nat → Int64) × Ob × Ob × (Nat → Ob) × (Nat → Ob) => [(ho, .inl (G.2.2.1 2, 1, .inr (.inl v.1)))] ++ wAll G h0 a0 v.2.1 a1 v.2.2.1 ra rb v.2.2.2.1 v.2.2.2.2)) hx hb hr hlk (fo, v0, v1, v2, v3) ⟨rfl, rfl⟩ hP hK hD hS dL_count_14
  · have hw : q = (.inr r9, u9) := hw
    subst hw
    refine lv_i2l (v := r9.toInt64) hx hb dL_count_7 rfl ?_
    refine va_last (f := fo) hx hb hK hP hD hS 0 2 rfl rfl (vin (by decide)) dL_count_8 (fun H locs hP hD hS => ?_)
    have hP : va_P (gD G) vwCl ([(ho, .inl (G.2.2.1 2, 1, .inr (.inl (vp_updL fo (0 : Int32).toNatClampNeg r9.toInt64))))] ++ wAll G h0 a0 u9.1 a1 u9.2.1 ra rb u9.2.2.1 u9.2.2.2) H := hP
    have hD : va_D A ([(ho, .inl (G.2.2.1 2, 1, .inr (.inl (vp_updL fo (0 : Int32).toNatClampNeg r9.toInt64))))] ++ wAll G h0 a0 u9.1 a1 u9.2.1 ra rb u9.2.2.1 u9.2.2.2) := hD
    refine lv_goto (tgt := 15) hx hb dL_count_9 (by decide) ?_
    refine lv_iconst (v := (0 : Int32)) hx hb dL_count_15 (by decide) ?_
    refine W.widen (k := 1) (n := 6) (by decide) (by decide) ?_
    exact e_i (post := (fun (r : Int32) (v : (Nat → Int64) × Ob × Ob × (Nat → Ob) × (Nat → Ob)) => hc 1 ((.inr r9, u9) : (Nat ⊕ Int32) × Ob × Ob × (Nat → Ob) × (Nat → Ob)).1 = r ∧ (hoI fo ((.inr r9, u9) : (Nat ⊕ Int32) × Ob × Ob × (Nat → Ob) × (Nat → Ob)).1, ((.inr r9, u9) : (Nat ⊕ Int32) × Ob × Ob × (Nat → Ob) × (Nat → Ob)).2) = v)) (wf := (fun v : (Nat → Int64) × Ob × Ob × (Nat → Ob) × (Nat → Ob) => [(ho, .inl (G.2.2.1 2, 1, .inr (.inl v.1)))] ++ wAll G h0 a0 v.2.1 a1 v.2.2.1 ra rb v.2.2.2.1 v.2.2.2.2)) hx hb hr hlk ((vp_updL fo (0 : Int32).toNatClampNeg r9.toInt64), u9) ⟨rfl, rfl⟩ hP hK hD hS dL_count_16
theorem kc_L_count : Cond.static yL_count ∈ lw_g ∧ Cond.initialized yL_count.cls ∈ lw_g ∧ Cond.codeWith yL_count cL_count 4 (some .int) [(0, 9, 12, 19)] ∈ lw_g ∧ yL_count.cls ≠ "java/lang/invoke/MethodHandle" ∧ yL_count.cls ≠ "java/lang/invoke/VarHandle" ∧ (parseMethodDescriptor yL_count.desc).map (fun d => d.parameters.length) = some 3 := ⟨kq3_186, kq1_0, kq3_187, by decide +kernel, by decide +kernel, by decide +kernel⟩
theorem dL_deviation_0 : decode cL_deviation 0 = .ok (.aload_n 1, 1) := by decide +kernel
theorem dL_deviation_1 : decode cL_deviation 1 = .ok (.iconst 0, 1) := by decide +kernel
theorem dL_deviation_2 : decode cL_deviation 2 = .ok (.aload_n 0, 1) := by decide +kernel
theorem dL_deviation_3 : decode cL_deviation 3 = .ok (.invokevirtual 72, 3) := by decide +kernel
theorem dL_deviation_6 : decode cL_deviation 6 = .ok (.f2d, 1) := by decide +kernel
theorem dL_deviation_7 : decode cL_deviation 7 = .ok (.dastore, 1) := by decide +kernel
theorem dL_deviation_8 : decode cL_deviation 8 = .ok (.goto 6, 3) := by decide +kernel
theorem dL_deviation_11 : decode cL_deviation 11 = .ok (.astore_n 2, 1) := by decide +kernel
theorem dL_deviation_12 : decode cL_deviation 12 = .ok (.iconst 1, 1) := by decide +kernel
theorem dL_deviation_13 : decode cL_deviation 13 = .ok (.ireturn, 1) := by decide +kernel
theorem dL_deviation_14 : decode cL_deviation 14 = .ok (.iconst 0, 1) := by decide +kernel
theorem dL_deviation_15 : decode cL_deviation 15 = .ok (.ireturn, 1) := by decide +kernel
set_option maxRecDepth 100000 in
set_option maxHeartbeats 4000000 in
theorem c_L_deviation {l : Launch} (hlf : l.stackTraces = false) {G : Gp} {sz N : Nat}  {h0 : Nat} {a0 a1 : Nat → Nat} {ra rb : Nat → Nat → Nat} {u0 u1 : Ob} {u2 u3 : Nat → Ob} {ho : Nat} {fo : Nat → UInt64} {q : (Nat ⊕ UInt32) × Ob × Ob × (Nat → Ob) × (Nat → Ob)} (hf : f_X5_deviation N u0 u1 u2 u3 = some q) (hk : ∀ k, q.1 = .inl k → k = 3) (hnn : ∀ r, q.1 = .inr r → vf_n64 (FP.f2d r)) : Met l yL_deviation (Cond.codeWith yL_deviation cL_deviation 3 (some .int) [(0, 8, 11, 57)] :: lw_g) ({ frames := 7, cells := 1, slots := 6, locals := 114 } : Room) (va_Pc [.ref h0, .ref ho] (pw G ([(ho, .inl (G.2.2.1 5, 1, .inr (.inr (.inr (.inl fo)))))] ++ wAll G h0 a0 u0 a1 u1 ra rb u2 u3) sz)) (va_Qi (fun (r : Int32) (v : (Nat → UInt64) × Ob × Ob × (Nat → Ob) × (Nat → Ob)) => hc 3 q.1 = r ∧ (hoF fo q.1, q.2) = v) (bw G (fun v : (Nat → UInt64) × Ob × Ob × (Nat → Ob) × (Nat → Ob) => [(ho, .inl (G.2.2.1 5, 1, .inr (.inr (.inr (.inl v.1)))))] ++ wAll G h0 a0 v.2.1 a1 v.2.2.1 ra rb v.2.2.2.1 v.2.2.2.2) (va_A ([(ho, .inl (G.2.2.1 5, 1, .inr (.inr (.inr (.inl fo)))))] ++ wAll G h0 a0 u0 a1 u1 ra rb u2 u3) sz)) (va_A ([(ho, .inl (G.2.2.1 5, 1, .inr (.inr (.inr (.inl fo)))))] ++ wAll G h0 a0 u0 a1 u1 ra rb u2 u3) sz)) 1 6 (va_A ([(ho, .inl (G.2.2.1 5, 1, .inr (.inr (.inr (.inl fo)))))] ++ wAll G h0 a0 u0 a1 u1 ra rb u2 u3) sz) := by
  refine mtw (y := yL_deviation) (maxL := 3) (av := [.ref h0, .ref ho]) (Qc := fun A => va_Qi (fun (r : Int32) (v : (Nat → UInt64) × Ob × Ob × (Nat → Ob) × (Nat → Ob)) => hc 3 q.1 = r ∧ (hoF fo q.1, q.2) = v) (bw G (fun v : (Nat → UInt64) × Ob × Ob × (Nat → Ob) × (Nat → Ob) => [(ho, .inl (G.2.2.1 5, 1, .inr (.inr (.inr (.inl v.1)))))] ++ wAll G h0 a0 v.2.1 a1 v.2.2.1 ra rb v.2.2.2.1 v.2.2.2.2) A) A) (by decide) (Nat.le_of_ble_eq_true rfl) ?_
  intro p e s m below meth c A ls hx hb hr hlk hml htb hts hown hA hP hK hD hE hS hl
  have hown : s.vm.findClass RL = some m.cls := hown
  have hg : ∀ w ∈ lw_g, w.before ([.ref h0, .ref ho] : List Value).toArray s = true := fun w h => hts w (List.mem_cons_of_mem _ h)
  have hC : CallFix p m c cL_deviation 3 s ([.ref h0, .ref ho] : List Value).toArray lw_g RL := ⟨hx, hb, hml, hown, hg⟩
  have hl : lv_has ls 3 [(0, .ref h0), (1, .ref ho)] := hl
  refine lv_aload_n hx hb dL_deviation_0 rfl (lv_at hl 1 rfl) ?_
  refine lv_iconst (v := (0 : Int32)) hx hb dL_deviation_1 (by decide) ?_
  refine lv_aload_n hx hb dL_deviation_2 rfl (lv_at hl 0 rfl) ?_
  refine kXf (As := []) (rest := [.int (0 : Int32), .ref ho]) hC (c_X5_deviation hlf (G := G) hf) kq4_130 kc_X5_deviation (by decide) 0 (ci := 3) rfl rfl hP hK hD hE hS hA (out := (fun v : Ob × Ob × (Nat → Ob) × (Nat → Ob) => [(ho, .inl (G.2.2.1 5, 1, .inr (.inr (.inr (.inl fo)))))] ++ wAll G h0 a0 v.1 a1 v.2.1 ra rb v.2.2.1 v.2.2.2)) (wr := [(ho, .inl (G.2.2.1 5, 1, .inr (.inr (.inr (.inl fo)))))]) List.perm_append_comm (fun _ => List.perm_append_comm) hl.1 (Nat.le_of_ble_eq_true rfl) ⟨Nat.le_of_ble_eq_true rfl, Nat.le_of_ble_eq_true rfl⟩ dL_deviation_3 (fun k E u9 q9 ce H locs hkE hw hP hD hS h1 h2 h3 => ?_) (fun r9 u9 H locs hw hP hD hS => ?_)
  · obtain ⟨v0, v1, v2, v3⟩ := u9
    have hw : q = (.inl k, (v0, v1, v2, v3)) := hw
    subst hw
    have hk := hk k rfl
    subst hk
    cases hkE
    refine vx_catch (name := "java/util/NoSuchElementException") (E := "java/util/NoSuchElementException") hown [] ⟨0, 8, 11, 57⟩ [] htb (fun z h => absurd h List.not_mem_nil) (by decide) (by decide) (hg _ kq4_68) ((hE.2.2.2.2.2.1 "java/util/NoSuchElementException" (by decide +kernel)).use rfl) h1 h2 h3 ?_
    refine lv_astore_n (lv' := [(2, .ref q9), (0, .ref h0), (1, .ref ho)]) hx hb dL_deviation_11 rfl hl (by decide) rfl (fun ls hl => ?_)
    refine lv_iconst (v := (1 : Int32)) hx hb dL_deviation_12 (by decide) ?_
    refine W.widen (k := 1) (n := 6) (by decide) (by decide) ?_
    exact e_i (post := (fun (r : Int32) (v : (Nat → UInt64) × Ob × Ob × (Nat → Ob) × (Nat → Ob)) => hc 3 ((.inl 3, (v0, v1, v2, v3)) : (Nat ⊕ UInt32) × Ob × Ob × (Nat → Ob) × (Nat → Ob)).1 = r ∧ (hoF fo ((.inl 3, (v0, v1, v2, v3)) : (Nat ⊕ UInt32) × Ob × Ob × (Nat → Ob) × (Nat → Ob)).1, ((.inl 3, (v0, v1, v2, v3)) : (Nat ⊕ UInt32) × Ob × Ob × (Nat → Ob) × (Nat → Ob)).2) = v)) (wf := (fun v : (Nat → UInt64) × Ob × Ob × (Nat → Ob) × (Nat → Ob) => [(ho, .inl (G.2.2.1 5, 1, .inr (.inr (.inr (.inl v.1)))))] ++ wAll G h0 a0 v.2.1 a1 v.2.2.1 ra rb v.2.2.2.1 v.2.2.2.2)) hx hb hr hlk (fo, v0, v1, v2, v3) ⟨rfl, rfl⟩ hP hK hD hS dL_deviation_13
  · have hw : q = (.inr r9, u9) := hw
    subst hw
    refine lv_f2d hx hb dL_deviation_6 (hnn r9 rfl) ?_
    refine va_dast (f := fo) hx hb hK hP hD hS 0 5 rfl rfl (vin (by decide)) dL_deviation_7 (fun H locs hP hD hS => ?_)
    have hP : va_P (gD G) vwCl ([(ho, .inl (G.2.2.1 5, 1, .inr (.inr (.inr (.inl (vf_upd fo (0 : Int32).toNatClampNeg (FP.f2d r9)))))))] ++ wAll G h0 a0 u9.1 a1 u9.2.1 ra rb u9.2.2.1 u9.2.2.2) H := hP
    have hD : va_D A ([(ho, .inl (G.2.2.1 5, 1, .inr (.inr (.inr (.inl (vf_upd fo (0 : Int32).toNatClampNeg (FP.f2d r9)))))))] ++ wAll G h0 a0 u9.1 a1 u9.2.1 ra rb u9.2.2.1 u9.2.2.2) := hD
    refine lv_goto (tgt := 14) hx hb dL_deviation_8 (by decide) ?_
    refine lv_iconst (v := (0 : Int32)) hx hb dL_deviation_14 (by decide) ?_
    refine W.widen (k := 1) (n := 6) (by decide) (by decide) ?_
    exact e_i (post := (fun (r : Int32) (v : (Nat → UInt64) × Ob × Ob × (Nat → Ob) × (Nat → Ob)) => hc 3 ((.inr r9, u9) : (Nat ⊕ UInt32) × Ob × Ob × (Nat → Ob) × (Nat → Ob)).1 = r ∧ (hoF fo ((.inr r9, u9) : (Nat ⊕ UInt32) × Ob × Ob × (Nat → Ob) × (Nat → Ob)).1, ((.inr r9, u9) : (Nat ⊕ UInt32) × Ob × Ob × (Nat → Ob) × (Nat → Ob)).2) = v)) (wf := (fun v : (Nat → UInt64) × Ob × Ob × (Nat → Ob) × (Nat → Ob) => [(ho, .inl (G.2.2.1 5, 1, .inr (.inr (.inr (.inl v.1)))))] ++ wAll G h0 a0 v.2.1 a1 v.2.2.1 ra rb v.2.2.2.1 v.2.2.2.2)) hx hb hr hlk ((vf_upd fo (0 : Int32).toNatClampNeg (FP.f2d r9)), u9) ⟨rfl, rfl⟩ hP hK hD hS dL_deviation_15
theorem kc_L_deviation : Cond.static yL_deviation ∈ lw_g ∧ Cond.initialized yL_deviation.cls ∈ lw_g ∧ Cond.codeWith yL_deviation cL_deviation 3 (some .int) [(0, 8, 11, 57)] ∈ lw_g ∧ yL_deviation.cls ≠ "java/lang/invoke/MethodHandle" ∧ yL_deviation.cls ≠ "java/lang/invoke/VarHandle" ∧ (parseMethodDescriptor yL_deviation.desc).map (fun d => d.parameters.length) = some 2 := ⟨kq4_128, kq1_0, kq4_129, by decide +kernel, by decide +kernel, by decide +kernel⟩
theorem dL_discipline_0 : decode cL_discipline 0 = .ok (.aload_n 1, 1) := by decide +kernel
theorem dL_discipline_1 : decode cL_discipline 1 = .ok (.iconst 0, 1) := by decide +kernel
theorem dL_discipline_2 : decode cL_discipline 2 = .ok (.aload_n 0, 1) := by decide +kernel
theorem dL_discipline_3 : decode cL_discipline 3 = .ok (.invokevirtual 83, 3) := by decide +kernel
theorem dL_discipline_6 : decode cL_discipline 6 = .ok (.i2l, 1) := by decide +kernel
theorem dL_discipline_7 : decode cL_discipline 7 = .ok (.lastore, 1) := by decide +kernel
theorem dL_discipline_8 : decode cL_discipline 8 = .ok (.goto 9, 3) := by decide +kernel
theorem dL_discipline_11 : decode cL_discipline 11 = .ok (.astore_n 2, 1) := by decide +kernel
theorem dL_discipline_12 : decode cL_discipline 12 = .ok (.iconst 1, 1) := by decide +kernel
theorem dL_discipline_13 : decode cL_discipline 13 = .ok (.ireturn, 1) := by decide +kernel
theorem dL_discipline_14 : decode cL_discipline 14 = .ok (.astore_n 2, 1) := by decide +kernel
theorem dL_discipline_15 : decode cL_discipline 15 = .ok (.iconst 2, 1) := by decide +kernel
theorem dL_discipline_16 : decode cL_discipline 16 = .ok (.ireturn, 1) := by decide +kernel
theorem dL_discipline_17 : decode cL_discipline 17 = .ok (.iconst 0, 1) := by decide +kernel
theorem dL_discipline_18 : decode cL_discipline 18 = .ok (.ireturn, 1) := by decide +kernel
set_option maxRecDepth 100000 in
set_option maxHeartbeats 4000000 in
theorem c_L_discipline {l : Launch} (hlf : l.stackTraces = false) {G : Gp} {sz N : Nat}  {h0 : Nat} {a0 a1 : Nat → Nat} {ra rb : Nat → Nat → Nat} {u0 u1 : Ob} {u2 u3 : Nat → Ob} {ho : Nat} {fo : Nat → Int64} {q : (Nat ⊕ Int32) × Ob × Ob × (Nat → Ob) × (Nat → Ob)} (hf : f_X5_discipline N u0 u1 u2 u3 = some q) (hk : ∀ k, q.1 = .inl k → k = 3 ∨ k = 0) : Met l yL_discipline (Cond.codeWith yL_discipline cL_discipline 3 (some .int) [(0, 8, 11, 57), (0, 8, 14, 13)] :: lw_g) ({ frames := 7, cells := 1, slots := 6, locals := 113 } : Room) (va_Pc [.ref h0, .ref ho] (pw G ([(ho, .inl (G.2.2.1 2, 1, .inr (.inl fo)))] ++ wAll G h0 a0 u0 a1 u1 ra rb u2 u3) sz)) (va_Qi (fun (r : Int32) (v : (Nat → Int64) × Ob × Ob × (Nat → Ob) × (Nat → Ob)) => hc 3 q.1 = r ∧ (hoI fo q.1, q.2) = v) (bw G (fun v : (Nat → Int64) × Ob × Ob × (Nat → Ob) × (Nat → Ob) => [(ho, .inl (G.2.2.1 2, 1, .inr (.inl v.1)))] ++ wAll G h0 a0 v.2.1 a1 v.2.2.1 ra rb v.2.2.2.1 v.2.2.2.2) (va_A ([(ho, .inl (G.2.2.1 2, 1, .inr (.inl fo)))] ++ wAll G h0 a0 u0 a1 u1 ra rb u2 u3) sz)) (va_A ([(ho, .inl (G.2.2.1 2, 1, .inr (.inl fo)))] ++ wAll G h0 a0 u0 a1 u1 ra rb u2 u3) sz)) 1 6 (va_A ([(ho, .inl (G.2.2.1 2, 1, .inr (.inl fo)))] ++ wAll G h0 a0 u0 a1 u1 ra rb u2 u3) sz) := by
  refine mtw (y := yL_discipline) (maxL := 3) (av := [.ref h0, .ref ho]) (Qc := fun A => va_Qi (fun (r : Int32) (v : (Nat → Int64) × Ob × Ob × (Nat → Ob) × (Nat → Ob)) => hc 3 q.1 = r ∧ (hoI fo q.1, q.2) = v) (bw G (fun v : (Nat → Int64) × Ob × Ob × (Nat → Ob) × (Nat → Ob) => [(ho, .inl (G.2.2.1 2, 1, .inr (.inl v.1)))] ++ wAll G h0 a0 v.2.1 a1 v.2.2.1 ra rb v.2.2.2.1 v.2.2.2.2) A) A) (by decide) (Nat.le_of_ble_eq_true rfl) ?_
  intro p e s m below meth c A ls hx hb hr hlk hml htb hts hown hA hP hK hD hE hS hl
  have hown : s.vm.findClass RL = some m.cls := hown
  have hg : ∀ w ∈ lw_g, w.before ([.ref h0, .ref ho] : List Value).toArray s = true := fun w h => hts w (List.mem_cons_of_mem _ h)
  have hC : CallFix p m c cL_discipline 3 s ([.ref h0, .ref ho] : List Value).toArray lw_g RL := ⟨hx, hb, hml, hown, hg⟩
  have hl : lv_has ls 3 [(0, .ref h0), (1, .ref ho)] := hl
  refine lv_aload_n hx hb dL_discipline_0 rfl (lv_at hl 1 rfl) ?_
  refine lv_iconst (v := (0 : Int32)) hx hb dL_discipline_1 (by decide) ?_
  refine lv_aload_n hx hb dL_discipline_2 rfl (lv_at hl 0 rfl) ?_
  refine kXi (As := []) (rest := [.int (0 : Int32), .ref ho]) hC (c_X5_discipline hlf (G := G) hf) kq4_175 kc_X5_discipline (by decide) 0 (ci := 3) rfl rfl hP hK hD hE hS hA (out := (fun v : Ob × Ob × (Nat → Ob) × (Nat → Ob) => [(ho, .inl (G.2.2.1 2, 1, .inr (.inl fo)))] ++ wAll G h0 a0 v.1 a1 v.2.1 ra rb v.2.2.1 v.2.2.2)) (wr := [(ho, .inl (G.2.2.1 2, 1, .inr (.inl fo)))]) List.perm_append_comm (fun _ => List.perm_append_comm) hl.1 (Nat.le_of_ble_eq_true rfl) ⟨Nat.le_of_ble_eq_true rfl, Nat.le_of_ble_eq_true rfl⟩ dL_discipline_3 (fun k E u9 q9 ce H locs hkE hw hP hD hS h1 h2 h3 => ?_) (fun r9 u9 H locs hw hP hD hS => ?_)
  · obtain ⟨v0, v1, v2, v3⟩ := u9
    have hw : q = (.inl k, (v0, v1, v2, v3)) := hw
    subst hw
    have hk := hk k rfl
    rcases hk with rfl | rfl
    · cases hkE
      refine vx_catch (name := "java/util/NoSuchElementException") (E := "java/util/NoSuchElementException") hown [] ⟨0, 8, 11, 57⟩ [⟨0, 8, 14, 13⟩] htb (fun z h => absurd h List.not_mem_nil) (by decide) (by decide) (hg _ kq4_68) ((hE.2.2.2.2.2.1 "java/util/NoSuchElementException" (by decide +kernel)).use rfl) h1 h2 h3 ?_
      refine lv_astore_n (lv' := [(2, .ref q9), (0, .ref h0), (1, .ref ho)]) hx hb dL_discipline_11 rfl hl (by decide) rfl (fun ls hl => ?_)
      refine lv_iconst (v := (1 : Int32)) hx hb dL_discipline_12 (by decide) ?_
      refine W.widen (k := 1) (n := 6) (by decide) (by decide) ?_
      exact e_i (post := (fun (r : Int32) (v : (Nat → Int64) × Ob × Ob × (Nat → Ob) × (Nat → Ob)) => hc 3 ((.inl 3, (v0, v1, v2, v3)) : (Nat ⊕ Int32) × Ob × Ob × (Nat → Ob) × (Nat → Ob)).1 = r ∧ (hoI fo ((.inl 3, (v0, v1, v2, v3)) : (Nat ⊕ Int32) × Ob × Ob × (Nat → Ob) × (Nat → Ob)).1, ((.inl 3, (v0, v1, v2, v3)) : (Nat ⊕ Int32) × Ob × Ob × (Nat → Ob) × (Nat → Ob)).2) = v)) (wf := (fun v : (Nat → Int64) × Ob × Ob × (Nat → Ob) × (Nat → Ob) => [(ho, .inl (G.2.2.1 2, 1, .inr (.inl v.1)))] ++ wAll G h0 a0 v.2.1 a1 v.2.2.1 ra rb v.2.2.2.1 v.2.2.2.2)) hx hb hr hlk (fo, v0, v1, v2, v3) ⟨rfl, rfl⟩ hP hK hD hS dL_discipline_13
    · cases hkE
      refine vx_catch (name := "java/lang/IllegalStateException") (E := "java/lang/IllegalStateException") hown [⟨0, 8, 11, 57⟩] ⟨0, 8, 14, 13⟩ [] htb (fun z h => by obtain rfl := List.mem_singleton.mp h; exact Or.inr ⟨by decide, "java/util/NoSuchElementException", hg _ kq4_68, hE.2.2.2.2.2.2.1 "java/lang/IllegalStateException" (by decide +kernel) "java/util/NoSuchElementException" (by decide +kernel) (by decide +kernel)⟩) (by decide) (by decide) (hg _ kq2_106) ((hE.2.2.2.2.2.1 "java/lang/IllegalStateException" (by decide +kernel)).use rfl) h1 h2 h3 ?_
      refine lv_astore_n (lv' := [(2, .ref q9), (0, .ref h0), (1, .ref ho)]) hx hb dL_discipline_14 rfl hl (by decide) rfl (fun ls hl => ?_)
      refine lv_iconst (v := (2 : Int32)) hx hb dL_discipline_15 (by decide) ?_
      refine W.widen (k := 1) (n := 6) (by decide) (by decide) ?_
      exact e_i (post := (fun (r : Int32) (v : (Nat → Int64) × Ob × Ob × (Nat → Ob) × (Nat → Ob)) => hc 3 ((.inl 0, (v0, v1, v2, v3)) : (Nat ⊕ Int32) × Ob × Ob × (Nat → Ob) × (Nat → Ob)).1 = r ∧ (hoI fo ((.inl 0, (v0, v1, v2, v3)) : (Nat ⊕ Int32) × Ob × Ob × (Nat → Ob) × (Nat → Ob)).1, ((.inl 0, (v0, v1, v2, v3)) : (Nat ⊕ Int32) × Ob × Ob × (Nat → Ob) × (Nat → Ob)).2) = v)) (wf := (fun v : (Nat → Int64) × Ob × Ob × (Nat → Ob) × (Nat → Ob) => [(ho, .inl (G.2.2.1 2, 1, .inr (.inl v.1)))] ++ wAll G h0 a0 v.2.1 a1 v.2.2.1 ra rb v.2.2.2.1 v.2.2.2.2)) hx hb hr hlk (fo, v0, v1, v2, v3) ⟨rfl, rfl⟩ hP hK hD hS dL_discipline_16
  · have hw : q = (.inr r9, u9) := hw
    subst hw
    refine lv_i2l (v := r9.toInt64) hx hb dL_discipline_6 rfl ?_
    refine va_last (f := fo) hx hb hK hP hD hS 0 2 rfl rfl (vin (by decide)) dL_discipline_7 (fun H locs hP hD hS => ?_)
    have hP : va_P (gD G) vwCl ([(ho, .inl (G.2.2.1 2, 1, .inr (.inl (vp_updL fo (0 : Int32).toNatClampNeg r9.toInt64))))] ++ wAll G h0 a0 u9.1 a1 u9.2.1 ra rb u9.2.2.1 u9.2.2.2) H := hP
    have hD : va_D A ([(ho, .inl (G.2.2.1 2, 1, .inr (.inl (vp_updL fo (0 : Int32).toNatClampNeg r9.toInt64))))] ++ wAll G h0 a0 u9.1 a1 u9.2.1 ra rb u9.2.2.1 u9.2.2.2) := hD
    refine lv_goto (tgt := 17) hx hb dL_discipline_8 (by decide) ?_
    refine lv_iconst (v := (0 : Int32)) hx hb dL_discipline_17 (by decide) ?_
    refine W.widen (k := 1) (n := 6) (by decide) (by decide) ?_
    exact e_i (post := (fun (r : Int32) (v : (Nat → Int64) × Ob × Ob × (Nat → Ob) × (Nat → Ob)) => hc 3 ((.inr r9, u9) : (Nat ⊕ Int32) × Ob × Ob × (Nat → Ob) × (Nat → Ob)).1 = r ∧ (hoI fo ((.inr r9, u9) : (Nat ⊕ Int32) × Ob × Ob × (Nat → Ob) × (Nat → Ob)).1, ((.inr r9, u9) : (Nat ⊕ Int32) × Ob × Ob × (Nat → Ob) × (Nat → Ob)).2) = v)) (wf := (fun v : (Nat → Int64) × Ob × Ob × (Nat → Ob) × (Nat → Ob) => [(ho, .inl (G.2.2.1 2, 1, .inr (.inl v.1)))] ++ wAll G h0 a0 v.2.1 a1 v.2.2.1 ra rb v.2.2.2.1 v.2.2.2.2)) hx hb hr hlk ((vp_updL fo (0 : Int32).toNatClampNeg r9.toInt64), u9) ⟨rfl, rfl⟩ hP hK hD hS dL_discipline_18
theorem kc_L_discipline : Cond.static yL_discipline ∈ lw_g ∧ Cond.initialized yL_discipline.cls ∈ lw_g ∧ Cond.codeWith yL_discipline cL_discipline 3 (some .int) [(0, 8, 11, 57), (0, 8, 14, 13)] ∈ lw_g ∧ yL_discipline.cls ≠ "java/lang/invoke/MethodHandle" ∧ yL_discipline.cls ≠ "java/lang/invoke/VarHandle" ∧ (parseMethodDescriptor yL_discipline.desc).map (fun d => d.parameters.length) = some 2 := ⟨kq4_173, kq1_0, kq4_174, by decide +kernel, by decide +kernel, by decide +kernel⟩
theorem dL_dissenting_0 : decode cL_dissenting 0 = .ok (.aload_n 1, 1) := by decide +kernel
theorem dL_dissenting_1 : decode cL_dissenting 1 = .ok (.iconst 0, 1) := by decide +kernel
theorem dL_dissenting_2 : decode cL_dissenting 2 = .ok (.aload_n 0, 1) := by decide +kernel
theorem dL_dissenting_3 : decode cL_dissenting 3 = .ok (.invokevirtual 62, 3) := by decide +kernel
theorem dL_dissenting_6 : decode cL_dissenting 6 = .ok (.i2l, 1) := by decide +kernel
theorem dL_dissenting_7 : decode cL_dissenting 7 = .ok (.lastore, 1) := by decide +kernel
theorem dL_dissenting_8 : decode cL_dissenting 8 = .ok (.goto 6, 3) := by decide +kernel
theorem dL_dissenting_11 : decode cL_dissenting 11 = .ok (.astore_n 2, 1) := by decide +kernel
theorem dL_dissenting_12 : decode cL_dissenting 12 = .ok (.iconst 1, 1) := by decide +kernel
theorem dL_dissenting_13 : decode cL_dissenting 13 = .ok (.ireturn, 1) := by decide +kernel
theorem dL_dissenting_14 : decode cL_dissenting 14 = .ok (.iconst 0, 1) := by decide +kernel
theorem dL_dissenting_15 : decode cL_dissenting 15 = .ok (.ireturn, 1) := by decide +kernel
set_option maxRecDepth 100000 in
set_option maxHeartbeats 4000000 in
theorem c_L_dissenting {l : Launch} (hlf : l.stackTraces = false) {G : Gp} {sz N : Nat}  {h0 : Nat} {a0 a1 : Nat → Nat} {ra rb : Nat → Nat → Nat} {u0 u1 : Ob} {u2 u3 : Nat → Ob} {ho : Nat} {fo : Nat → Int64} {q : (Nat ⊕ Int32) × Ob × Ob × (Nat → Ob) × (Nat → Ob)} (hf : f_X5_dissenting N u0 u1 u2 u3 = some q) (hk : ∀ k, q.1 = .inl k → k = 3) : Met l yL_dissenting (Cond.codeWith yL_dissenting cL_dissenting 3 (some .int) [(0, 8, 11, 57)] :: lw_g) ({ frames := 7, cells := 1, slots := 6, locals := 140 } : Room) (va_Pc [.ref h0, .ref ho] (pw G ([(ho, .inl (G.2.2.1 2, 1, .inr (.inl fo)))] ++ wAll G h0 a0 u0 a1 u1 ra rb u2 u3) sz)) (va_Qi (fun (r : Int32) (v : (Nat → Int64) × Ob × Ob × (Nat → Ob) × (Nat → Ob)) => hc 3 q.1 = r ∧ (hoI fo q.1, q.2) = v) (bw G (fun v : (Nat → Int64) × Ob × Ob × (Nat → Ob) × (Nat → Ob) => [(ho, .inl (G.2.2.1 2, 1, .inr (.inl v.1)))] ++ wAll G h0 a0 v.2.1 a1 v.2.2.1 ra rb v.2.2.2.1 v.2.2.2.2) (va_A ([(ho, .inl (G.2.2.1 2, 1, .inr (.inl fo)))] ++ wAll G h0 a0 u0 a1 u1 ra rb u2 u3) sz)) (va_A ([(ho, .inl (G.2.2.1 2, 1, .inr (.inl fo)))] ++ wAll G h0 a0 u0 a1 u1 ra rb u2 u3) sz)) 1 6 (va_A ([(ho, .inl (G.2.2.1 2, 1, .inr (.inl fo)))] ++ wAll G h0 a0 u0 a1 u1 ra rb u2 u3) sz) := by
  refine mtw (y := yL_dissenting) (maxL := 3) (av := [.ref h0, .ref ho]) (Qc := fun A => va_Qi (fun (r : Int32) (v : (Nat → Int64) × Ob × Ob × (Nat → Ob) × (Nat → Ob)) => hc 3 q.1 = r ∧ (hoI fo q.1, q.2) = v) (bw G (fun v : (Nat → Int64) × Ob × Ob × (Nat → Ob) × (Nat → Ob) => [(ho, .inl (G.2.2.1 2, 1, .inr (.inl v.1)))] ++ wAll G h0 a0 v.2.1 a1 v.2.2.1 ra rb v.2.2.2.1 v.2.2.2.2) A) A) (by decide) (Nat.le_of_ble_eq_true rfl) ?_
  intro p e s m below meth c A ls hx hb hr hlk hml htb hts hown hA hP hK hD hE hS hl
  have hown : s.vm.findClass RL = some m.cls := hown
  have hg : ∀ w ∈ lw_g, w.before ([.ref h0, .ref ho] : List Value).toArray s = true := fun w h => hts w (List.mem_cons_of_mem _ h)
  have hC : CallFix p m c cL_dissenting 3 s ([.ref h0, .ref ho] : List Value).toArray lw_g RL := ⟨hx, hb, hml, hown, hg⟩
  have hl : lv_has ls 3 [(0, .ref h0), (1, .ref ho)] := hl
  refine lv_aload_n hx hb dL_dissenting_0 rfl (lv_at hl 1 rfl) ?_
  refine lv_iconst (v := (0 : Int32)) hx hb dL_dissenting_1 (by decide) ?_
  refine lv_aload_n hx hb dL_dissenting_2 rfl (lv_at hl 0 rfl) ?_
  refine kXi (As := []) (rest := [.int (0 : Int32), .ref ho]) hC (c_X5_dissenting hlf (G := G) hf) kq4_102 kc_X5_dissenting (by decide) 0 (ci := 3) rfl rfl hP hK hD hE hS hA (out := (fun v : Ob × Ob × (Nat → Ob) × (Nat → Ob) => [(ho, .inl (G.2.2.1 2, 1, .inr (.inl fo)))] ++ wAll G h0 a0 v.1 a1 v.2.1 ra rb v.2.2.1 v.2.2.2)) (wr := [(ho, .inl (G.2.2.1 2, 1, .inr (.inl fo)))]) List.perm_append_comm (fun _ => List.perm_append_comm) hl.1 (Nat.le_of_ble_eq_true rfl) ⟨Nat.le_of_ble_eq_true rfl, Nat.le_of_ble_eq_true rfl⟩ dL_dissenting_3 (fun k E u9 q9 ce H locs hkE hw hP hD hS h1 h2 h3 => ?_) (fun r9 u9 H locs hw hP hD hS => ?_)
  · obtain ⟨v0, v1, v2, v3⟩ := u9
    have hw : q = (.inl k, (v0, v1, v2, v3)) := hw
    subst hw
    have hk := hk k rfl
    subst hk
    cases hkE
    refine vx_catch (name := "java/util/NoSuchElementException") (E := "java/util/NoSuchElementException") hown [] ⟨0, 8, 11, 57⟩ [] htb (fun z h => absurd h List.not_mem_nil) (by decide) (by decide) (hg _ kq4_68) ((hE.2.2.2.2.2.1 "java/util/NoSuchElementException" (by decide +kernel)).use rfl) h1 h2 h3 ?_
    refine lv_astore_n (lv' := [(2, .ref q9), (0, .ref h0), (1, .ref ho)]) hx hb dL_dissenting_11 rfl hl (by decide) rfl (fun ls hl => ?_)
    refine lv_iconst (v := (1 : Int32)) hx hb dL_dissenting_12 (by decide) ?_
    refine W.widen (k := 1) (n := 6) (by decide) (by decide) ?_
    exact e_i (post := (fun (r : Int32) (v : (Nat → Int64) × Ob × Ob × (Nat → Ob) × (Nat → Ob)) => hc 3 ((.inl 3, (v0, v1, v2, v3)) : (Nat ⊕ Int32) × Ob × Ob × (Nat → Ob) × (Nat → Ob)).1 = r ∧ (hoI fo ((.inl 3, (v0, v1, v2, v3)) : (Nat ⊕ Int32) × Ob × Ob × (Nat → Ob) × (Nat → Ob)).1, ((.inl 3, (v0, v1, v2, v3)) : (Nat ⊕ Int32) × Ob × Ob × (Nat → Ob) × (Nat → Ob)).2) = v)) (wf := (fun v : (Nat → Int64) × Ob × Ob × (Nat → Ob) × (Nat → Ob) => [(ho, .inl (G.2.2.1 2, 1, .inr (.inl v.1)))] ++ wAll G h0 a0 v.2.1 a1 v.2.2.1 ra rb v.2.2.2.1 v.2.2.2.2)) hx hb hr hlk (fo, v0, v1, v2, v3) ⟨rfl, rfl⟩ hP hK hD hS dL_dissenting_13
  · have hw : q = (.inr r9, u9) := hw
    subst hw
    refine lv_i2l (v := r9.toInt64) hx hb dL_dissenting_6 rfl ?_
    refine va_last (f := fo) hx hb hK hP hD hS 0 2 rfl rfl (vin (by decide)) dL_dissenting_7 (fun H locs hP hD hS => ?_)
    have hP : va_P (gD G) vwCl ([(ho, .inl (G.2.2.1 2, 1, .inr (.inl (vp_updL fo (0 : Int32).toNatClampNeg r9.toInt64))))] ++ wAll G h0 a0 u9.1 a1 u9.2.1 ra rb u9.2.2.1 u9.2.2.2) H := hP
    have hD : va_D A ([(ho, .inl (G.2.2.1 2, 1, .inr (.inl (vp_updL fo (0 : Int32).toNatClampNeg r9.toInt64))))] ++ wAll G h0 a0 u9.1 a1 u9.2.1 ra rb u9.2.2.1 u9.2.2.2) := hD
    refine lv_goto (tgt := 14) hx hb dL_dissenting_8 (by decide) ?_
    refine lv_iconst (v := (0 : Int32)) hx hb dL_dissenting_14 (by decide) ?_
    refine W.widen (k := 1) (n := 6) (by decide) (by decide) ?_
    exact e_i (post := (fun (r : Int32) (v : (Nat → Int64) × Ob × Ob × (Nat → Ob) × (Nat → Ob)) => hc 3 ((.inr r9, u9) : (Nat ⊕ Int32) × Ob × Ob × (Nat → Ob) × (Nat → Ob)).1 = r ∧ (hoI fo ((.inr r9, u9) : (Nat ⊕ Int32) × Ob × Ob × (Nat → Ob) × (Nat → Ob)).1, ((.inr r9, u9) : (Nat ⊕ Int32) × Ob × Ob × (Nat → Ob) × (Nat → Ob)).2) = v)) (wf := (fun v : (Nat → Int64) × Ob × Ob × (Nat → Ob) × (Nat → Ob) => [(ho, .inl (G.2.2.1 2, 1, .inr (.inl v.1)))] ++ wAll G h0 a0 v.2.1 a1 v.2.2.1 ra rb v.2.2.2.1 v.2.2.2.2)) hx hb hr hlk ((vp_updL fo (0 : Int32).toNatClampNeg r9.toInt64), u9) ⟨rfl, rfl⟩ hP hK hD hS dL_dissenting_15
theorem kc_L_dissenting : Cond.static yL_dissenting ∈ lw_g ∧ Cond.initialized yL_dissenting.cls ∈ lw_g ∧ Cond.codeWith yL_dissenting cL_dissenting 3 (some .int) [(0, 8, 11, 57)] ∈ lw_g ∧ yL_dissenting.cls ≠ "java/lang/invoke/MethodHandle" ∧ yL_dissenting.cls ≠ "java/lang/invoke/VarHandle" ∧ (parseMethodDescriptor yL_dissenting.desc).map (fun d => d.parameters.length) = some 2 := ⟨kq4_100, kq1_0, kq4_101, by decide +kernel, by decide +kernel, by decide +kernel⟩
theorem dL_estimate_0 : decode cL_estimate 0 = .ok (.aload_n 1, 1) := by decide +kernel
theorem dL_estimate_1 : decode cL_estimate 1 = .ok (.iconst 0, 1) := by decide +kernel
theorem dL_estimate_2 : decode cL_estimate 2 = .ok (.aload_n 0, 1) := by decide +kernel
theorem dL_estimate_3 : decode cL_estimate 3 = .ok (.invokevirtual 76, 3) := by decide +kernel
theorem dL_estimate_6 : decode cL_estimate 6 = .ok (.lastore, 1) := by decide +kernel
theorem dL_estimate_7 : decode cL_estimate 7 = .ok (.goto 6, 3) := by decide +kernel
theorem dL_estimate_10 : decode cL_estimate 10 = .ok (.astore_n 2, 1) := by decide +kernel
theorem dL_estimate_11 : decode cL_estimate 11 = .ok (.iconst 1, 1) := by decide +kernel
theorem dL_estimate_12 : decode cL_estimate 12 = .ok (.ireturn, 1) := by decide +kernel
theorem dL_estimate_13 : decode cL_estimate 13 = .ok (.iconst 0, 1) := by decide +kernel
theorem dL_estimate_14 : decode cL_estimate 14 = .ok (.ireturn, 1) := by decide +kernel
set_option maxRecDepth 100000 in
set_option maxHeartbeats 4000000 in
theorem c_L_estimate {l : Launch} (hlf : l.stackTraces = false) {G : Gp} {sz N : Nat}  {h0 : Nat} {a0 a1 : Nat → Nat} {ra rb : Nat → Nat → Nat} {u0 u1 : Ob} {u2 u3 : Nat → Ob} {ho : Nat} {fo : Nat → Int64} {q : (Nat ⊕ Int64) × Ob × Ob × (Nat → Ob) × (Nat → Ob)} (hf : f_X5_estimate N u0 u1 u2 u3 = some q) (hk : ∀ k, q.1 = .inl k → k = 3) : Met l yL_estimate (Cond.codeWith yL_estimate cL_estimate 3 (some .int) [(0, 7, 10, 57)] :: lw_g) ({ frames := 7, cells := 1, slots := 6, locals := 110 } : Room) (va_Pc [.ref h0, .ref ho] (pw G ([(ho, .inl (G.2.2.1 2, 1, .inr (.inl fo)))] ++ wAll G h0 a0 u0 a1 u1 ra rb u2 u3) sz)) (va_Qi (fun (r : Int32) (v : (Nat → Int64) × Ob × Ob × (Nat → Ob) × (Nat → Ob)) => hc 3 q.1 = r ∧ (hoL fo q.1, q.2) = v) (bw G (fun v : (Nat → Int64) × Ob × Ob × (Nat → Ob) × (Nat → Ob) => [(ho, .inl (G.2.2.1 2, 1, .inr (.inl v.1)))] ++ wAll G h0 a0 v.2.1 a1 v.2.2.1 ra rb v.2.2.2.1 v.2.2.2.2) (va_A ([(ho, .inl (G.2.2.1 2, 1, .inr (.inl fo)))] ++ wAll G h0 a0 u0 a1 u1 ra rb u2 u3) sz)) (va_A ([(ho, .inl (G.2.2.1 2, 1, .inr (.inl fo)))] ++ wAll G h0 a0 u0 a1 u1 ra rb u2 u3) sz)) 1 6 (va_A ([(ho, .inl (G.2.2.1 2, 1, .inr (.inl fo)))] ++ wAll G h0 a0 u0 a1 u1 ra rb u2 u3) sz) := by
  refine mtw (y := yL_estimate) (maxL := 3) (av := [.ref h0, .ref ho]) (Qc := fun A => va_Qi (fun (r : Int32) (v : (Nat → Int64) × Ob × Ob × (Nat → Ob) × (Nat → Ob)) => hc 3 q.1 = r ∧ (hoL fo q.1, q.2) = v) (bw G (fun v : (Nat → Int64) × Ob × Ob × (Nat → Ob) × (Nat → Ob) => [(ho, .inl (G.2.2.1 2, 1, .inr (.inl v.1)))] ++ wAll G h0 a0 v.2.1 a1 v.2.2.1 ra rb v.2.2.2.1 v.2.2.2.2) A) A) (by decide) (Nat.le_of_ble_eq_true rfl) ?_
  intro p e s m below meth c A ls hx hb hr hlk hml htb hts hown hA hP hK hD hE hS hl
  have hown : s.vm.findClass RL = some m.cls := hown
  have hg : ∀ w ∈ lw_g, w.before ([.ref h0, .ref ho] : List Value).toArray s = true := fun w h => hts w (List.mem_cons_of_mem _ h)
  have hC : CallFix p m c cL_estimate 3 s ([.ref h0, .ref ho] : List Value).toArray lw_g RL := ⟨hx, hb, hml, hown, hg⟩
  have hl : lv_has ls 3 [(0, .ref h0), (1, .ref ho)] := hl
  refine lv_aload_n hx hb dL_estimate_0 rfl (lv_at hl 1 rfl) ?_
  refine lv_iconst (v := (0 : Int32)) hx hb dL_estimate_1 (by decide) ?_
  refine lv_aload_n hx hb dL_estimate_2 rfl (lv_at hl 0 rfl) ?_
  refine kXl (As := []) (rest := [.int (0 : Int32), .ref ho]) hC (c_X5_estimate hlf (G := G) hf) kq4_150 kc_X5_estimate (by decide) 0 (ci := 3) rfl rfl hP hK hD hE hS hA (out := (fun v : Ob × Ob × (Nat → Ob) × (Nat → Ob) => [(ho, .inl (G.2.2.1 2, 1, .inr (.inl fo)))] ++ wAll G h0 a0 v.1 a1 v.2.1 ra rb v.2.2.1 v.2.2.2)) (wr := [(ho, .inl (G.2.2.1 2, 1, .inr (.inl fo)))]) List.perm_append_comm (fun _ => List.perm_append_comm) hl.1 (Nat.le_of_ble_eq_true rfl) ⟨Nat.le_of_ble_eq_true rfl, Nat.le_of_ble_eq_true rfl⟩ dL_estimate_3 (fun k E u9 q9 ce H locs hkE hw hP hD hS h1 h2 h3 => ?_) (fun r9 u9 H locs hw hP hD hS => ?_)
  · obtain ⟨v0, v1, v2, v3⟩ := u9
    have hw : q = (.inl k, (v0, v1, v2, v3)) := hw
    subst hw
    have hk := hk k rfl
    subst hk
    cases hkE
    refine vx_catch (name := "java/util/NoSuchElementException") (E := "java/util/NoSuchElementException") hown [] ⟨0, 7, 10, 57⟩ [] htb (fun z h => absurd h List.not_mem_nil) (by decide) (by decide) (hg _ kq4_68) ((hE.2.2.2.2.2.1 "java/util/NoSuchElementException" (by decide +kernel)).use rfl) h1 h2 h3 ?_
    refine lv_astore_n (lv' := [(2, .ref q9), (0, .ref h0), (1, .ref ho)]) hx hb dL_estimate_10 rfl hl (by decide) rfl (fun ls hl => ?_)
    refine lv_iconst (v := (1 : Int32)) hx hb dL_estimate_11 (by decide) ?_
    refine W.widen (k := 1) (n := 6) (by decide) (by decide) ?_
    exact e_i (post := (fun (r : Int32) (v : (Nat → Int64) × Ob × Ob × (Nat → Ob) × (Nat → Ob)) => hc 3 ((.inl 3, (v0, v1, v2, v3)) : (Nat ⊕ Int64) × Ob × Ob × (Nat → Ob) × (Nat → Ob)).1 = r ∧ (hoL fo ((.inl 3, (v0, v1, v2, v3)) : (Nat ⊕ Int64) × Ob × Ob × (Nat → Ob) × (Nat → Ob)).1, ((.inl 3, (v0, v1, v2, v3)) : (Nat ⊕ Int64) × Ob × Ob × (Nat → Ob) × (Nat → Ob)).2) = v)) (wf := (fun v : (Nat → Int64) × Ob × Ob × (Nat → Ob) × (Nat → Ob) => [(ho, .inl (G.2.2.1 2, 1, .inr (.inl v.1)))] ++ wAll G h0 a0 v.2.1 a1 v.2.2.1 ra rb v.2.2.2.1 v.2.2.2.2)) hx hb hr hlk (fo, v0, v1, v2, v3) ⟨rfl, rfl⟩ hP hK hD hS dL_estimate_12
  · have hw : q = (.inr r9, u9) := hw
    subst hw
    refine va_last (f := fo) hx hb hK hP hD hS 0 2 rfl rfl (vin (by decide)) dL_estimate_6 (fun H locs hP hD hS => ?_)
    have hP : va_P (gD G) vwCl ([(ho, .inl (G.2.2.1 2, 1, .inr (.inl (vp_updL fo (0 : Int32).toNatClampNeg r9))))] ++ wAll G h0 a0 u9.1 a1 u9.2.1 ra rb u9.2.2.1 u9.2.2.2) H := hP
    have hD : va_D A ([(ho, .inl (G.2.2.1 2, 1, .inr (.inl (vp_updL fo (0 : Int32).toNatClampNeg r9))))] ++ wAll G h0 a0 u9.1 a1 u9.2.1 ra rb u9.2.2.1 u9.2.2.2) := hD
    refine lv_goto (tgt := 13) hx hb dL_estimate_7 (by decide) ?_
    refine lv_iconst (v := (0 : Int32)) hx hb dL_estimate_13 (by decide) ?_
    refine W.widen (k := 1) (n := 6) (by decide) (by decide) ?_
    exact e_i (post := (fun (r : Int32) (v : (Nat → Int64) × Ob × Ob × (Nat → Ob) × (Nat → Ob)) => hc 3 ((.inr r9, u9) : (Nat ⊕ Int64) × Ob × Ob × (Nat → Ob) × (Nat → Ob)).1 = r ∧ (hoL fo ((.inr r9, u9) : (Nat ⊕ Int64) × Ob × Ob × (Nat → Ob) × (Nat → Ob)).1, ((.inr r9, u9) : (Nat ⊕ Int64) × Ob × Ob × (Nat → Ob) × (Nat → Ob)).2) = v)) (wf := (fun v : (Nat → Int64) × Ob × Ob × (Nat → Ob) × (Nat → Ob) => [(ho, .inl (G.2.2.1 2, 1, .inr (.inl v.1)))] ++ wAll G h0 a0 v.2.1 a1 v.2.2.1 ra rb v.2.2.2.1 v.2.2.2.2)) hx hb hr hlk ((vp_updL fo (0 : Int32).toNatClampNeg r9), u9) ⟨rfl, rfl⟩ hP hK hD hS dL_estimate_14
theorem kc_L_estimate : Cond.static yL_estimate ∈ lw_g ∧ Cond.initialized yL_estimate.cls ∈ lw_g ∧ Cond.codeWith yL_estimate cL_estimate 3 (some .int) [(0, 7, 10, 57)] ∈ lw_g ∧ yL_estimate.cls ≠ "java/lang/invoke/MethodHandle" ∧ yL_estimate.cls ≠ "java/lang/invoke/VarHandle" ∧ (parseMethodDescriptor yL_estimate.desc).map (fun d => d.parameters.length) = some 2 := ⟨kq4_148, kq1_0, kq4_149, by decide +kernel, by decide +kernel, by decide +kernel⟩
theorem dL_favourite_0 : decode cL_favourite 0 = .ok (.aload_n 1, 1) := by decide +kernel
theorem dL_favourite_1 : decode cL_favourite 1 = .ok (.iconst 0, 1) := by decide +kernel
theorem dL_favourite_2 : decode cL_favourite 2 = .ok (.aload_n 0, 1) := by decide +kernel
theorem dL_favourite_3 : decode cL_favourite 3 = .ok (.invokevirtual 53, 3) := by decide +kernel
theorem dL_favourite_6 : decode cL_favourite 6 = .ok (.i2l, 1) := by decide +kernel
theorem dL_favourite_7 : decode cL_favourite 7 = .ok (.lastore, 1) := by decide +kernel
theorem dL_favourite_8 : decode cL_favourite 8 = .ok (.goto 6, 3) := by decide +kernel
theorem dL_favourite_11 : decode cL_favourite 11 = .ok (.astore_n 2, 1) := by decide +kernel
theorem dL_favourite_12 : decode cL_favourite 12 = .ok (.iconst 1, 1) := by decide +kernel
theorem dL_favourite_13 : decode cL_favourite 13 = .ok (.ireturn, 1) := by decide +kernel
theorem dL_favourite_14 : decode cL_favourite 14 = .ok (.iconst 0, 1) := by decide +kernel
theorem dL_favourite_15 : decode cL_favourite 15 = .ok (.ireturn, 1) := by decide +kernel
set_option maxRecDepth 100000 in
set_option maxHeartbeats 4000000 in
theorem c_L_favourite {l : Launch} (hlf : l.stackTraces = false) {G : Gp} {sz N : Nat}  {h0 : Nat} {a0 a1 : Nat → Nat} {ra rb : Nat → Nat → Nat} {u0 u1 : Ob} {u2 u3 : Nat → Ob} {ho : Nat} {fo : Nat → Int64} {q : (Nat ⊕ Int32) × Ob × Ob × (Nat → Ob) × (Nat → Ob)} (hf : f_X5_favourite N u0 u1 u2 u3 = some q) (hk : ∀ k, q.1 = .inl k → k = 3) : Met l yL_favourite (Cond.codeWith yL_favourite cL_favourite 3 (some .int) [(0, 8, 11, 57)] :: lw_g) ({ frames := 7, cells := 1, slots := 6, locals := 111 } : Room) (va_Pc [.ref h0, .ref ho] (pw G ([(ho, .inl (G.2.2.1 2, 1, .inr (.inl fo)))] ++ wAll G h0 a0 u0 a1 u1 ra rb u2 u3) sz)) (va_Qi (fun (r : Int32) (v : (Nat → Int64) × Ob × Ob × (Nat → Ob) × (Nat → Ob)) => hc 3 q.1 = r ∧ (hoI fo q.1, q.2) = v) (bw G (fun v : (Nat → Int64) × Ob × Ob × (Nat → Ob) × (Nat → Ob) => [(ho, .inl (G.2.2.1 2, 1, .inr (.inl v.1)))] ++ wAll G h0 a0 v.2.1 a1 v.2.2.1 ra rb v.2.2.2.1 v.2.2.2.2) (va_A ([(ho, .inl (G.2.2.1 2, 1, .inr (.inl fo)))] ++ wAll G h0 a0 u0 a1 u1 ra rb u2 u3) sz)) (va_A ([(ho, .inl (G.2.2.1 2, 1, .inr (.inl fo)))] ++ wAll G h0 a0 u0 a1 u1 ra rb u2 u3) sz)) 1 6 (va_A ([(ho, .inl (G.2.2.1 2, 1, .inr (.inl fo)))] ++ wAll G h0 a0 u0 a1 u1 ra rb u2 u3) sz) := by
  refine mtw (y := yL_favourite) (maxL := 3) (av := [.ref h0, .ref ho]) (Qc := fun A => va_Qi (fun (r : Int32) (v : (Nat → Int64) × Ob × Ob × (Nat → Ob) × (Nat → Ob)) => hc 3 q.1 = r ∧ (hoI fo q.1, q.2) = v) (bw G (fun v : (Nat → Int64) × Ob × Ob × (Nat → Ob) × (Nat → Ob) => [(ho, .inl (G.2.2.1 2, 1, .inr (.inl v.1)))] ++ wAll G h0 a0 v.2.1 a1 v.2.2.1 ra rb v.2.2.2.1 v.2.2.2.2) A) A) (by decide) (Nat.le_of_ble_eq_true rfl) ?_
  intro p e s m below meth c A ls hx hb hr hlk hml htb hts hown hA hP hK hD hE hS hl
  have hown : s.vm.findClass RL = some m.cls := hown
  have hg : ∀ w ∈ lw_g, w.before ([.ref h0, .ref ho] : List Value).toArray s = true := fun w h => hts w (List.mem_cons_of_mem _ h)
  have hC : CallFix p m c cL_favourite 3 s ([.ref h0, .ref ho] : List Value).toArray lw_g RL := ⟨hx, hb, hml, hown, hg⟩
  have hl : lv_has ls 3 [(0, .ref h0), (1, .ref ho)] := hl
  refine lv_aload_n hx hb dL_favourite_0 rfl (lv_at hl 1 rfl) ?_
  refine lv_iconst (v := (0 : Int32)) hx hb dL_favourite_1 (by decide) ?_
  refine lv_aload_n hx hb dL_favourite_2 rfl (lv_at hl 0 rfl) ?_
  refine kXi (As := []) (rest := [.int (0 : Int32), .ref ho]) hC (c_X5_favourite hlf (G := G) hf) kq4_69 kc_X5_favourite (by decide) 0 (ci := 3) rfl rfl hP hK hD hE hS hA (out := (fun v : Ob × Ob × (Nat → Ob) × (Nat → Ob) => [(ho, .inl (G.2.2.1 2, 1, .inr (.inl fo)))] ++ wAll G h0 a0 v.1 a1 v.2.1 ra rb v.2.2.1 v.2.2.2)) (wr := [(ho, .inl (G.2.2.1 2, 1, .inr (.inl fo)))]) List.perm_append_comm (fun _ => List.perm_append_comm) hl.1 (Nat.le_of_ble_eq_true rfl) ⟨Nat.le_of_ble_eq_true rfl, Nat.le_of_ble_eq_true rfl⟩ dL_favourite_3 (fun k E u9 q9 ce H locs hkE hw hP hD hS h1 h2 h3 => ?_) (fun r9 u9 H locs hw hP hD hS => ?_)
  · obtain ⟨v0, v1, v2, v3⟩ := u9
    have hw : q = (.inl k, (v0, v1, v2, v3)) := hw
    subst hw
    have hk := hk k rfl
    subst hk
    cases hkE
    refine vx_catch (name := "java/util/NoSuchElementException") (E := "java/util/NoSuchElementException") hown [] ⟨0, 8, 11, 57⟩ [] htb (fun z h => absurd h List.not_mem_nil) (by decide) (by decide) (hg _ kq4_68) ((hE.2.2.2.2.2.1 "java/util/NoSuchElementException" (by decide +kernel)).use rfl) h1 h2 h3 ?_
    refine lv_astore_n (lv' := [(2, .ref q9), (0, .ref h0), (1, .ref ho)]) hx hb dL_favourite_11 rfl hl (by decide) rfl (fun ls hl => ?_)
    refine lv_iconst (v := (1 : Int32)) hx hb dL_favourite_12 (by decide) ?_
    refine W.widen (k := 1) (n := 6) (by decide) (by decide) ?_
    exact e_i (post := (fun (r : Int32) (v : (Nat → Int64) × Ob × Ob × (Nat → Ob) × (Nat → Ob)) => hc 3 ((.inl 3, (v0, v1, v2, v3)) : (Nat ⊕ Int32) × Ob × Ob × (Nat → Ob) × (Nat → Ob)).1 = r ∧ (hoI fo ((.inl 3, (v0, v1, v2, v3)) : (Nat ⊕ Int32) × Ob × Ob × (Nat → Ob) × (Nat → Ob)).1, ((.inl 3, (v0, v1, v2, v3)) : (Nat ⊕ Int32) × Ob × Ob × (Nat → Ob) × (Nat → Ob)).2) = v)) (wf := (fun v : (Nat → Int64) × Ob × Ob × (Nat → Ob) × (Nat → Ob) => [(ho, .inl (G.2.2.1 2, 1, .inr (.inl v.1)))] ++ wAll G h0 a0 v.2.1 a1 v.2.2.1 ra rb v.2.2.2.1 v.2.2.2.2)) hx hb hr hlk (fo, v0, v1, v2, v3) ⟨rfl, rfl⟩ hP hK hD hS dL_favourite_13
  · have hw : q = (.inr r9, u9) := hw
    subst hw
    refine lv_i2l (v := r9.toInt64) hx hb dL_favourite_6 rfl ?_
    refine va_last (f := fo) hx hb hK hP hD hS 0 2 rfl rfl (vin (by decide)) dL_favourite_7 (fun H locs hP hD hS => ?_)
    have hP : va_P (gD G) vwCl ([(ho, .inl (G.2.2.1 2, 1, .inr (.inl (vp_updL fo (0 : Int32).toNatClampNeg r9.toInt64))))] ++ wAll G h0 a0 u9.1 a1 u9.2.1 ra rb u9.2.2.1 u9.2.2.2) H := hP
    have hD : va_D A ([(ho, .inl (G.2.2.1 2, 1, .inr (.inl (vp_updL fo (0 : Int32).toNatClampNeg r9.toInt64))))] ++ wAll G h0 a0 u9.1 a1 u9.2.1 ra rb u9.2.2.1 u9.2.2.2) := hD
    refine lv_goto (tgt := 14) hx hb dL_favourite_8 (by decide) ?_
    refine lv_iconst (v := (0 : Int32)) hx hb dL_favourite_14 (by decide) ?_
    refine W.widen (k := 1) (n := 6) (by decide) (by decide) ?_
    exact e_i (post := (fun (r : Int32) (v : (Nat → Int64) × Ob × Ob × (Nat → Ob) × (Nat → Ob)) => hc 3 ((.inr r9, u9) : (Nat ⊕ Int32) × Ob × Ob × (Nat → Ob) × (Nat → Ob)).1 = r ∧ (hoI fo ((.inr r9, u9) : (Nat ⊕ Int32) × Ob × Ob × (Nat → Ob) × (Nat → Ob)).1, ((.inr r9, u9) : (Nat ⊕ Int32) × Ob × Ob × (Nat → Ob) × (Nat → Ob)).2) = v)) (wf := (fun v : (Nat → Int64) × Ob × Ob × (Nat → Ob) × (Nat → Ob) => [(ho, .inl (G.2.2.1 2, 1, .inr (.inl v.1)))] ++ wAll G h0 a0 v.2.1 a1 v.2.2.1 ra rb v.2.2.2.1 v.2.2.2.2)) hx hb hr hlk ((vp_updL fo (0 : Int32).toNatClampNeg r9.toInt64), u9) ⟨rfl, rfl⟩ hP hK hD hS dL_favourite_15
theorem kc_L_favourite : Cond.static yL_favourite ∈ lw_g ∧ Cond.initialized yL_favourite.cls ∈ lw_g ∧ Cond.codeWith yL_favourite cL_favourite 3 (some .int) [(0, 8, 11, 57)] ∈ lw_g ∧ yL_favourite.cls ≠ "java/lang/invoke/MethodHandle" ∧ yL_favourite.cls ≠ "java/lang/invoke/VarHandle" ∧ (parseMethodDescriptor yL_favourite.desc).map (fun d => d.parameters.length) = some 2 := ⟨kq4_66, kq1_0, kq4_67, by decide +kernel, by decide +kernel, by decide +kernel⟩
theorem dL_fix_0 : decode cL_fix 0 = .ok (.aload_n 3, 1) := by decide +kernel
theorem dL_fix_1 : decode cL_fix 1 = .ok (.iconst 0, 1) := by decide +kernel
theorem dL_fix_2 : decode cL_fix 2 = .ok (.aload_n 0, 1) := by decide +kernel
theorem dL_fix_3 : decode cL_fix 3 = .ok (.iload_n 1, 1) := by decide +kernel
theorem dL_fix_4 : decode cL_fix 4 = .ok (.iload_n 2, 1) := by decide +kernel
theorem dL_fix_5 : decode cL_fix 5 = .ok (.invokevirtual 65, 3) := by decide +kernel
theorem dL_fix_8 : decode cL_fix 8 = .ok (.i2l, 1) := by decide +kernel
theorem dL_fix_9 : decode cL_fix 9 = .ok (.lastore, 1) := by decide +kernel
theorem dL_fix_10 : decode cL_fix 10 = .ok (.goto 11, 3) := by decide +kernel
theorem dL_fix_13 : decode cL_fix 13 = .ok (.astore 4, 2) := by decide +kernel
theorem dL_fix_15 : decode cL_fix 15 = .ok (.iconst 1, 1) := by decide +kernel
theorem dL_fix_16 : decode cL_fix 16 = .ok (.ireturn, 1) := by decide +kernel
theorem dL_fix_17 : decode cL_fix 17 = .ok (.astore 4, 2) := by decide +kernel
theorem dL_fix_19 : decode cL_fix 19 = .ok (.iconst 2, 1) := by decide +kernel
theorem dL_fix_20 : decode cL_fix 20 = .ok (.ireturn, 1) := by decide +kernel
theorem dL_fix_21 : decode cL_fix 21 = .ok (.iconst 0, 1) := by decide +kernel
theorem dL_fix_22 : decode cL_fix 22 = .ok (.ireturn, 1) := by decide +kernel
set_option maxRecDepth 100000 in
set_option maxHeartbeats 4000000 in
theorem c_L_fix {l : Launch} (hlf : l.stackTraces = false) {G : Gp} {sz N : Nat} {x1 : Int32} {x2 : Int32} {h0 : Nat} {a0 a1 : Nat → Nat} {ra rb : Nat → Nat → Nat} {u0 u1 : Ob} {u2 u3 : Nat → Ob} {ho : Nat} {fo : Nat → Int64} {q : (Nat ⊕ Int32) × Ob × Ob × (Nat → Ob) × (Nat → Ob)} (hf : f_X5_fix N x1 x2 u0 u1 u2 u3 = some q) (hk : ∀ k, q.1 = .inl k → k = 2 ∨ k = 1) : Met l yL_fix (Cond.codeWith yL_fix cL_fix 5 (some .int) [(0, 10, 13, 45), (0, 10, 17, 19)] :: lw_g) ({ frames := 7, cells := 1, slots := 6, locals := 112 } : Room) (va_Pc [.ref h0, .int x1, .int x2, .ref ho] (pw G ([(ho, .inl (G.2.2.1 2, 1, .inr (.inl fo)))] ++ wAll G h0 a0 u0 a1 u1 ra rb u2 u3) sz)) (va_Qi (fun (r : Int32) (v : (Nat → Int64) × Ob × Ob × (Nat → Ob) × (Nat → Ob)) => hc 2 q.1 = r ∧ (hoI fo q.1, q.2) = v) (bw G (fun v : (Nat → Int64) × Ob × Ob × (Nat → Ob) × (Nat → Ob) => [(ho, .inl (G.2.2.1 2, 1, .inr (.inl v.1)))] ++ wAll G h0 a0 v.2.1 a1 v.2.2.1 ra rb v.2.2.2.1 v.2.2.2.2) (va_A ([(ho, .inl (G.2.2.1 2, 1, .inr (.inl fo)))] ++ wAll G h0 a0 u0 a1 u1 ra rb u2 u3) sz)) (va_A ([(ho, .inl (G.2.2.1 2, 1, .inr (.inl fo)))] ++ wAll G h0 a0 u0 a1 u1 ra rb u2 u3) sz)) 1 6 (va_A ([(ho, .inl (G.2.2.1 2, 1, .inr (.inl fo)))] ++ wAll G h0 a0 u0 a1 u1 ra rb u2 u3) sz) := by
  refine mtw (y := yL_fix) (maxL := 5) (av := [.ref h0, .int x1, .int x2, .ref ho]) (Qc := fun A => va_Qi (fun (r : Int32) (v : (Nat → Int64) × Ob × Ob × (Nat → Ob) × (Nat → Ob)) => hc 2 q.1 = r ∧ (hoI fo q.1, q.2) = v) (bw G (fun v : (Nat → Int64) × Ob × Ob × (Nat → Ob) × (Nat → Ob) => [(ho, .inl (G.2.2.1 2, 1, .inr (.inl v.1)))] ++ wAll G h0 a0 v.2.1 a1 v.2.2.1 ra rb v.2.2.2.1 v.2.2.2.2) A) A) (by decide) (Nat.le_of_ble_eq_true rfl) ?_
  intro p e s m below meth c A ls hx hb hr hlk hml htb hts hown hA hP hK hD hE hS hl
  have hown : s.vm.findClass RL = some m.cls := hown
  have hg : ∀ w ∈ lw_g, w.before ([.ref h0, .int x1, .int x2, .ref ho] : List Value).toArray s = true := fun w h => hts w (List.mem_cons_of_mem _ h)
  have hC : CallFix p m c cL_fix 5 s ([.ref h0, .int x1, .int x2, .ref ho] : List Value).toArray lw_g RL := ⟨hx, hb, hml, hown, hg⟩
  have hl : lv_has ls 5 [(0, .ref h0), (1, .int x1), (2, .int x2), (3, .ref ho)] := hl
  refine lv_aload_n hx hb dL_fix_0 rfl (lv_at hl 3 rfl) ?_
  refine lv_iconst (v := (0 : Int32)) hx hb dL_fix_1 (by decide) ?_
  refine lv_aload_n hx hb dL_fix_2 rfl (lv_at hl 0 rfl) ?_
  refine lv_iload_n hx hb dL_fix_3 rfl (lv_at hl 1 rfl) ?_
  refine lv_iload_n hx hb dL_fix_4 rfl (lv_at hl 2 rfl) ?_
  refine kXi (As := [.int x1, .int x2]) (rest := [.int (0 : Int32), .ref ho]) hC (c_X5_fix hlf (G := G) hf) kq4_110 kc_X5_fix (by decide) 0 (ci := 3) rfl rfl hP hK hD hE hS hA (out := (fun v : Ob × Ob × (Nat → Ob) × (Nat → Ob) => [(ho, .inl (G.2.2.1 2, 1, .inr (.inl fo)))] ++ wAll G h0 a0 v.1 a1 v.2.1 ra rb v.2.2.1 v.2.2.2)) (wr := [(ho, .inl (G.2.2.1 2, 1, .inr (.inl fo)))]) List.perm_append_comm (fun _ => List.perm_append_comm) hl.1 (Nat.le_of_ble_eq_true rfl) ⟨Nat.le_of_ble_eq_true rfl, Nat.le_of_ble_eq_true rfl⟩ dL_fix_5 (fun k E u9 q9 ce H locs hkE hw hP hD hS h1 h2 h3 => ?_) (fun r9 u9 H locs hw hP hD hS => ?_)
  · obtain ⟨v0, v1, v2, v3⟩ := u9
    have hw : q = (.inl k, (v0, v1, v2, v3)) := hw
    subst hw
    have hk := hk k rfl
    rcases hk with rfl | rfl
    · cases hkE
      refine vx_catch (name := "java/lang/IndexOutOfBoundsException") (E := "java/lang/IndexOutOfBoundsException") hown [] ⟨0, 10, 13, 45⟩ [⟨0, 10, 17, 19⟩] htb (fun z h => absurd h List.not_mem_nil) (by decide) (by decide) (hg _ kq4_16) ((hE.2.2.2.2.2.1 "java/lang/IndexOutOfBoundsException" (by decide +kernel)).use rfl) h1 h2 h3 ?_
      refine lv_astore (lv' := [(4, .ref q9), (0, .ref h0), (1, .int x1), (2, .int x2), (3, .ref ho)]) hx hb dL_fix_13 hl (by decide) rfl (fun ls hl => ?_)
      refine lv_iconst (v := (1 : Int32)) hx hb dL_fix_15 (by decide) ?_
      refine W.widen (k := 1) (n := 6) (by decide) (by decide) ?_
      exact e_i (post := (fun (r : Int32) (v : (Nat → Int64) × Ob × Ob × (Nat → Ob) × (Nat → Ob)) => hc 2 ((.inl 2, (v0, v1, v2, v3)) : (Nat ⊕ Int32) × Ob × Ob × (Nat → Ob) × (Nat → Ob)).1 = r ∧ (hoI fo ((.inl 2, (v0, v1, v2, v3)) : (Nat ⊕ Int32) × Ob × Ob × (Nat → Ob) × (Nat → Ob)).1, ((.inl 2, (v0, v1, v2, v3)) : (Nat ⊕ Int32) × Ob × Ob × (Nat → Ob) × (Nat → Ob)).2) = v)) (wf := (fun v : (Nat → Int64) × Ob × Ob × (Nat → Ob) × (Nat → Ob) => [(ho, .inl (G.2.2.1 2, 1, .inr (.inl v.1)))] ++ wAll G h0 a0 v.2.1 a1 v.2.2.1 ra rb v.2.2.2.1 v.2.2.2.2)) hx hb hr hlk (fo, v0, v1, v2, v3) ⟨rfl, rfl⟩ hP hK hD hS dL_fix_16
    · cases hkE
      refine vx_catch (name := "java/lang/IllegalArgumentException") (E := "java/lang/IllegalArgumentException") hown [⟨0, 10, 13, 45⟩] ⟨0, 10, 17, 19⟩ [] htb (fun z h => by obtain rfl := List.mem_singleton.mp h; exact Or.inr ⟨by decide, "java/lang/IndexOutOfBoundsException", hg _ kq4_16, hE.2.2.2.2.2.2.1 "java/lang/IllegalArgumentException" (by decide +kernel) "java/lang/IndexOutOfBoundsException" (by decide +kernel) (by decide +kernel)⟩) (by decide) (by decide) (hg _ kq2_186) ((hE.2.2.2.2.2.1 "java/lang/IllegalArgumentException" (by decide +kernel)).use rfl) h1 h2 h3 ?_
      refine lv_astore (lv' := [(4, .ref q9), (0, .ref h0), (1, .int x1), (2, .int x2), (3, .ref ho)]) hx hb dL_fix_17 hl (by decide) rfl (fun ls hl => ?_)
      refine lv_iconst (v := (2 : Int32)) hx hb dL_fix_19 (by decide) ?_
      refine W.widen (k := 1) (n := 6) (by decide) (by decide) ?_
      exact e_i (post := (fun (r : Int32) (v : (Nat → Int64) × Ob × Ob × (Nat → Ob) × (Nat → Ob)) => hc 2 ((.inl 1, (v0, v1, v2, v3)) : (Nat ⊕ Int32) × Ob × Ob × (Nat → Ob) × (Nat → Ob)).1 = r ∧ (hoI fo ((.inl 1, (v0, v1, v2, v3)) : (Nat ⊕ Int32) × Ob × Ob × (Nat → Ob) × (Nat → Ob)).1, ((.inl 1, (v0, v1, v2, v3)) : (Nat ⊕ Int32) × Ob × Ob × (Nat → Ob) × (Nat → Ob)).2) = v)) (wf := (fun v : (Nat → Int64) × Ob × Ob × (Nat → Ob) × (Nat → Ob) => [(ho, .inl (G.2.2.1 2, 1, .inr (.inl v.1)))] ++ wAll G h0 a0 v.2.1 a1 v.2.2.1 ra rb v.2.2.2.1 v.2.2.2.2)) hx hb hr hlk (fo, v0, v1, v2, v3) ⟨rfl, rfl⟩ hP hK hD hS dL_fix_20
  · have hw : q = (.inr r9, u9) := hw
    subst hw
    refine lv_i2l (v := r9.toInt64) hx hb dL_fix_8 rfl ?_
    refine va_last (f := fo) hx hb hK hP hD hS 0 2 rfl rfl (vin (by decide)) dL_fix_9 (fun H locs hP hD hS => ?_)
    have hP : va_P (gD G) vwCl ([(ho, .inl (G.2.2.1 2, 1, .inr (.inl (vp_updL fo (0 : Int32).toNatClampNeg r9.toInt64))))] ++ wAll G h0 a0 u9.1 a1 u9.2.1 ra rb u9.2.2.1 u9.2.2.2) H := hP
    have hD : va_D A ([(ho, .inl (G.2.2.1 2, 1, .inr (.inl (vp_updL fo (0 : Int32).toNatClampNeg r9.toInt64))))] ++ wAll G h0 a0 u9.1 a1 u9.2.1 ra rb u9.2.2.1 u9.2.2.2) := hD
    refine lv_goto (tgt := 21) hx hb dL_fix_10 (by decide) ?_
    refine lv_iconst (v := (0 : Int32)) hx hb dL_fix_21 (by decide) ?_
    refine W.widen (k := 1) (n := 6) (by decide) (by decide) ?_
    exact e_i (post := (fun (r : Int32) (v : (Nat → Int64) × Ob × Ob × (Nat → Ob) × (Nat → Ob)) => hc 2 ((.inr r9, u9) : (Nat ⊕ Int32) × Ob × Ob × (Nat → Ob) × (Nat → Ob)).1 = r ∧ (hoI fo ((.inr r9, u9) : (Nat ⊕ Int32) × Ob × Ob × (Nat → Ob) × (Nat → Ob)).1, ((.inr r9, u9) : (Nat ⊕ Int32) × Ob × Ob × (Nat → Ob) × (Nat → Ob)).2) = v)) (wf := (fun v : (Nat → Int64) × Ob × Ob × (Nat → Ob) × (Nat → Ob) => [(ho, .inl (G.2.2.1 2, 1, .inr (.inl v.1)))] ++ wAll G h0 a0 v.2.1 a1 v.2.2.1 ra rb v.2.2.2.1 v.2.2.2.2)) hx hb hr hlk ((vp_updL fo (0 : Int32).toNatClampNeg r9.toInt64), u9) ⟨rfl, rfl⟩ hP hK hD hS dL_fix_22
theorem kc_L_fix : Cond.static yL_fix ∈ lw_g ∧ Cond.initialized yL_fix.cls ∈ lw_g ∧ Cond.codeWith yL_fix cL_fix 5 (some .int) [(0, 10, 13, 45), (0, 10, 17, 19)] ∈ lw_g ∧ yL_fix.cls ≠ "java/lang/invoke/MethodHandle" ∧ yL_fix.cls ≠ "java/lang/invoke/VarHandle" ∧ (parseMethodDescriptor yL_fix.desc).map (fun d => d.parameters.length) = some 4 := ⟨kq4_108, kq1_0, kq4_109, by decide +kernel, by decide +kernel, by decide +kernel⟩
theorem dL_frame_0 : decode cL_frame 0 = .ok (.aload_n 3, 1) := by decide +kernel
theorem dL_frame_1 : decode cL_frame 1 = .ok (.iconst 0, 1) := by decide +kernel
theorem dL_frame_2 : decode cL_frame 2 = .ok (.aload_n 0, 1) := by decide +kernel
theorem dL_frame_3 : decode cL_frame 3 = .ok (.iload_n 1, 1) := by decide +kernel
theorem dL_frame_4 : decode cL_frame 4 = .ok (.iload_n 2, 1) := by decide +kernel
theorem dL_frame_5 : decode cL_frame 5 = .ok (.invokevirtual 47, 3) := by decide +kernel
theorem dL_frame_8 : decode cL_frame 8 = .ok (.i2l, 1) := by decide +kernel
theorem dL_frame_9 : decode cL_frame 9 = .ok (.lastore, 1) := by decide +kernel
theorem dL_frame_10 : decode cL_frame 10 = .ok (.goto 11, 3) := by decide +kernel
theorem dL_frame_13 : decode cL_frame 13 = .ok (.astore 4, 2) := by decide +kernel
theorem dL_frame_15 : decode cL_frame 15 = .ok (.iconst 1, 1) := by decide +kernel
theorem dL_frame_16 : decode cL_frame 16 = .ok (.ireturn, 1) := by decide +kernel
theorem dL_frame_17 : decode cL_frame 17 = .ok (.astore 4, 2) := by decide +kernel
theorem dL_frame_19 : decode cL_frame 19 = .ok (.iconst 2, 1) := by decide +kernel
theorem dL_frame_20 : decode cL_frame 20 = .ok (.ireturn, 1) := by decide +kernel
theorem dL_frame_21 : decode cL_frame 21 = .ok (.iconst 0, 1) := by decide +kernel
theorem dL_frame_22 : decode cL_frame 22 = .ok (.ireturn, 1) := by decide +kernel
set_option maxRecDepth 100000 in
set_option maxHeartbeats 4000000 in
theorem c_L_frame {l : Launch} (hlf : l.stackTraces = false) {G : Gp} {sz N : Nat} {x1 : Int32} {x2 : Int32} {h0 : Nat} {a0 a1 : Nat → Nat} {ra rb : Nat → Nat → Nat} {u0 u1 : Ob} {u2 u3 : Nat → Ob} {ho : Nat} {fo : Nat → Int64} {q : (Nat ⊕ Int32) × Ob × Ob × (Nat → Ob) × (Nat → Ob)} (hf : f_X5_frame N x1 x2 u0 u1 u2 u3 = some q) (hk : ∀ k, q.1 = .inl k → k = 2 ∨ k = 1) : Met l yL_frame (Cond.codeWith yL_frame cL_frame 5 (some .int) [(0, 10, 13, 45), (0, 10, 17, 19)] :: lw_g) ({ frames := 7, cells := 1, slots := 6, locals := 116 } : Room) (va_Pc [.ref h0, .int x1, .int x2, .ref ho] (pw G ([(ho, .inl (G.2.2.1 2, 1, .inr (.inl fo)))] ++ wAll G h0 a0 u0 a1 u1 ra rb u2 u3) sz)) (va_Qi (fun (r : Int32) (v : (Nat → Int64) × Ob × Ob × (Nat → Ob) × (Nat → Ob)) => hc 2 q.1 = r ∧ (hoI fo q.1, q.2) = v) (bw G (fun v : (Nat → Int64) × Ob × Ob × (Nat → Ob) × (Nat → Ob) => [(ho, .inl (G.2.2.1 2, 1, .inr (.inl v.1)))] ++ wAll G h0 a0 v.2.1 a1 v.2.2.1 ra rb v.2.2.2.1 v.2.2.2.2) (va_A ([(ho, .inl (G.2.2.1 2, 1, .inr (.inl fo)))] ++ wAll G h0 a0 u0 a1 u1 ra rb u2 u3) sz)) (va_A ([(ho, .inl (G.2.2.1 2, 1, .inr (.inl fo)))] ++ wAll G h0 a0 u0 a1 u1 ra rb u2 u3) sz)) 1 6 (va_A ([(ho, .inl (G.2.2.1 2, 1, .inr (.inl fo)))] ++ wAll G h0 a0 u0 a1 u1 ra rb u2 u3) sz) := by
  refine mtw (y := yL_frame) (maxL := 5) (av := [.ref h0, .int x1, .int x2, .ref ho]) (Qc := fun A => va_Qi (fun (r : Int32) (v : (Nat → Int64) × Ob × Ob × (Nat → Ob) × (Nat → Ob)) => hc 2 q.1 = r ∧ (hoI fo q.1, q.2) = v) (bw G (fun v : (Nat → Int64) × Ob × Ob × (Nat → Ob) × (Nat → Ob) => [(ho, .inl (G.2.2.1 2, 1, .inr (.inl v.1)))] ++ wAll G h0 a0 v.2.1 a1 v.2.2.1 ra rb v.2.2.2.1 v.2.2.2.2) A) A) (by decide) (Nat.le_of_ble_eq_true rfl) ?_
  intro p e s m below meth c A ls hx hb hr hlk hml htb hts hown hA hP hK hD hE hS hl
  have hown : s.vm.findClass RL = some m.cls := hown
  have hg : ∀ w ∈ lw_g, w.before ([.ref h0, .int x1, .int x2, .ref ho] : List Value).toArray s = true := fun w h => hts w (List.mem_cons_of_mem _ h)
  have hC : CallFix p m c cL_frame 5 s ([.ref h0, .int x1, .int x2, .ref ho] : List Value).toArray lw_g RL := ⟨hx, hb, hml, hown, hg⟩
  have hl : lv_has ls 5 [(0, .ref h0), (1, .int x1), (2, .int x2), (3, .ref ho)] := hl
  refine lv_aload_n hx hb dL_frame_0 rfl (lv_at hl 3 rfl) ?_
  refine lv_iconst (v := (0 : Int32)) hx hb dL_frame_1 (by decide) ?_
  refine lv_aload_n hx hb dL_frame_2 rfl (lv_at hl 0 rfl) ?_
  refine lv_iload_n hx hb dL_frame_3 rfl (lv_at hl 1 rfl) ?_
  refine lv_iload_n hx hb dL_frame_4 rfl (lv_at hl 2 rfl) ?_
  refine kXi (As := [.int x1, .int x2]) (rest := [.int (0 : Int32), .ref ho]) hC (c_X5_frame hlf (G := G) hf) kq4_43 kc_X5_frame (by decide) 0 (ci := 3) rfl rfl hP hK hD hE hS hA (out := (fun v : Ob × Ob × (Nat → Ob) × (Nat → Ob) => [(ho, .inl (G.2.2.1 2, 1, .inr (.inl fo)))] ++ wAll G h0 a0 v.1 a1 v.2.1 ra rb v.2.2.1 v.2.2.2)) (wr := [(ho, .inl (G.2.2.1 2, 1, .inr (.inl fo)))]) List.perm_append_comm (fun _ => List.perm_append_comm) hl.1 (Nat.le_of_ble_eq_true rfl) ⟨Nat.le_of_ble_eq_true rfl, Nat.le_of_ble_eq_true rfl⟩ dL_frame_5 (fun k E u9 q9 ce H locs hkE hw hP hD hS h1 h2 h3 => ?_) (fun r9 u9 H locs hw hP hD hS => ?_)
  · obtain ⟨v0, v1, v2, v3⟩ := u9
    have hw : q = (.inl k, (v0, v1, v2, v3)) := hw
    subst hw
    have hk := hk k rfl
    rcases hk with rfl | rfl
    · cases hkE
      refine vx_catch (name := "java/lang/IndexOutOfBoundsException") (E := "java/lang/IndexOutOfBoundsException") hown [] ⟨0, 10, 13, 45⟩ [⟨0, 10, 17, 19⟩] htb (fun z h => absurd h List.not_mem_nil) (by decide) (by decide) (hg _ kq4_16) ((hE.2.2.2.2.2.1 "java/lang/IndexOutOfBoundsException" (by decide +kernel)).use rfl) h1 h2 h3 ?_
      refine lv_astore (lv' := [(4, .ref q9), (0, .ref h0), (1, .int x1), (2, .int x2), (3, .ref ho)]) hx hb dL_frame_13 hl (by decide) rfl (fun ls hl => ?_)
      refine lv_iconst (v := (1 : Int32)) hx hb dL_frame_15 (by decide) ?_
      refine W.widen (k := 1) (n := 6) (by decide) (by decide) ?_
      exact e_i (post := (fun (r : Int32) (v : (Nat → Int64) × Ob × Ob × (Nat → Ob) × (Nat → Ob)) => hc 2 ((.inl 2, (v0, v1, v2, v3)) : (Nat ⊕ Int32) × Ob × Ob × (Nat → Ob) × (Nat → Ob)).1 = r ∧ (hoI fo ((.inl 2, (v0, v1, v2, v3)) : (Nat ⊕ Int32) × Ob × Ob × (Nat → Ob) × (Nat → Ob)).1, ((.inl 2, (v0, v1, v2, v3)) : (Nat ⊕ Int32) × Ob × Ob × (Nat → Ob) × (Nat → Ob)).2) = v)) (wf := (fun v : (Nat → Int64) × Ob × Ob × (Nat → Ob) × (Nat → Ob) => [(ho, .inl (G.2.2.1 2, 1, .inr (.inl v.1)))] ++ wAll G h0 a0 v.2.1 a1 v.2.2.1 ra rb v.2.2.2.1 v.2.2.2.2)) hx hb hr hlk (fo, v0, v1, v2, v3) ⟨rfl, rfl⟩ hP hK hD hS dL_frame_16
    · cases hkE
      refine vx_catch (name := "java/lang/IllegalArgumentException") (E := "java/lang/IllegalArgumentException") hown [⟨0, 10, 13, 45⟩] ⟨0, 10, 17, 19⟩ [] htb (fun z h => by obtain rfl := List.mem_singleton.mp h; exact Or.inr ⟨by decide, "java/lang/IndexOutOfBoundsException", hg _ kq4_16, hE.2.2.2.2.2.2.1 "java/lang/IllegalArgumentException" (by decide +kernel) "java/lang/IndexOutOfBoundsException" (by decide +kernel) (by decide +kernel)⟩) (by decide) (by decide) (hg _ kq2_186) ((hE.2.2.2.2.2.1 "java/lang/IllegalArgumentException" (by decide +kernel)).use rfl) h1 h2 h3 ?_
      refine lv_astore (lv' := [(4, .ref q9), (0, .ref h0), (1, .int x1), (2, .int x2), (3, .ref ho)]) hx hb dL_frame_17 hl (by decide) rfl (fun ls hl => ?_)
      refine lv_iconst (v := (2 : Int32)) hx hb dL_frame_19 (by decide) ?_
      refine W.widen (k := 1) (n := 6) (by decide) (by decide) ?_
      exact e_i (post := (fun (r : Int32) (v : (Nat → Int64) × Ob × Ob × (Nat → Ob) × (Nat → Ob)) => hc 2 ((.inl 1, (v0, v1, v2, v3)) : (Nat ⊕ Int32) × Ob × Ob × (Nat → Ob) × (Nat → Ob)).1 = r ∧ (hoI fo ((.inl 1, (v0, v1, v2, v3)) : (Nat ⊕ Int32) × Ob × Ob × (Nat → Ob) × (Nat → Ob)).1, ((.inl 1, (v0, v1, v2, v3)) : (Nat ⊕ Int32) × Ob × Ob × (Nat → Ob) × (Nat → Ob)).2) = v)) (wf := (fun v : (Nat → Int64) × Ob × Ob × (Nat → Ob) × (Nat → Ob) => [(ho, .inl (G.2.2.1 2, 1, .inr (.inl v.1)))] ++ wAll G h0 a0 v.2.1 a1 v.2.2.1 ra rb v.2.2.2.1 v.2.2.2.2)) hx hb hr hlk (fo, v0, v1, v2, v3) ⟨rfl, rfl⟩ hP hK hD hS dL_frame_20
  · have hw : q = (.inr r9, u9) := hw
    subst hw
    refine lv_i2l (v := r9.toInt64) hx hb dL_frame_8 rfl ?_
    refine va_last (f := fo) hx hb hK hP hD hS 0 2 rfl rfl (vin (by decide)) dL_frame_9 (fun H locs hP hD hS => ?_)
    have hP : va_P (gD G) vwCl ([(ho, .inl (G.2.2.1 2, 1, .inr (.inl (vp_updL fo (0 : Int32).toNatClampNeg r9.toInt64))))] ++ wAll G h0 a0 u9.1 a1 u9.2.1 ra rb u9.2.2.1 u9.2.2.2) H := hP
    have hD : va_D A ([(ho, .inl (G.2.2.1 2, 1, .inr (.inl (vp_updL fo (0 : Int32).toNatClampNeg r9.toInt64))))] ++ wAll G h0 a0 u9.1 a1 u9.2.1 ra rb u9.2.2.1 u9.2.2.2) := hD
    refine lv_goto (tgt := 21) hx hb dL_frame_10 (by decide) ?_
    refine lv_iconst (v := (0 : Int32)) hx hb dL_frame_21 (by decide) ?_
    refine W.widen (k := 1) (n := 6) (by decide) (by decide) ?_
    exact e_i (post := (fun (r : Int32) (v : (Nat → Int64) × Ob × Ob × (Nat → Ob) × (Nat → Ob)) => hc 2 ((.inr r9, u9) : (Nat ⊕ Int32) × Ob × Ob × (Nat → Ob) × (Nat → Ob)).1 = r ∧ (hoI fo ((.inr r9, u9) : (Nat ⊕ Int32) × Ob × Ob × (Nat → Ob) × (Nat → Ob)).1, ((.inr r9, u9) : (Nat ⊕ Int32) × Ob × Ob × (Nat → Ob) × (Nat → Ob)).2) = v)) (wf := (fun v : (Nat → Int64) × Ob × Ob × (Nat → Ob) × (Nat → Ob) => [(ho, .inl (G.2.2.1 2, 1, .inr (.inl v.1)))] ++ wAll G h0 a0 v.2.1 a1 v.2.2.1 ra rb v.2.2.2.1 v.2.2.2.2)) hx hb hr hlk ((vp_updL fo (0 : Int32).toNatClampNeg r9.toInt64), u9) ⟨rfl, rfl⟩ hP hK hD hS dL_frame_22
theorem kc_L_frame : Cond.static yL_frame ∈ lw_g ∧ Cond.initialized yL_frame.cls ∈ lw_g ∧ Cond.codeWith yL_frame cL_frame 5 (some .int) [(0, 10, 13, 45), (0, 10, 17, 19)] ∈ lw_g ∧ yL_frame.cls ≠ "java/lang/invoke/MethodHandle" ∧ yL_frame.cls ≠ "java/lang/invoke/VarHandle" ∧ (parseMethodDescriptor yL_frame.desc).map (fun d => d.parameters.length) = some 4 := ⟨kq4_41, kq1_0, kq4_42, by decide +kernel, by decide +kernel, by decide +kernel⟩
theorem dL_frameBit_0 : decode cL_frameBit 0 = .ok (.aload_n 3, 1) := by decide +kernel
theorem dL_frameBit_1 : decode cL_frameBit 1 = .ok (.iconst 0, 1) := by decide +kernel
theorem dL_frameBit_2 : decode cL_frameBit 2 = .ok (.aload_n 0, 1) := by decide +kernel
theorem dL_frameBit_3 : decode cL_frameBit 3 = .ok (.iload_n 1, 1) := by decide +kernel
theorem dL_frameBit_4 : decode cL_frameBit 4 = .ok (.iload_n 2, 1) := by decide +kernel
theorem dL_frameBit_5 : decode cL_frameBit 5 = .ok (.invokevirtual 50, 3) := by decide +kernel
theorem dL_frameBit_8 : decode cL_frameBit 8 = .ok (.i2l, 1) := by decide +kernel
theorem dL_frameBit_9 : decode cL_frameBit 9 = .ok (.lastore, 1) := by decide +kernel
theorem dL_frameBit_10 : decode cL_frameBit 10 = .ok (.goto 7, 3) := by decide +kernel
theorem dL_frameBit_13 : decode cL_frameBit 13 = .ok (.astore 4, 2) := by decide +kernel
theorem dL_frameBit_15 : decode cL_frameBit 15 = .ok (.iconst 1, 1) := by decide +kernel
theorem dL_frameBit_16 : decode cL_frameBit 16 = .ok (.ireturn, 1) := by decide +kernel
theorem dL_frameBit_17 : decode cL_frameBit 17 = .ok (.iconst 0, 1) := by decide +kernel
theorem dL_frameBit_18 : decode cL_frameBit 18 = .ok (.ireturn, 1) := by decide +kernel
set_option maxRecDepth 100000 in
set_option maxHeartbeats 4000000 in
theorem c_L_frameBit {l : Launch} (hlf : l.stackTraces = false) {G : Gp} {sz N : Nat} {x1 : Int32} {x2 : Int32} {h0 : Nat} {a0 a1 : Nat → Nat} {ra rb : Nat → Nat → Nat} {u0 u1 : Ob} {u2 u3 : Nat → Ob} {ho : Nat} {fo : Nat → Int64} {q : (Nat ⊕ Int32) × Ob × Ob × (Nat → Ob) × (Nat → Ob)} (hf : f_X5_frameBit N x1 x2 u0 u1 u2 u3 = some q) (hk : ∀ k, q.1 = .inl k → k = 2) : Met l yL_frameBit (Cond.codeWith yL_frameBit cL_frameBit 5 (some .int) [(0, 10, 13, 45)] :: lw_g) ({ frames := 7, cells := 1, slots := 6, locals := 112 } : Room) (va_Pc [.ref h0, .int x1, .int x2, .ref ho] (pw G ([(ho, .inl (G.2.2.1 2, 1, .inr (.inl fo)))] ++ wAll G h0 a0 u0 a1 u1 ra rb u2 u3) sz)) (va_Qi (fun (r : Int32) (v : (Nat → Int64) × Ob × Ob × (Nat → Ob) × (Nat → Ob)) => hc 2 q.1 = r ∧ (hoI fo q.1, q.2) = v) (bw G (fun v : (Nat → Int64) × Ob × Ob × (Nat → Ob) × (Nat → Ob) => [(ho, .inl (G.2.2.1 2, 1, .inr (.inl v.1)))] ++ wAll G h0 a0 v.2.1 a1 v.2.2.1 ra rb v.2.2.2.1 v.2.2.2.2) (va_A ([(ho, .inl (G.2.2.1 2, 1, .inr (.inl fo)))] ++ wAll G h0 a0 u0 a1 u1 ra rb u2 u3) sz)) (va_A ([(ho, .inl (G.2.2.1 2, 1, .inr (.inl fo)))] ++ wAll G h0 a0 u0 a1 u1 ra rb u2 u3) sz)) 1 6 (va_A ([(ho, .inl (G.2.2.1 2, 1, .inr (.inl fo)))] ++ wAll G h0 a0 u0 a1 u1 ra rb u2 u3) sz) := by
  refine mtw (y := yL_frameBit) (maxL := 5) (av := [.ref h0, .int x1, .int x2, .ref ho]) (Qc := fun A => va_Qi (fun (r : Int32) (v : (Nat → Int64) × Ob × Ob × (Nat → Ob) × (Nat → Ob)) => hc 2 q.1 = r ∧ (hoI fo q.1, q.2) = v) (bw G (fun v : (Nat → Int64) × Ob × Ob × (Nat → Ob) × (Nat → Ob) => [(ho, .inl (G.2.2.1 2, 1, .inr (.inl v.1)))] ++ wAll G h0 a0 v.2.1 a1 v.2.2.1 ra rb v.2.2.2.1 v.2.2.2.2) A) A) (by decide) (Nat.le_of_ble_eq_true rfl) ?_
  intro p e s m below meth c A ls hx hb hr hlk hml htb hts hown hA hP hK hD hE hS hl
  have hown : s.vm.findClass RL = some m.cls := hown
  have hg : ∀ w ∈ lw_g, w.before ([.ref h0, .int x1, .int x2, .ref ho] : List Value).toArray s = true := fun w h => hts w (List.mem_cons_of_mem _ h)
  have hC : CallFix p m c cL_frameBit 5 s ([.ref h0, .int x1, .int x2, .ref ho] : List Value).toArray lw_g RL := ⟨hx, hb, hml, hown, hg⟩
  have hl : lv_has ls 5 [(0, .ref h0), (1, .int x1), (2, .int x2), (3, .ref ho)] := hl
  refine lv_aload_n hx hb dL_frameBit_0 rfl (lv_at hl 3 rfl) ?_
  refine lv_iconst (v := (0 : Int32)) hx hb dL_frameBit_1 (by decide) ?_
  refine lv_aload_n hx hb dL_frameBit_2 rfl (lv_at hl 0 rfl) ?_
  refine lv_iload_n hx hb dL_frameBit_3 rfl (lv_at hl 1 rfl) ?_
  refine lv_iload_n hx hb dL_frameBit_4 rfl (lv_at hl 2 rfl) ?_
  refine kXi (As := [.int x1, .int x2]) (rest := [.int (0 : Int32), .ref ho]) hC (c_X5_frameBit hlf (G := G) hf) kq4_60 kc_X5_frameBit (by decide) 0 (ci := 3) rfl rfl hP hK hD hE hS hA (out := (fun v : Ob × Ob × (Nat → Ob) × (Nat → Ob) => [(ho, .inl (G.2.2.1 2, 1, .inr (.inl fo)))] ++ wAll G h0 a0 v.1 a1 v.2.1 ra rb v.2.2.1 v.2.2.2)) (wr := [(ho, .inl (G.2.2.1 2, 1, .inr (.inl fo)))]) List.perm_append_comm (fun _ => List.perm_append_comm) hl.1 (Nat.le_of_ble_eq_true rfl) ⟨Nat.le_of_ble_eq_true rfl, Nat.le_of_ble_eq_true rfl⟩ dL_frameBit_5 (fun k E u9 q9 ce H locs hkE hw hP hD hS h1 h2 h3 => ?_) (fun r9 u9 H locs hw hP hD hS => ?_)
  · obtain ⟨v0, v1, v2, v3⟩ := u9
    have hw : q = (.inl k, (v0, v1, v2, v3)) := hw
    subst hw
    have hk := hk k rfl
    subst hk
    cases hkE
    refine vx_catch (name := "java/lang/IndexOutOfBoundsException") (E := "java/lang/IndexOutOfBoundsException") hown [] ⟨0, 10, 13, 45⟩ [] htb (fun z h => absurd h List.not_mem_nil) (by decide) (by decide) (hg _ kq4_16) ((hE.2.2.2.2.2.1 "java/lang/IndexOutOfBoundsException" (by decide +kernel)).use rfl) h1 h2 h3 ?_
    refine lv_astore (lv' := [(4, .ref q9), (0, .ref h0), (1, .int x1), (2, .int x2), (3, .ref ho)]) hx hb dL_frameBit_13 hl (by decide) rfl (fun ls hl => ?_)
    refine lv_iconst (v := (1 : Int32)) hx hb dL_frameBit_15 (by decide) ?_
    refine W.widen (k := 1) (n := 6) (by decide) (by decide) ?_
    exact e_i (post := (fun (r : Int32) (v : (Nat → Int64) × Ob × Ob × (Nat → Ob) × (Nat → Ob)) => hc 2 ((.inl 2, (v0, v1, v2, v3)) : (Nat ⊕ Int32) × Ob × Ob × (Nat → Ob) × (Nat → Ob)).1 = r ∧ (hoI fo ((.inl 2, (v0, v1, v2, v3)) : (Nat ⊕ Int32) × Ob × Ob × (Nat → Ob) × (Nat → Ob)).1, ((.inl 2, (v0, v1, v2, v3)) : (Nat ⊕ Int32) × Ob × Ob × (Nat → Ob) × (Nat → Ob)).2) = v)) (wf := (fun v : (Nat → Int64) × Ob × Ob × (Nat → Ob) × (Nat → Ob) => [(ho, .inl (G.2.2.1 2, 1, .inr (.inl v.1)))] ++ wAll G h0 a0 v.2.1 a1 v.2.2.1 ra rb v.2.2.2.1 v.2.2.2.2)) hx hb hr hlk (fo, v0, v1, v2, v3) ⟨rfl, rfl⟩ hP hK hD hS dL_frameBit_16
  · have hw : q = (.inr r9, u9) := hw
    subst hw
    refine lv_i2l (v := r9.toInt64) hx hb dL_frameBit_8 rfl ?_
    refine va_last (f := fo) hx hb hK hP hD hS 0 2 rfl rfl (vin (by decide)) dL_frameBit_9 (fun H locs hP hD hS => ?_)
    have hP : va_P (gD G) vwCl ([(ho, .inl (G.2.2.1 2, 1, .inr (.inl (vp_updL fo (0 : Int32).toNatClampNeg r9.toInt64))))] ++ wAll G h0 a0 u9.1 a1 u9.2.1 ra rb u9.2.2.1 u9.2.2.2) H := hP
    have hD : va_D A ([(ho, .inl (G.2.2.1 2, 1, .inr (.inl (vp_updL fo (0 : Int32).toNatClampNeg r9.toInt64))))] ++ wAll G h0 a0 u9.1 a1 u9.2.1 ra rb u9.2.2.1 u9.2.2.2) := hD
    refine lv_goto (tgt := 17) hx hb dL_frameBit_10 (by decide) ?_
    refine lv_iconst (v := (0 : Int32)) hx hb dL_frameBit_17 (by decide) ?_
    refine W.widen (k := 1) (n := 6) (by decide) (by decide) ?_
    exact e_i (post := (fun (r : Int32) (v : (Nat → Int64) × Ob × Ob × (Nat → Ob) × (Nat → Ob)) => hc 2 ((.inr r9, u9) : (Nat ⊕ Int32) × Ob × Ob × (Nat → Ob) × (Nat → Ob)).1 = r ∧ (hoI fo ((.inr r9, u9) : (Nat ⊕ Int32) × Ob × Ob × (Nat → Ob) × (Nat → Ob)).1, ((.inr r9, u9) : (Nat ⊕ Int32) × Ob × Ob × (Nat → Ob) × (Nat → Ob)).2) = v)) (wf := (fun v : (Nat → Int64) × Ob × Ob × (Nat → Ob) × (Nat → Ob) => [(ho, .inl (G.2.2.1 2, 1, .inr (.inl v.1)))] ++ wAll G h0 a0 v.2.1 a1 v.2.2.1 ra rb v.2.2.2.1 v.2.2.2.2)) hx hb hr hlk ((vp_updL fo (0 : Int32).toNatClampNeg r9.toInt64), u9) ⟨rfl, rfl⟩ hP hK hD hS dL_frameBit_18
theorem kc_L_frameBit : Cond.static yL_frameBit ∈ lw_g ∧ Cond.initialized yL_frameBit.cls ∈ lw_g ∧ Cond.codeWith yL_frameBit cL_frameBit 5 (some .int) [(0, 10, 13, 45)] ∈ lw_g ∧ yL_frameBit.cls ≠ "java/lang/invoke/MethodHandle" ∧ yL_frameBit.cls ≠ "java/lang/invoke/VarHandle" ∧ (parseMethodDescriptor yL_frameBit.desc).map (fun d => d.parameters.length) = some 4 := ⟨kq4_58, kq1_0, kq4_59, by decide +kernel, by decide +kernel, by decide +kernel⟩
theorem dL_hear_0 : decode cL_hear 0 = .ok (.aload 5, 2) := by decide +kernel
theorem dL_hear_2 : decode cL_hear 2 = .ok (.iconst 0, 1) := by decide +kernel
theorem dL_hear_3 : decode cL_hear 3 = .ok (.aload_n 0, 1) := by decide +kernel
theorem dL_hear_4 : decode cL_hear 4 = .ok (.iload_n 1, 1) := by decide +kernel
theorem dL_hear_5 : decode cL_hear 5 = .ok (.iload_n 2, 1) := by decide +kernel
theorem dL_hear_6 : decode cL_hear 6 = .ok (.lload_n 3, 1) := by decide +kernel
theorem dL_hear_7 : decode cL_hear 7 = .ok (.invokevirtual 38, 3) := by decide +kernel
theorem dL_hear_10 : decode cL_hear 10 = .ok (.i2l, 1) := by decide +kernel
theorem dL_hear_11 : decode cL_hear 11 = .ok (.lastore, 1) := by decide +kernel
theorem dL_hear_12 : decode cL_hear 12 = .ok (.goto 11, 3) := by decide +kernel
theorem dL_hear_15 : decode cL_hear 15 = .ok (.astore 6, 2) := by decide +kernel
theorem dL_hear_17 : decode cL_hear 17 = .ok (.iconst 1, 1) := by decide +kernel
theorem dL_hear_18 : decode cL_hear 18 = .ok (.ireturn, 1) := by decide +kernel
theorem dL_hear_19 : decode cL_hear 19 = .ok (.astore 6, 2) := by decide +kernel
theorem dL_hear_21 : decode cL_hear 21 = .ok (.iconst 2, 1) := by decide +kernel
theorem dL_hear_22 : decode cL_hear 22 = .ok (.ireturn, 1) := by decide +kernel
theorem dL_hear_23 : decode cL_hear 23 = .ok (.iconst 0, 1) := by decide +kernel
theorem dL_hear_24 : decode cL_hear 24 = .ok (.ireturn, 1) := by decide +kernel
set_option maxRecDepth 100000 in
set_option maxHeartbeats 4000000 in
theorem c_L_hear {l : Launch} (hlf : l.stackTraces = false) {G : Gp} {sz N : Nat} {x1 : Int32} {x2 : Bool} {x3 : Int64} {h0 : Nat} {a0 a1 : Nat → Nat} {ra rb : Nat → Nat → Nat} {u0 u1 : Ob} {u2 u3 : Nat → Ob} {ho : Nat} {fo : Nat → Int64} {q : (Nat ⊕ Int32) × Ob × Ob × (Nat → Ob) × (Nat → Ob)} (hf : f_X5_hear N x1 x2 x3 u0 u1 u2 u3 = some q) (hk : ∀ k, q.1 = .inl k → k = 1 ∨ k = 0) : Met l yL_hear (Cond.codeWith yL_hear cL_hear 7 (some .int) [(0, 12, 15, 19), (0, 12, 19, 13)] :: lw_g) ({ frames := 8, cells := 1, slots := 6, locals := 203 } : Room) (va_Pc [.ref h0, .int x1, .int (bI x2), .long x3, .ref ho] (pw G ([(ho, .inl (G.2.2.1 2, 1, .inr (.inl fo)))] ++ wAll G h0 a0 u0 a1 u1 ra rb u2 u3) sz)) (va_Qi (fun (r : Int32) (v : (Nat → Int64) × Ob × Ob × (Nat → Ob) × (Nat → Ob)) => hc 1 q.1 = r ∧ (hoI fo q.1, q.2) = v) (bw G (fun v : (Nat → Int64) × Ob × Ob × (Nat → Ob) × (Nat → Ob) => [(ho, .inl (G.2.2.1 2, 1, .inr (.inl v.1)))] ++ wAll G h0 a0 v.2.1 a1 v.2.2.1 ra rb v.2.2.2.1 v.2.2.2.2) (va_A ([(ho, .inl (G.2.2.1 2, 1, .inr (.inl fo)))] ++ wAll G h0 a0 u0 a1 u1 ra rb u2 u3) sz)) (va_A ([(ho, .inl (G.2.2.1 2, 1, .inr (.inl fo)))] ++ wAll G h0 a0 u0 a1 u1 ra rb u2 u3) sz)) 1 6 (va_A ([(ho, .inl (G.2.2.1 2, 1, .inr (.inl fo)))] ++ wAll G h0 a0 u0 a1 u1 ra rb u2 u3) sz) := by
  refine mtw (y := yL_hear) (maxL := 7) (av := [.ref h0, .int x1, .int (bI x2), .long x3, .ref ho]) (Qc := fun A => va_Qi (fun (r : Int32) (v : (Nat → Int64) × Ob × Ob × (Nat → Ob) × (Nat → Ob)) => hc 1 q.1 = r ∧ (hoI fo q.1, q.2) = v) (bw G (fun v : (Nat → Int64) × Ob × Ob × (Nat → Ob) × (Nat → Ob) => [(ho, .inl (G.2.2.1 2, 1, .inr (.inl v.1)))] ++ wAll G h0 a0 v.2.1 a1 v.2.2.1 ra rb v.2.2.2.1 v.2.2.2.2) A) A) (by decide) (Nat.le_of_ble_eq_true rfl) ?_
  intro p e s m below meth c A ls hx hb hr hlk hml htb hts hown hA hP hK hD hE hS hl
  have hown : s.vm.findClass RL = some m.cls := hown
  have hg : ∀ w ∈ lw_g, w.before ([.ref h0, .int x1, .int (bI x2), .long x3, .ref ho] : List Value).toArray s = true := fun w h => hts w (List.mem_cons_of_mem _ h)
  have hC : CallFix p m c cL_hear 7 s ([.ref h0, .int x1, .int (bI x2), .long x3, .ref ho] : List Value).toArray lw_g RL := ⟨hx, hb, hml, hown, hg⟩
  have hl : lv_has ls 7 [(0, .ref h0), (1, .int x1), (2, .int (bI x2)), (3, .long x3), (5, .ref ho)] := hl
  refine lv_aload hx hb dL_hear_0 (lv_at hl 4 rfl) ?_
  refine lv_iconst (v := (0 : Int32)) hx hb dL_hear_2 (by decide) ?_
  refine lv_aload_n hx hb dL_hear_3 rfl (lv_at hl 0 rfl) ?_
  refine lv_iload_n hx hb dL_hear_4 rfl (lv_at hl 1 rfl) ?_
  refine lv_iload_n hx hb dL_hear_5 rfl (lv_at hl 2 rfl) ?_
  refine lv_lload_n hx hb dL_hear_6 rfl (lv_at hl 3 rfl) ?_
  refine kXi (As := [.int x1, .int (bI x2), .long x3]) (rest := [.int (0 : Int32), .ref ho]) hC (c_X5_hear hlf (G := G) hf) kq4_7 kc_X5_hear (by decide) 0 (ci := 3) rfl rfl hP hK hD hE hS hA (out := (fun v : Ob × Ob × (Nat → Ob) × (Nat → Ob) => [(ho, .inl (G.2.2.1 2, 1, .inr (.inl fo)))] ++ wAll G h0 a0 v.1 a1 v.2.1 ra rb v.2.2.1 v.2.2.2)) (wr := [(ho, .inl (G.2.2.1 2, 1, .inr (.inl fo)))]) List.perm_append_comm (fun _ => List.perm_append_comm) hl.1 (Nat.le_of_ble_eq_true rfl) ⟨Nat.le_of_ble_eq_true rfl, Nat.le_of_ble_eq_true rfl⟩ dL_hear_7 (fun k E u9 q9 ce H locs hkE hw hP hD hS h1 h2 h3 => ?_) (fun r9 u9 H locs hw hP hD hS => ?_)
  · obtain ⟨v0, v1, v2, v3⟩ := u9
    have hw : q = (.inl k, (v0, v1, v2, v3)) := hw
    subst hw
    have hk := hk k rfl
    rcases hk with rfl | rfl
    · cases hkE
      refine vx_catch (name := "java/lang/IllegalArgumentException") (E := "java/lang/IllegalArgumentException") hown [] ⟨0, 12, 15, 19⟩ [⟨0, 12, 19, 13⟩] htb (fun z h => absurd h List.not_mem_nil) (by decide) (by decide) (hg _ kq2_186) ((hE.2.2.2.2.2.1 "java/lang/IllegalArgumentException" (by decide +kernel)).use rfl) h1 h2 h3 ?_
      refine lv_astore (lv' := [(6, .ref q9), (0, .ref h0), (1, .int x1), (2, .int (bI x2)), (3, .long x3), (5, .ref ho)]) hx hb dL_hear_15 hl (by decide) rfl (fun ls hl => ?_)
      refine lv_iconst (v := (1 : Int32)) hx hb dL_hear_17 (by decide) ?_
      refine W.widen (k := 1) (n := 6) (by decide) (by decide) ?_
      exact e_i (post := (fun (r : Int32) (v : (Nat → Int64) × Ob × Ob × (Nat → Ob) × (Nat → Ob)) => hc 1 ((.inl 1, (v0, v1, v2, v3)) : (Nat ⊕ Int32) × Ob × Ob × (Nat → Ob) × (Nat → Ob)).1 = r ∧ (hoI fo ((.inl 1, (v0, v1, v2, v3)) : (Nat ⊕ Int32) × Ob × Ob × (Nat → Ob) × (Nat → Ob)).1, ((.inl 1, (v0, v1, v2, v3)) : (Nat ⊕ Int32) × Ob × Ob × (Nat → Ob) × (Nat → Ob)).2) = v)) (wf := (fun v : (Nat → Int64) × Ob × Ob × (Nat → Ob) × (Nat → Ob) => [(ho, .inl (G.2.2.1 2, 1, .inr (.inl v.1)))] ++ wAll G h0 a0 v.2.1 a1 v.2.2.1 ra rb v.2.2.2.1 v.2.2.2.2)) hx hb hr hlk (fo, v0, v1, v2, v3) ⟨rfl, rfl⟩ hP hK hD hS dL_hear_18
    · cases hkE
      refine vx_catch (name := "java/lang/IllegalStateException") (E := "java/lang/IllegalStateException") hown [⟨0, 12, 15, 19⟩] ⟨0, 12, 19, 13⟩ [] htb (fun z h => by obtain rfl := List.mem_singleton.mp h; exact Or.inr ⟨by decide, "java/lang/IllegalArgumentException", hg _ kq2_186, hE.2.2.2.2.2.2.1 "java/lang/IllegalStateException" (by decide +kernel) "java/lang/IllegalArgumentException" (by decide +kernel) (by decide +kernel)⟩) (by decide) (by decide) (hg _ kq2_106) ((hE.2.2.2.2.2.1 "java/lang/IllegalStateException" (by decide +kernel)).use rfl) h1 h2 h3 ?_
      refine lv_astore (lv' := [(6, .ref q9), (0, .ref h0), (1, .int x1), (2, .int (bI x2)), (3, .long x3), (5, .ref ho)]) hx hb dL_hear_19 hl (by decide) rfl (fun ls hl => ?_)
      refine lv_iconst (v := (2 : Int32)) hx hb dL_hear_21 (by decide) ?_
      refine W.widen (k := 1) (n := 6) (by decide) (by decide) ?_
      exact e_i (post := (fun (r : Int32) (v : (Nat → Int64) × Ob × Ob × (Nat → Ob) × (Nat → Ob)) => hc 1 ((.inl 0, (v0, v1, v2, v3)) : (Nat ⊕ Int32) × Ob × Ob × (Nat → Ob) × (Nat → Ob)).1 = r ∧ (hoI fo ((.inl 0, (v0, v1, v2, v3)) : (Nat ⊕ Int32) × Ob × Ob × (Nat → Ob) × (Nat → Ob)).1, ((.inl 0, (v0, v1, v2, v3)) : (Nat ⊕ Int32) × Ob × Ob × (Nat → Ob) × (Nat → Ob)).2) = v)) (wf := (fun v : (Nat → Int64) × Ob × Ob × (Nat → Ob) × (Nat → Ob) => [(ho, .inl (G.2.2.1 2, 1, .inr (.inl v.1)))] ++ wAll G h0 a0 v.2.1 a1 v.2.2.1 ra rb v.2.2.2.1 v.2.2.2.2)) hx hb hr hlk (fo, v0, v1, v2, v3) ⟨rfl, rfl⟩ hP hK hD hS dL_hear_22
  · have hw : q = (.inr r9, u9) := hw
    subst hw
    refine lv_i2l (v := r9.toInt64) hx hb dL_hear_10 rfl ?_
    refine va_last (f := fo) hx hb hK hP hD hS 0 2 rfl rfl (vin (by decide)) dL_hear_11 (fun H locs hP hD hS => ?_)
    have hP : va_P (gD G) vwCl ([(ho, .inl (G.2.2.1 2, 1, .inr (.inl (vp_updL fo (0 : Int32).toNatClampNeg r9.toInt64))))] ++ wAll G h0 a0 u9.1 a1 u9.2.1 ra rb u9.2.2.1 u9.2.2.2) H := hP
    have hD : va_D A ([(ho, .inl (G.2.2.1 2, 1, .inr (.inl (vp_updL fo (0 : Int32).toNatClampNeg r9.toInt64))))] ++ wAll G h0 a0 u9.1 a1 u9.2.1 ra rb u9.2.2.1 u9.2.2.2) := hD
    refine lv_goto (tgt := 23) hx hb dL_hear_12 (by decide) ?_
    refine lv_iconst (v := (0 : Int32)) hx hb dL_hear_23 (by decide) ?_
    refine W.widen (k := 1) (n := 6) (by decide) (by decide) ?_
    exact e_i (post := (fun (r : Int32) (v : (Nat → Int64) × Ob × Ob × (Nat → Ob) × (Nat → Ob)) => hc 1 ((.inr r9, u9) : (Nat ⊕ Int32) × Ob × Ob × (Nat → Ob) × (Nat → Ob)).1 = r ∧ (hoI fo ((.inr r9, u9) : (Nat ⊕ Int32) × Ob × Ob × (Nat → Ob) × (Nat → Ob)).1, ((.inr r9, u9) : (Nat ⊕ Int32) × Ob × Ob × (Nat → Ob) × (Nat → Ob)).2) = v)) (wf := (fun v : (Nat → Int64) × Ob × Ob × (Nat → Ob) × (Nat → Ob) => [(ho, .inl (G.2.2.1 2, 1, .inr (.inl v.1)))] ++ wAll G h0 a0 v.2.1 a1 v.2.2.1 ra rb v.2.2.2.1 v.2.2.2.2)) hx hb hr hlk ((vp_updL fo (0 : Int32).toNatClampNeg r9.toInt64), u9) ⟨rfl, rfl⟩ hP hK hD hS dL_hear_24
theorem kc_L_hear : Cond.static yL_hear ∈ lw_g ∧ Cond.initialized yL_hear.cls ∈ lw_g ∧ Cond.codeWith yL_hear cL_hear 7 (some .int) [(0, 12, 15, 19), (0, 12, 19, 13)] ∈ lw_g ∧ yL_hear.cls ≠ "java/lang/invoke/MethodHandle" ∧ yL_hear.cls ≠ "java/lang/invoke/VarHandle" ∧ (parseMethodDescriptor yL_hear.desc).map (fun d => d.parameters.length) = some 5 := ⟨kq4_5, kq1_0, kq4_6, by decide +kernel, by decide +kernel, by decide +kernel⟩
theorem dL_load_0 : decode cL_load 0 = .ok (.aload_n 2, 1) := by decide +kernel
theorem dL_load_1 : decode cL_load 1 = .ok (.iconst 0, 1) := by decide +kernel
theorem dL_load_2 : decode cL_load 2 = .ok (.aload_n 0, 1) := by decide +kernel
theorem dL_load_3 : decode cL_load 3 = .ok (.iload_n 1, 1) := by decide +kernel
theorem dL_load_4 : decode cL_load 4 = .ok (.invokevirtual 15, 3) := by decide +kernel
theorem dL_load_7 : decode cL_load 7 = .ok (.i2l, 1) := by decide +kernel
theorem dL_load_8 : decode cL_load 8 = .ok (.lastore, 1) := by decide +kernel
theorem dL_load_9 : decode cL_load 9 = .ok (.goto 6, 3) := by decide +kernel
theorem dL_load_12 : decode cL_load 12 = .ok (.astore_n 3, 1) := by decide +kernel
theorem dL_load_13 : decode cL_load 13 = .ok (.iconst 1, 1) := by decide +kernel
theorem dL_load_14 : decode cL_load 14 = .ok (.ireturn, 1) := by decide +kernel
theorem dL_load_15 : decode cL_load 15 = .ok (.iconst 0, 1) := by decide +kernel
theorem dL_load_16 : decode cL_load 16 = .ok (.ireturn, 1) := by decide +kernel
set_option maxRecDepth 100000 in
set_option maxHeartbeats 4000000 in
theorem c_L_load {l : Launch} (hlf : l.stackTraces = false) {G : Gp} {sz N : Nat} {x1 : Int32} {h0 : Nat} {a0 a1 : Nat → Nat} {ra rb : Nat → Nat → Nat} {u0 u1 : Ob} {u2 u3 : Nat → Ob} {ho : Nat} {fo : Nat → Int64} {q : (Nat ⊕ Int32) × Ob × Ob × (Nat → Ob) × (Nat → Ob)} (hf : f_X5_load N x1 u0 u1 u2 u3 = some q) (hk : ∀ k, q.1 = .inl k → k = 1) : Met l yL_load (Cond.codeWith yL_load cL_load 4 (some .int) [(0, 9, 12, 19)] :: lw_g) ({ frames := 8, cells := 1, slots := 6, locals := 201 } : Room) (va_Pc [.ref h0, .int x1, .ref ho] (pw G ([(ho, .inl (G.2.2.1 2, 1, .inr (.inl fo)))] ++ wAll G h0 a0 u0 a1 u1 ra rb u2 u3) sz)) (va_Qi (fun (r : Int32) (v : (Nat → Int64) × Ob × Ob × (Nat → Ob) × (Nat → Ob)) => hc 1 q.1 = r ∧ (hoI fo q.1, q.2) = v) (bw G (fun v : (Nat → Int64) × Ob × Ob × (Nat → Ob) × (Nat → Ob) => [(ho, .inl (G.2.2.1 2, 1, .inr (.inl v.1)))] ++ wAll G h0 a0 v.2.1 a1 v.2.2.1 ra rb v.2.2.2.1 v.2.2.2.2) (va_A ([(ho, .inl (G.2.2.1 2, 1, .inr (.inl fo)))] ++ wAll G h0 a0 u0 a1 u1 ra rb u2 u3) sz)) (va_A ([(ho, .inl (G.2.2.1 2, 1, .inr (.inl fo)))] ++ wAll G h0 a0 u0 a1 u1 ra rb u2 u3) sz)) 1 6 (va_A ([(ho, .inl (G.2.2.1 2, 1, .inr (.inl fo)))] ++ wAll G h0 a0 u0 a1 u1 ra rb u2 u3) sz) := by
  refine mtw (y := yL_load) (maxL := 4) (av := [.ref h0, .int x1, .ref ho]) (Qc := fun A => va_Qi (fun (r : Int32) (v : (Nat → Int64) × Ob × Ob × (Nat → Ob) × (Nat → Ob)) => hc 1 q.1 = r ∧ (hoI fo q.1, q.2) = v) (bw G (fun v : (Nat → Int64) × Ob × Ob × (Nat → Ob) × (Nat → Ob) => [(ho, .inl (G.2.2.1 2, 1, .inr (.inl v.1)))] ++ wAll G h0 a0 v.2.1 a1 v.2.2.1 ra rb v.2.2.2.1 v.2.2.2.2) A) A) (by decide) (Nat.le_of_ble_eq_true rfl) ?_
  intro p e s m below meth c A ls hx hb hr hlk hml htb hts hown hA hP hK hD hE hS hl
  have hown : s.vm.findClass RL = some m.cls := hown
  have hg : ∀ w ∈ lw_g, w.before ([.ref h0, .int x1, .ref ho] : List Value).toArray s = true := fun w h => hts w (List.mem_cons_of_mem _ h)
  have hC : CallFix p m c cL_load 4 s ([.ref h0, .int x1, .ref ho] : List Value).toArray lw_g RL := ⟨hx, hb, hml, hown, hg⟩
  have hl : lv_has ls 4 [(0, .ref h0), (1, .int x1), (2, .ref ho)] := hl
  refine lv_aload_n hx hb dL_load_0 rfl (lv_at hl 2 rfl) ?_
  refine lv_iconst (v := (0 : Int32)) hx hb dL_load_1 (by decide) ?_
  refine lv_aload_n hx hb dL_load_2 rfl (lv_at hl 0 rfl) ?_
  refine lv_iload_n hx hb dL_load_3 rfl (lv_at hl 1 rfl) ?_
  refine kXi (As := [.int x1]) (rest := [.int (0 : Int32), .ref ho]) hC (c_X5_load hlf (G := G) hf) kq2_187 kc_X5_load (by decide) 0 (ci := 3) rfl rfl hP hK hD hE hS hA (out := (fun v : Ob × Ob × (Nat → Ob) × (Nat → Ob) => [(ho, .inl (G.2.2.1 2, 1, .inr (.inl fo)))] ++ wAll G h0 a0 v.1 a1 v.2.1 ra rb v.2.2.1 v.2.2.2)) (wr := [(ho, .inl (G.2.2.1 2, 1, .inr (.inl fo)))]) List.perm_append_comm (fun _ => List.perm_append_comm) hl.1 (Nat.le_of_ble_eq_true rfl) ⟨Nat.le_of_ble_eq_true rfl, Nat.le_of_ble_eq_true rfl⟩ dL_load_4 (fun k E u9 q9 ce H locs hkE hw hP hD hS h1 h2 h3 => ?_) (fun r9 u9 H locs hw hP hD hS => ?_)
  · obtain ⟨v0, v1, v2, v3⟩ := u9
    have hw : q = (.inl k, (v0, v1, v2, v3)) := hw
    subst hw
    have hk := hk k rfl
    subst hk
    cases hkE
    refine vx_catch (name := "java/lang/IllegalArgumentException") (E := "java/lang/IllegalArgumentException") hown [] ⟨0, 9, 12, 19⟩ [] htb (fun z h => absurd h List.not_mem_nil) (by decide) (by decide) (hg _ kq2_186) ((hE.2.2.2.2.2.1 "java/lang/IllegalArgumentException" (by decide +kernel)).use rfl) h1 h2 h3 ?_
    refine lv_astore_n (lv' := [(3, .ref q9), (0, .ref h0), (1, .int x1), (2, .ref ho)]) hx hb dL_load_12 rfl hl (by decide) rfl (fun ls hl => ?_)
    refine lv_iconst (v := (1 : Int32)) hx hb dL_load_13 (by decide) ?_
    refine W.widen (k := 1) (n := 6) (by decide) (by decide) ?_
    exact e_i (post := (fun (r : Int32) (v : (Nat → Int64) × Ob × Ob × (Nat → Ob) × (Nat → Ob)) => hc 1 ((.inl 1, (v0, v1, v2, v3)) : (Nat ⊕ Int32) × Ob × Ob × (Nat → Ob) × (Nat → Ob)).1 = r ∧ (hoI fo ((.inl 1, (v0, v1, v2, v3)) : (Nat ⊕ Int32) × Ob × Ob × (Nat → Ob) × (Nat → Ob)).1, ((.inl 1, (v0, v1, v2, v3)) : (Nat ⊕ Int32) × Ob × Ob × (Nat → Ob) × (Nat → Ob)).2) = v)) (wf := (fun v : (Nat → Int64) × Ob × Ob × (Nat → Ob) × (Nat → Ob) => [(ho, .inl (G.2.2.1 2, 1, .inr (.inl v.1)))] ++ wAll G h0 a0 v.2.1 a1 v.2.2.1 ra rb v.2.2.2.1 v.2.2.2.2)) hx hb hr hlk (fo, v0, v1, v2, v3) ⟨rfl, rfl⟩ hP hK hD hS dL_load_14
  · have hw : q = (.inr r9, u9) := hw
    subst hw
    refine lv_i2l (v := r9.toInt64) hx hb dL_load_7 rfl ?_
    refine va_last (f := fo) hx hb hK hP hD hS 0 2 rfl rfl (vin (by decide)) dL_load_8 (fun H locs hP hD hS => ?_)
    have hP : va_P (gD G) vwCl ([(ho, .inl (G.2.2.1 2, 1, .inr (.inl (vp_updL fo (0 : Int32).toNatClampNeg r9.toInt64))))] ++ wAll G h0 a0 u9.1 a1 u9.2.1 ra rb u9.2.2.1 u9.2.2.2) H := hP
    have hD : va_D A ([(ho, .inl (G.2.2.1 2, 1, .inr (.inl (vp_updL fo (0 : Int32).toNatClampNeg r9.toInt64))))] ++ wAll G h0 a0 u9.1 a1 u9.2.1 ra rb u9.2.2.1 u9.2.2.2) := hD
    refine lv_goto (tgt := 15) hx hb dL_load_9 (by decide) ?_
    refine lv_iconst (v := (0 : Int32)) hx hb dL_load_15 (by decide) ?_
    refine W.widen (k := 1) (n := 6) (by decide) (by decide) ?_
    exact e_i (post := (fun (r : Int32) (v : (Nat → Int64) × Ob × Ob × (Nat → Ob) × (Nat → Ob)) => hc 1 ((.inr r9, u9) : (Nat ⊕ Int32) × Ob × Ob × (Nat → Ob) × (Nat → Ob)).1 = r ∧ (hoI fo ((.inr r9, u9) : (Nat ⊕ Int32) × Ob × Ob × (Nat → Ob) × (Nat → Ob)).1, ((.inr r9, u9) : (Nat ⊕ Int32) × Ob × Ob × (Nat → Ob) × (Nat → Ob)).2) = v)) (wf := (fun v : (Nat → Int64) × Ob × Ob × (Nat → Ob) × (Nat → Ob) => [(ho, .inl (G.2.2.1 2, 1, .inr (.inl v.1)))] ++ wAll G h0 a0 v.2.1 a1 v.2.2.1 ra rb v.2.2.2.1 v.2.2.2.2)) hx hb hr hlk ((vp_updL fo (0 : Int32).toNatClampNeg r9.toInt64), u9) ⟨rfl, rfl⟩ hP hK hD hS dL_load_16
theorem kc_L_load : Cond.static yL_load ∈ lw_g ∧ Cond.initialized yL_load.cls ∈ lw_g ∧ Cond.codeWith yL_load cL_load 4 (some .int) [(0, 9, 12, 19)] ∈ lw_g ∧ yL_load.cls ≠ "java/lang/invoke/MethodHandle" ∧ yL_load.cls ≠ "java/lang/invoke/VarHandle" ∧ (parseMethodDescriptor yL_load.desc).map (fun d => d.parameters.length) = some 3 := ⟨kq2_184, kq1_0, kq2_185, by decide +kernel, by decide +kernel, by decide +kernel⟩
theorem dL_number_0 : decode cL_number 0 = .ok (.aload 6, 2) := by decide +kernel
theorem dL_number_2 : decode cL_number 2 = .ok (.iconst 0, 1) := by decide +kernel
theorem dL_number_3 : decode cL_number 3 = .ok (.aload_n 0, 1) := by decide +kernel
theorem dL_number_4 : decode cL_number 4 = .ok (.iload_n 1, 1) := by decide +kernel
theorem dL_number_5 : decode cL_number 5 = .ok (.iload_n 2, 1) := by decide +kernel
theorem dL_number_6 : decode cL_number 6 = .ok (.iload_n 3, 1) := by decide +kernel
theorem dL_number_7 : decode cL_number 7 = .ok (.iload 4, 2) := by decide +kernel
theorem dL_number_9 : decode cL_number 9 = .ok (.iload 5, 2) := by decide +kernel
theorem dL_number_11 : decode cL_number 11 = .ok (.invokevirtual 28, 3) := by decide +kernel
theorem dL_number_14 : decode cL_number 14 = .ok (.i2l, 1) := by decide +kernel
theorem dL_number_15 : decode cL_number 15 = .ok (.lastore, 1) := by decide +kernel
theorem dL_number_16 : decode cL_number 16 = .ok (.goto 7, 3) := by decide +kernel
theorem dL_number_19 : decode cL_number 19 = .ok (.astore 7, 2) := by decide +kernel
theorem dL_number_21 : decode cL_number 21 = .ok (.iconst 1, 1) := by decide +kernel
theorem dL_number_22 : decode cL_number 22 = .ok (.ireturn, 1) := by decide +kernel
theorem dL_number_23 : decode cL_number 23 = .ok (.iconst 0, 1) := by decide +kernel
theorem dL_number_24 : decode cL_number 24 = .ok (.ireturn, 1) := by decide +kernel
set_option maxRecDepth 100000 in
set_option maxHeartbeats 4000000 in
theorem c_L_number {l : Launch} (hlf : l.stackTraces = false) {G : Gp} {sz N : Nat} {x1 : Int32} {x2 : Int32} {x3 : Int32} {x4 : Int32} {x5 : Int32} {h0 : Nat} {a0 a1 : Nat → Nat} {ra rb : Nat → Nat → Nat} {u0 u1 : Ob} {u2 u3 : Nat → Ob} {ho : Nat} {fo : Nat → Int64} {q : (Nat ⊕ Int32) × Ob × Ob × (Nat → Ob) × (Nat → Ob)} (hf : f_X5_number N x1 x2 x3 x4 x5 u0 u1 u2 u3 = some q) (hk : ∀ k, q.1 = .inl k → k = 1) : Met l yL_number (Cond.codeWith yL_number cL_number 8 (some .int) [(0, 16, 19, 19)] :: lw_g) ({ frames := 7, cells := 1, slots := 6, locals := 116 } : Room) (va_Pc [.ref h0, .int x1, .int x2, .int x3, .int x4, .int x5, .ref ho] (pw G ([(ho, .inl (G.2.2.1 2, 1, .inr (.inl fo)))] ++ wAll G h0 a0 u0 a1 u1 ra rb u2 u3) sz)) (va_Qi (fun (r : Int32) (v : (Nat → Int64) × Ob × Ob × (Nat → Ob) × (Nat → Ob)) => hc 1 q.1 = r ∧ (hoI fo q.1, q.2) = v) (bw G (fun v : (Nat → Int64) × Ob × Ob × (Nat → Ob) × (Nat → Ob) => [(ho, .inl (G.2.2.1 2, 1, .inr (.inl v.1)))] ++ wAll G h0 a0 v.2.1 a1 v.2.2.1 ra rb v.2.2.2.1 v.2.2.2.2) (va_A ([(ho, .inl (G.2.2.1 2, 1, .inr (.inl fo)))] ++ wAll G h0 a0 u0 a1 u1 ra rb u2 u3) sz)) (va_A ([(ho, .inl (G.2.2.1 2, 1, .inr (.inl fo)))] ++ wAll G h0 a0 u0 a1 u1 ra rb u2 u3) sz)) 1 6 (va_A ([(ho, .inl (G.2.2.1 2, 1, .inr (.inl fo)))] ++ wAll G h0 a0 u0 a1 u1 ra rb u2 u3) sz) := by
  refine mtw (y := yL_number) (maxL := 8) (av := [.ref h0, .int x1, .int x2, .int x3, .int x4, .int x5, .ref ho]) (Qc := fun A => va_Qi (fun (r : Int32) (v : (Nat → Int64) × Ob × Ob × (Nat → Ob) × (Nat → Ob)) => hc 1 q.1 = r ∧ (hoI fo q.1, q.2) = v) (bw G (fun v : (Nat → Int64) × Ob × Ob × (Nat → Ob) × (Nat → Ob) => [(ho, .inl (G.2.2.1 2, 1, .inr (.inl v.1)))] ++ wAll G h0 a0 v.2.1 a1 v.2.2.1 ra rb v.2.2.2.1 v.2.2.2.2) A) A) (by decide) (Nat.le_of_ble_eq_true rfl) ?_
  intro p e s m below meth c A ls hx hb hr hlk hml htb hts hown hA hP hK hD hE hS hl
  have hown : s.vm.findClass RL = some m.cls := hown
  have hg : ∀ w ∈ lw_g, w.before ([.ref h0, .int x1, .int x2, .int x3, .int x4, .int x5, .ref ho] : List Value).toArray s = true := fun w h => hts w (List.mem_cons_of_mem _ h)
  have hC : CallFix p m c cL_number 8 s ([.ref h0, .int x1, .int x2, .int x3, .int x4, .int x5, .ref ho] : List Value).toArray lw_g RL := ⟨hx, hb, hml, hown, hg⟩
  have hl : lv_has ls 8 [(0, .ref h0), (1, .int x1), (2, .int x2), (3, .int x3), (4, .int x4), (5, .int x5), (6, .ref ho)] := hl
  refine lv_aload hx hb dL_number_0 (lv_at hl 6 rfl) ?_
  refine lv_iconst (v := (0 : Int32)) hx hb dL_number_2 (by decide) ?_
  refine lv_aload_n hx hb dL_number_3 rfl (lv_at hl 0 rfl) ?_
  refine lv_iload_n hx hb dL_number_4 rfl (lv_at hl 1 rfl) ?_
  refine lv_iload_n hx hb dL_number_5 rfl (lv_at hl 2 rfl) ?_
  refine lv_iload_n hx hb dL_number_6 rfl (lv_at hl 3 rfl) ?_
  refine lv_iload hx hb dL_number_7 (lv_at hl 4 rfl) ?_
  refine lv_iload hx hb dL_number_9 (lv_at hl 5 rfl) ?_
  refine kXi (As := [.int x1, .int x2, .int x3, .int x4, .int x5]) (rest := [.int (0 : Int32), .ref ho]) hC (c_X5_number hlf (G := G) hf) kq3_217 kc_X5_number (by decide) 0 (ci := 3) rfl rfl hP hK hD hE hS hA (out := (fun v : Ob × Ob × (Nat → Ob) × (Nat → Ob) => [(ho, .inl (G.2.2.1 2, 1, .inr (.inl fo)))] ++ wAll G h0 a0 v.1 a1 v.2.1 ra rb v.2.2.1 v.2.2.2)) (wr := [(ho, .inl (G.2.2.1 2, 1, .inr (.inl fo)))]) List.perm_append_comm (fun _ => List.perm_append_comm) hl.1 (Nat.le_of_ble_eq_true rfl) ⟨Nat.le_of_ble_eq_true rfl, Nat.le_of_ble_eq_true rfl⟩ dL_number_11 (fun k E u9 q9 ce H locs hkE hw hP hD hS h1 h2 h3 => ?_) (fun r9 u9 H locs hw hP hD hS => ?_)
  · obtain ⟨v0, v1, v2, v3⟩ := u9
    have hw : q = (.inl k, (v0, v1, v2, v3)) := hw
    subst hw
    have hk := hk k rfl
    subst hk
    cases hkE
    refine vx_catch (name := "java/lang/IllegalArgumentException") (E := "java/lang/IllegalArgumentException") hown [] ⟨0, 16, 19, 19⟩ [] htb (fun z h => absurd h List.not_mem_nil) (by decide) (by decide) (hg _ kq2_186) ((hE.2.2.2.2.2.1 "java/lang/IllegalArgumentException" (by decide +kernel)).use rfl) h1 h2 h3 ?_
    refine lv_astore (lv' := [(7, .ref q9), (0, .ref h0), (1, .int x1), (2, .int x2), (3, .int x3), (4, .int x4), (5, .int x5), (6, .ref ho)]) hx hb dL_number_19 hl (by decide) rfl (fun ls hl => ?_)
    refine lv_iconst (v := (1 : Int32)) hx hb dL_number_21 (by decide) ?_
    refine W.widen (k := 1) (n := 6) (by decide) (by decide) ?_
    exact e_i (post := (fun (r : Int32) (v : (Nat → Int64) × Ob × Ob × (Nat → Ob) × (Nat → Ob)) => hc 1 ((.inl 1, (v0, v1, v2, v3)) : (Nat ⊕ Int32) × Ob × Ob × (Nat → Ob) × (Nat → Ob)).1 = r ∧ (hoI fo ((.inl 1, (v0, v1, v2, v3)) : (Nat ⊕ Int32) × Ob × Ob × (Nat → Ob) × (Nat → Ob)).1, ((.inl 1, (v0, v1, v2, v3)) : (Nat ⊕ Int32) × Ob × Ob × (Nat → Ob) × (Nat → Ob)).2) = v)) (wf := (fun v : (Nat → Int64) × Ob × Ob × (Nat → Ob) × (Nat → Ob) => [(ho, .inl (G.2.2.1 2, 1, .inr (.inl v.1)))] ++ wAll G h0 a0 v.2.1 a1 v.2.2.1 ra rb v.2.2.2.1 v.2.2.2.2)) hx hb hr hlk (fo, v0, v1, v2, v3) ⟨rfl, rfl⟩ hP hK hD hS dL_number_22
  · have hw : q = (.inr r9, u9) := hw
    subst hw
    refine lv_i2l (v := r9.toInt64) hx hb dL_number_14 rfl ?_
    refine va_last (f := fo) hx hb hK hP hD hS 0 2 rfl rfl (vin (by decide)) dL_number_15 (fun H locs hP hD hS => ?_)
    have hP : va_P (gD G) vwCl ([(ho, .inl (G.2.2.1 2, 1, .inr (.inl (vp_updL fo (0 : Int32).toNatClampNeg r9.toInt64))))] ++ wAll G h0 a0 u9.1 a1 u9.2.1 ra rb u9.2.2.1 u9.2.2.2) H := hP
    have hD : va_D A ([(ho, .inl (G.2.2.1 2, 1, .inr (.inl (vp_updL fo (0 : Int32).toNatClampNeg r9.toInt64))))] ++ wAll G h0 a0 u9.1 a1 u9.2.1 ra rb u9.2.2.1 u9.2.2.2) := hD
    refine lv_goto (tgt := 23) hx hb dL_number_16 (by decide) ?_
    refine lv_iconst (v := (0 : Int32)) hx hb dL_number_23 (by decide) ?_
    refine W.widen (k := 1) (n := 6) (by decide) (by decide) ?_
    exact e_i (post := (fun (r : Int32) (v : (Nat → Int64) × Ob × Ob × (Nat → Ob) × (Nat → Ob)) => hc 1 ((.inr r9, u9) : (Nat ⊕ Int32) × Ob × Ob × (Nat → Ob) × (Nat → Ob)).1 = r ∧ (hoI fo ((.inr r9, u9) : (Nat ⊕ Int32) × Ob × Ob × (Nat → Ob) × (Nat → Ob)).1, ((.inr r9, u9) : (Nat ⊕ Int32) × Ob × Ob × (Nat → Ob) × (Nat → Ob)).2) = v)) (wf := (fun v : (Nat → Int64) × Ob × Ob × (Nat → Ob) × (Nat → Ob) => [(ho, .inl (G.2.2.1 2, 1, .inr (.inl v.1)))] ++ wAll G h0 a0 v.2.1 a1 v.2.2.1 ra rb v.2.2.2.1 v.2.2.2.2)) hx hb hr hlk ((vp_updL fo (0 : Int32).toNatClampNeg r9.toInt64), u9) ⟨rfl, rfl⟩ hP hK hD hS dL_number_24
theorem kc_L_number : Cond.static yL_number ∈ lw_g ∧ Cond.initialized yL_number.cls ∈ lw_g ∧ Cond.codeWith yL_number cL_number 8 (some .int) [(0, 16, 19, 19)] ∈ lw_g ∧ yL_number.cls ≠ "java/lang/invoke/MethodHandle" ∧ yL_number.cls ≠ "java/lang/invoke/VarHandle" ∧ (parseMethodDescriptor yL_number.desc).map (fun d => d.parameters.length) = some 7 := ⟨kq3_215, kq1_0, kq3_216, by decide +kernel, by decide +kernel, by decide +kernel⟩
theorem dL_part_0 : decode cL_part 0 = .ok (.aload_n 3, 1) := by decide +kernel
theorem dL_part_1 : decode cL_part 1 = .ok (.iconst 0, 1) := by decide +kernel
theorem dL_part_2 : decode cL_part 2 = .ok (.aload_n 0, 1) := by decide +kernel
theorem dL_part_3 : decode cL_part 3 = .ok (.iload_n 1, 1) := by decide +kernel
theorem dL_part_4 : decode cL_part 4 = .ok (.iload_n 2, 1) := by decide +kernel
theorem dL_part_5 : decode cL_part 5 = .ok (.invokevirtual 24, 3) := by decide +kernel
theorem dL_part_8 : decode cL_part 8 = .ok (.i2l, 1) := by decide +kernel
theorem dL_part_9 : decode cL_part 9 = .ok (.lastore, 1) := by decide +kernel
theorem dL_part_10 : decode cL_part 10 = .ok (.goto 7, 3) := by decide +kernel
theorem dL_part_13 : decode cL_part 13 = .ok (.astore 4, 2) := by decide +kernel
theorem dL_part_15 : decode cL_part 15 = .ok (.iconst 1, 1) := by decide +kernel
theorem dL_part_16 : decode cL_part 16 = .ok (.ireturn, 1) := by decide +kernel
theorem dL_part_17 : decode cL_part 17 = .ok (.iconst 0, 1) := by decide +kernel
theorem dL_part_18 : decode cL_part 18 = .ok (.ireturn, 1) := by decide +kernel
set_option maxRecDepth 100000 in
set_option maxHeartbeats 4000000 in
theorem c_L_part {l : Launch} (hlf : l.stackTraces = false) {G : Gp} {sz N : Nat} {x1 : Int32} {x2 : Int32} {h0 : Nat} {a0 a1 : Nat → Nat} {ra rb : Nat → Nat → Nat} {u0 u1 : Ob} {u2 u3 : Nat → Ob} {ho : Nat} {fo : Nat → Int64} {q : (Nat ⊕ Int32) × Ob × Ob × (Nat → Ob) × (Nat → Ob)} (hf : f_X5_part N x1 x2 u0 u1 u2 u3 = some q) (hk : ∀ k, q.1 = .inl k → k = 1) : Met l yL_part (Cond.codeWith yL_part cL_part 5 (some .int) [(0, 10, 13, 19)] :: lw_g) ({ frames := 7, cells := 1, slots := 6, locals := 113 } : Room) (va_Pc [.ref h0, .int x1, .int x2, .ref ho] (pw G ([(ho, .inl (G.2.2.1 2, 1, .inr (.inl fo)))] ++ wAll G h0 a0 u0 a1 u1 ra rb u2 u3) sz)) (va_Qi (fun (r : Int32) (v : (Nat → Int64) × Ob × Ob × (Nat → Ob) × (Nat → Ob)) => hc 1 q.1 = r ∧ (hoI fo q.1, q.2) = v) (bw G (fun v : (Nat → Int64) × Ob × Ob × (Nat → Ob) × (Nat → Ob) => [(ho, .inl (G.2.2.1 2, 1, .inr (.inl v.1)))] ++ wAll G h0 a0 v.2.1 a1 v.2.2.1 ra rb v.2.2.2.1 v.2.2.2.2) (va_A ([(ho, .inl (G.2.2.1 2, 1, .inr (.inl fo)))] ++ wAll G h0 a0 u0 a1 u1 ra rb u2 u3) sz)) (va_A ([(ho, .inl (G.2.2.1 2, 1, .inr (.inl fo)))] ++ wAll G h0 a0 u0 a1 u1 ra rb u2 u3) sz)) 1 6 (va_A ([(ho, .inl (G.2.2.1 2, 1, .inr (.inl fo)))] ++ wAll G h0 a0 u0 a1 u1 ra rb u2 u3) sz) := by
  refine mtw (y := yL_part) (maxL := 5) (av := [.ref h0, .int x1, .int x2, .ref ho]) (Qc := fun A => va_Qi (fun (r : Int32) (v : (Nat → Int64) × Ob × Ob × (Nat → Ob) × (Nat → Ob)) => hc 1 q.1 = r ∧ (hoI fo q.1, q.2) = v) (bw G (fun v : (Nat → Int64) × Ob × Ob × (Nat → Ob) × (Nat → Ob) => [(ho, .inl (G.2.2.1 2, 1, .inr (.inl v.1)))] ++ wAll G h0 a0 v.2.1 a1 v.2.2.1 ra rb v.2.2.2.1 v.2.2.2.2) A) A) (by decide) (Nat.le_of_ble_eq_true rfl) ?_
  intro p e s m below meth c A ls hx hb hr hlk hml htb hts hown hA hP hK hD hE hS hl
  have hown : s.vm.findClass RL = some m.cls := hown
  have hg : ∀ w ∈ lw_g, w.before ([.ref h0, .int x1, .int x2, .ref ho] : List Value).toArray s = true := fun w h => hts w (List.mem_cons_of_mem _ h)
  have hC : CallFix p m c cL_part 5 s ([.ref h0, .int x1, .int x2, .ref ho] : List Value).toArray lw_g RL := ⟨hx, hb, hml, hown, hg⟩
  have hl : lv_has ls 5 [(0, .ref h0), (1, .int x1), (2, .int x2), (3, .ref ho)] := hl
  refine lv_aload_n hx hb dL_part_0 rfl (lv_at hl 3 rfl) ?_
  refine lv_iconst (v := (0 : Int32)) hx hb dL_part_1 (by decide) ?_
  refine lv_aload_n hx hb dL_part_2 rfl (lv_at hl 0 rfl) ?_
  refine lv_iload_n hx hb dL_part_3 rfl (lv_at hl 1 rfl) ?_
  refine lv_iload_n hx hb dL_part_4 rfl (lv_at hl 2 rfl) ?_
  refine kXi (As := [.int x1, .int x2]) (rest := [.int (0 : Int32), .ref ho]) hC (c_X5_part hlf (G := G) hf) kq3_200 kc_X5_part (by decide) 0 (ci := 3) rfl rfl hP hK hD hE hS hA (out := (fun v : Ob × Ob × (Nat → Ob) × (Nat → Ob) => [(ho, .inl (G.2.2.1 2, 1, .inr (.inl fo)))] ++ wAll G h0 a0 v.1 a1 v.2.1 ra rb v.2.2.1 v.2.2.2)) (wr := [(ho, .inl (G.2.2.1 2, 1, .inr (.inl fo)))]) List.perm_append_comm (fun _ => List.perm_append_comm) hl.1 (Nat.le_of_ble_eq_true rfl) ⟨Nat.le_of_ble_eq_true rfl, Nat.le_of_ble_eq_true rfl⟩ dL_part_5 (fun k E u9 q9 ce H locs hkE hw hP hD hS h1 h2 h3 => ?_) (fun r9 u9 H locs hw hP hD hS => ?_)
  · obtain ⟨v0, v1, v2, v3⟩ := u9
    have hw : q = (.inl k, (v0, v1, v2, v3)) := hw
    subst hw
    have hk := hk k rfl
    subst hk
    cases hkE
    refine vx_catch (name := "java/lang/IllegalArgumentException") (E := "java/lang/IllegalArgumentException") hown [] ⟨0, 10, 13, 19⟩ [] htb (fun z h => absurd h List.not_mem_nil) (by decide) (by decide) (hg _ kq2_186) ((hE.2.2.2.2.2.1 "java/lang/IllegalArgumentException" (by decide +kernel)).use rfl) h1 h2 h3 ?_
    refine lv_astore (lv' := [(4, .ref q9), (0, .ref h0), (1, .int x1), (2, .int x2), (3, .ref ho)]) hx hb dL_part_13 hl (by decide) rfl (fun ls hl => ?_)
    refine lv_iconst (v := (1 : Int32)) hx hb dL_part_15 (by decide) ?_
    refine W.widen (k := 1) (n := 6) (by decide) (by decide) ?_
    exact e_i (post := (fun (r : Int32) (v : (Nat → Int64) × Ob × Ob × (Nat → Ob) × (Nat → Ob)) => hc 1 ((.inl 1, (v0, v1, v2, v3)) : (Nat ⊕ Int32) × Ob × Ob × (Nat → Ob) × (Nat → Ob)).1 = r ∧ (hoI fo ((.inl 1, (v0, v1, v2, v3)) : (Nat ⊕ Int32) × Ob × Ob × (Nat → Ob) × (Nat → Ob)).1, ((.inl 1, (v0, v1, v2, v3)) : (Nat ⊕ Int32) × Ob × Ob × (Nat → Ob) × (Nat → Ob)).2) = v)) (wf := (fun v : (Nat → Int64) × Ob × Ob × (Nat → Ob) × (Nat → Ob) => [(ho, .inl (G.2.2.1 2, 1, .inr (.inl v.1)))] ++ wAll G h0 a0 v.2.1 a1 v.2.2.1 ra rb v.2.2.2.1 v.2.2.2.2)) hx hb hr hlk (fo, v0, v1, v2, v3) ⟨rfl, rfl⟩ hP hK hD hS dL_part_16
  · have hw : q = (.inr r9, u9) := hw
    subst hw
    refine lv_i2l (v := r9.toInt64) hx hb dL_part_8 rfl ?_
    refine va_last (f := fo) hx hb hK hP hD hS 0 2 rfl rfl (vin (by decide)) dL_part_9 (fun H locs hP hD hS => ?_)
    have hP : va_P (gD G) vwCl ([(ho, .inl (G.2.2.1 2, 1, .inr (.inl (vp_updL fo (0 : Int32).toNatClampNeg r9.toInt64))))] ++ wAll G h0 a0 u9.1 a1 u9.2.1 ra rb u9.2.2.1 u9.2.2.2) H := hP
    have hD : va_D A ([(ho, .inl (G.2.2.1 2, 1, .inr (.inl (vp_updL fo (0 : Int32).toNatClampNeg r9.toInt64))))] ++ wAll G h0 a0 u9.1 a1 u9.2.1 ra rb u9.2.2.1 u9.2.2.2) := hD
    refine lv_goto (tgt := 17) hx hb dL_part_10 (by decide) ?_
    refine lv_iconst (v := (0 : Int32)) hx hb dL_part_17 (by decide) ?_
    refine W.widen (k := 1) (n := 6) (by decide) (by decide) ?_
    exact e_i (post := (fun (r : Int32) (v : (Nat → Int64) × Ob × Ob × (Nat → Ob) × (Nat → Ob)) => hc 1 ((.inr r9, u9) : (Nat ⊕ Int32) × Ob × Ob × (Nat → Ob) × (Nat → Ob)).1 = r ∧ (hoI fo ((.inr r9, u9) : (Nat ⊕ Int32) × Ob × Ob × (Nat → Ob) × (Nat → Ob)).1, ((.inr r9, u9) : (Nat ⊕ Int32) × Ob × Ob × (Nat → Ob) × (Nat → Ob)).2) = v)) (wf := (fun v : (Nat → Int64) × Ob × Ob × (Nat → Ob) × (Nat → Ob) => [(ho, .inl (G.2.2.1 2, 1, .inr (.inl v.1)))] ++ wAll G h0 a0 v.2.1 a1 v.2.2.1 ra rb v.2.2.2.1 v.2.2.2.2)) hx hb hr hlk ((vp_updL fo (0 : Int32).toNatClampNeg r9.toInt64), u9) ⟨rfl, rfl⟩ hP hK hD hS dL_part_18
theorem kc_L_part : Cond.static yL_part ∈ lw_g ∧ Cond.initialized yL_part.cls ∈ lw_g ∧ Cond.codeWith yL_part cL_part 5 (some .int) [(0, 10, 13, 19)] ∈ lw_g ∧ yL_part.cls ≠ "java/lang/invoke/MethodHandle" ∧ yL_part.cls ≠ "java/lang/invoke/VarHandle" ∧ (parseMethodDescriptor yL_part.desc).map (fun d => d.parameters.length) = some 4 := ⟨kq3_198, kq1_0, kq3_199, by decide +kernel, by decide +kernel, by decide +kernel⟩
theorem dL_pulse_0 : decode cL_pulse 0 = .ok (.aload_n 3, 1) := by decide +kernel
theorem dL_pulse_1 : decode cL_pulse 1 = .ok (.iconst 0, 1) := by decide +kernel
theorem dL_pulse_2 : decode cL_pulse 2 = .ok (.aload_n 0, 1) := by decide +kernel
theorem dL_pulse_3 : decode cL_pulse 3 = .ok (.iload_n 1, 1) := by decide +kernel
theorem dL_pulse_4 : decode cL_pulse 4 = .ok (.iload_n 2, 1) := by decide +kernel
theorem dL_pulse_5 : decode cL_pulse 5 = .ok (.invokevirtual 35, 3) := by decide +kernel
theorem dL_pulse_8 : decode cL_pulse 8 = .ok (.i2l, 1) := by decide +kernel
theorem dL_pulse_9 : decode cL_pulse 9 = .ok (.lastore, 1) := by decide +kernel
theorem dL_pulse_10 : decode cL_pulse 10 = .ok (.goto 7, 3) := by decide +kernel
theorem dL_pulse_13 : decode cL_pulse 13 = .ok (.astore 4, 2) := by decide +kernel
theorem dL_pulse_15 : decode cL_pulse 15 = .ok (.iconst 1, 1) := by decide +kernel
theorem dL_pulse_16 : decode cL_pulse 16 = .ok (.ireturn, 1) := by decide +kernel
theorem dL_pulse_17 : decode cL_pulse 17 = .ok (.iconst 0, 1) := by decide +kernel
theorem dL_pulse_18 : decode cL_pulse 18 = .ok (.ireturn, 1) := by decide +kernel
set_option maxRecDepth 100000 in
set_option maxHeartbeats 4000000 in
theorem c_L_pulse {l : Launch} (hlf : l.stackTraces = false) {G : Gp} {sz N : Nat} {x1 : Int32} {x2 : Int32} {h0 : Nat} {a0 a1 : Nat → Nat} {ra rb : Nat → Nat → Nat} {u0 u1 : Ob} {u2 u3 : Nat → Ob} {ho : Nat} {fo : Nat → Int64} {q : (Nat ⊕ Int32) × Ob × Ob × (Nat → Ob) × (Nat → Ob)} (hf : f_X5_pulse N x1 x2 u0 u1 u2 u3 = some q) (hk : ∀ k, q.1 = .inl k → k = 1) : Met l yL_pulse (Cond.codeWith yL_pulse cL_pulse 5 (some .int) [(0, 10, 13, 19)] :: lw_g) ({ frames := 7, cells := 1, slots := 6, locals := 169 } : Room) (va_Pc [.ref h0, .int x1, .int x2, .ref ho] (pw G ([(ho, .inl (G.2.2.1 2, 1, .inr (.inl fo)))] ++ wAll G h0 a0 u0 a1 u1 ra rb u2 u3) sz)) (va_Qi (fun (r : Int32) (v : (Nat → Int64) × Ob × Ob × (Nat → Ob) × (Nat → Ob)) => hc 1 q.1 = r ∧ (hoI fo q.1, q.2) = v) (bw G (fun v : (Nat → Int64) × Ob × Ob × (Nat → Ob) × (Nat → Ob) => [(ho, .inl (G.2.2.1 2, 1, .inr (.inl v.1)))] ++ wAll G h0 a0 v.2.1 a1 v.2.2.1 ra rb v.2.2.2.1 v.2.2.2.2) (va_A ([(ho, .inl (G.2.2.1 2, 1, .inr (.inl fo)))] ++ wAll G h0 a0 u0 a1 u1 ra rb u2 u3) sz)) (va_A ([(ho, .inl (G.2.2.1 2, 1, .inr (.inl fo)))] ++ wAll G h0 a0 u0 a1 u1 ra rb u2 u3) sz)) 1 6 (va_A ([(ho, .inl (G.2.2.1 2, 1, .inr (.inl fo)))] ++ wAll G h0 a0 u0 a1 u1 ra rb u2 u3) sz) := by
  refine mtw (y := yL_pulse) (maxL := 5) (av := [.ref h0, .int x1, .int x2, .ref ho]) (Qc := fun A => va_Qi (fun (r : Int32) (v : (Nat → Int64) × Ob × Ob × (Nat → Ob) × (Nat → Ob)) => hc 1 q.1 = r ∧ (hoI fo q.1, q.2) = v) (bw G (fun v : (Nat → Int64) × Ob × Ob × (Nat → Ob) × (Nat → Ob) => [(ho, .inl (G.2.2.1 2, 1, .inr (.inl v.1)))] ++ wAll G h0 a0 v.2.1 a1 v.2.2.1 ra rb v.2.2.2.1 v.2.2.2.2) A) A) (by decide) (Nat.le_of_ble_eq_true rfl) ?_
  intro p e s m below meth c A ls hx hb hr hlk hml htb hts hown hA hP hK hD hE hS hl
  have hown : s.vm.findClass RL = some m.cls := hown
  have hg : ∀ w ∈ lw_g, w.before ([.ref h0, .int x1, .int x2, .ref ho] : List Value).toArray s = true := fun w h => hts w (List.mem_cons_of_mem _ h)
  have hC : CallFix p m c cL_pulse 5 s ([.ref h0, .int x1, .int x2, .ref ho] : List Value).toArray lw_g RL := ⟨hx, hb, hml, hown, hg⟩
  have hl : lv_has ls 5 [(0, .ref h0), (1, .int x1), (2, .int x2), (3, .ref ho)] := hl
  refine lv_aload_n hx hb dL_pulse_0 rfl (lv_at hl 3 rfl) ?_
  refine lv_iconst (v := (0 : Int32)) hx hb dL_pulse_1 (by decide) ?_
  refine lv_aload_n hx hb dL_pulse_2 rfl (lv_at hl 0 rfl) ?_
  refine lv_iload_n hx hb dL_pulse_3 rfl (lv_at hl 1 rfl) ?_
  refine lv_iload_n hx hb dL_pulse_4 rfl (lv_at hl 2 rfl) ?_
  refine kXi (As := [.int x1, .int x2]) (rest := [.int (0 : Int32), .ref ho]) hC (c_X5_pulse hlf (G := G) hf) kq3_237 kc_X5_pulse (by decide) 0 (ci := 3) rfl rfl hP hK hD hE hS hA (out := (fun v : Ob × Ob × (Nat → Ob) × (Nat → Ob) => [(ho, .inl (G.2.2.1 2, 1, .inr (.inl fo)))] ++ wAll G h0 a0 v.1 a1 v.2.1 ra rb v.2.2.1 v.2.2.2)) (wr := [(ho, .inl (G.2.2.1 2, 1, .inr (.inl fo)))]) List.perm_append_comm (fun _ => List.perm_append_comm) hl.1 (Nat.le_of_ble_eq_true rfl) ⟨Nat.le_of_ble_eq_true rfl, Nat.le_of_ble_eq_true rfl⟩ dL_pulse_5 (fun k E u9 q9 ce H locs hkE hw hP hD hS h1 h2 h3 => ?_) (fun r9 u9 H locs hw hP hD hS => ?_)
  · obtain ⟨v0, v1, v2, v3⟩ := u9
    have hw : q = (.inl k, (v0, v1, v2, v3)) := hw
    subst hw
    have hk := hk k rfl
    subst hk
    cases hkE
    refine vx_catch (name := "java/lang/IllegalArgumentException") (E := "java/lang/IllegalArgumentException") hown [] ⟨0, 10, 13, 19⟩ [] htb (fun z h => absurd h List.not_mem_nil) (by decide) (by decide) (hg _ kq2_186) ((hE.2.2.2.2.2.1 "java/lang/IllegalArgumentException" (by decide +kernel)).use rfl) h1 h2 h3 ?_
    refine lv_astore (lv' := [(4, .ref q9), (0, .ref h0), (1, .int x1), (2, .int x2), (3, .ref ho)]) hx hb dL_pulse_13 hl (by decide) rfl (fun ls hl => ?_)
    refine lv_iconst (v := (1 : Int32)) hx hb dL_pulse_15 (by decide) ?_
    refine W.widen (k := 1) (n := 6) (by decide) (by decide) ?_
    exact e_i (post := (fun (r : Int32) (v : (Nat → Int64) × Ob × Ob × (Nat → Ob) × (Nat → Ob)) => hc 1 ((.inl 1, (v0, v1, v2, v3)) : (Nat ⊕ Int32) × Ob × Ob × (Nat → Ob) × (Nat → Ob)).1 = r ∧ (hoI fo ((.inl 1, (v0, v1, v2, v3)) : (Nat ⊕ Int32) × Ob × Ob × (Nat → Ob) × (Nat → Ob)).1, ((.inl 1, (v0, v1, v2, v3)) : (Nat ⊕ Int32) × Ob × Ob × (Nat → Ob) × (Nat → Ob)).2) = v)) (wf := (fun v : (Nat → Int64) × Ob × Ob × (Nat → Ob) × (Nat → Ob) => [(ho, .inl (G.2.2.1 2, 1, .inr (.inl v.1)))] ++ wAll G h0 a0 v.2.1 a1 v.2.2.1 ra rb v.2.2.2.1 v.2.2.2.2)) hx hb hr hlk (fo, v0, v1, v2, v3) ⟨rfl, rfl⟩ hP hK hD hS dL_pulse_16
  · have hw : q = (.inr r9, u9) := hw
    subst hw
    refine lv_i2l (v := r9.toInt64) hx hb dL_pulse_8 rfl ?_
    refine va_last (f := fo) hx hb hK hP hD hS 0 2 rfl rfl (vin (by decide)) dL_pulse_9 (fun H locs hP hD hS => ?_)
    have hP : va_P (gD G) vwCl ([(ho, .inl (G.2.2.1 2, 1, .inr (.inl (vp_updL fo (0 : Int32).toNatClampNeg r9.toInt64))))] ++ wAll G h0 a0 u9.1 a1 u9.2.1 ra rb u9.2.2.1 u9.2.2.2) H := hP
    have hD : va_D A ([(ho, .inl (G.2.2.1 2, 1, .inr (.inl (vp_updL fo (0 : Int32).toNatClampNeg r9.toInt64))))] ++ wAll G h0 a0 u9.1 a1 u9.2.1 ra rb u9.2.2.1 u9.2.2.2) := hD
    refine lv_goto (tgt := 17) hx hb dL_pulse_10 (by decide) ?_
    refine lv_iconst (v := (0 : Int32)) hx hb dL_pulse_17 (by decide) ?_
    refine W.widen (k := 1) (n := 6) (by decide) (by decide) ?_
    exact e_i (post := (fun (r : Int32) (v : (Nat → Int64) × Ob × Ob × (Nat → Ob) × (Nat → Ob)) => hc 1 ((.inr r9, u9) : (Nat ⊕ Int32) × Ob × Ob × (Nat → Ob) × (Nat → Ob)).1 = r ∧ (hoI fo ((.inr r9, u9) : (Nat ⊕ Int32) × Ob × Ob × (Nat → Ob) × (Nat → Ob)).1, ((.inr r9, u9) : (Nat ⊕ Int32) × Ob × Ob × (Nat → Ob) × (Nat → Ob)).2) = v)) (wf := (fun v : (Nat → Int64) × Ob × Ob × (Nat → Ob) × (Nat → Ob) => [(ho, .inl (G.2.2.1 2, 1, .inr (.inl v.1)))] ++ wAll G h0 a0 v.2.1 a1 v.2.2.1 ra rb v.2.2.2.1 v.2.2.2.2)) hx hb hr hlk ((vp_updL fo (0 : Int32).toNatClampNeg r9.toInt64), u9) ⟨rfl, rfl⟩ hP hK hD hS dL_pulse_18
theorem kc_L_pulse : Cond.static yL_pulse ∈ lw_g ∧ Cond.initialized yL_pulse.cls ∈ lw_g ∧ Cond.codeWith yL_pulse cL_pulse 5 (some .int) [(0, 10, 13, 19)] ∈ lw_g ∧ yL_pulse.cls ≠ "java/lang/invoke/MethodHandle" ∧ yL_pulse.cls ≠ "java/lang/invoke/VarHandle" ∧ (parseMethodDescriptor yL_pulse.desc).map (fun d => d.parameters.length) = some 4 := ⟨kq3_235, kq1_0, kq3_236, by decide +kernel, by decide +kernel, by decide +kernel⟩
theorem dL_restore_0 : decode cL_restore 0 = .ok (.aload_n 2, 1) := by decide +kernel
theorem dL_restore_1 : decode cL_restore 1 = .ok (.iconst 0, 1) := by decide +kernel
theorem dL_restore_2 : decode cL_restore 2 = .ok (.aload_n 0, 1) := by decide +kernel
theorem dL_restore_3 : decode cL_restore 3 = .ok (.iload_n 1, 1) := by decide +kernel
theorem dL_restore_4 : decode cL_restore 4 = .ok (.invokevirtual 98, 3) := by decide +kernel
theorem dL_restore_7 : decode cL_restore 7 = .ok (.i2l, 1) := by decide +kernel
theorem dL_restore_8 : decode cL_restore 8 = .ok (.lastore, 1) := by decide +kernel
theorem dL_restore_9 : decode cL_restore 9 = .ok (.goto 9, 3) := by decide +kernel
theorem dL_restore_12 : decode cL_restore 12 = .ok (.astore_n 3, 1) := by decide +kernel
theorem dL_restore_13 : decode cL_restore 13 = .ok (.iconst 1, 1) := by decide +kernel
theorem dL_restore_14 : decode cL_restore 14 = .ok (.ireturn, 1) := by decide +kernel
theorem dL_restore_15 : decode cL_restore 15 = .ok (.astore_n 3, 1) := by decide +kernel
theorem dL_restore_16 : decode cL_restore 16 = .ok (.iconst 2, 1) := by decide +kernel
theorem dL_restore_17 : decode cL_restore 17 = .ok (.ireturn, 1) := by decide +kernel
theorem dL_restore_18 : decode cL_restore 18 = .ok (.iconst 0, 1) := by decide +kernel
theorem dL_restore_19 : decode cL_restore 19 = .ok (.ireturn, 1) := by decide +kernel
set_option maxRecDepth 100000 in
set_option maxHeartbeats 4000000 in
theorem c_L_restore {l : Launch} (hlf : l.stackTraces = false) {G : Gp} {sz N : Nat} {x1 : Int32} {h0 : Nat} {a0 a1 : Nat → Nat} {ra rb : Nat → Nat → Nat} {u0 u1 : Ob} {u2 u3 : Nat → Ob} {ho : Nat} {fo : Nat → Int64} {q : (Nat ⊕ Int32) × Ob × Ob × (Nat → Ob) × (Nat → Ob)} (hf : f_X5_restore N x1 u0 u1 u2 u3 = some q) (hk : ∀ k, q.1 = .inl k → k = 2 ∨ k = 0) : Met l yL_restore (Cond.codeWith yL_restore cL_restore 4 (some .int) [(0, 9, 12, 45), (0, 9, 15, 13)] :: lw_g) ({ frames := 7, cells := 1, slots := 6, locals := 111 } : Room) (va_Pc [.ref h0, .int x1, .ref ho] (pw G ([(ho, .inl (G.2.2.1 2, 1, .inr (.inl fo)))] ++ wAll G h0 a0 u0 a1 u1 ra rb u2 u3) sz)) (va_Qi (fun (r : Int32) (v : (Nat → Int64) × Ob × Ob × (Nat → Ob) × (Nat → Ob)) => hc 2 q.1 = r ∧ (hoI fo q.1, q.2) = v) (bw G (fun v : (Nat → Int64) × Ob × Ob × (Nat → Ob) × (Nat → Ob) => [(ho, .inl (G.2.2.1 2, 1, .inr (.inl v.1)))] ++ wAll G h0 a0 v.2.1 a1 v.2.2.1 ra rb v.2.2.2.1 v.2.2.2.2) (va_A ([(ho, .inl (G.2.2.1 2, 1, .inr (.inl fo)))] ++ wAll G h0 a0 u0 a1 u1 ra rb u2 u3) sz)) (va_A ([(ho, .inl (G.2.2.1 2, 1, .inr (.inl fo)))] ++ wAll G h0 a0 u0 a1 u1 ra rb u2 u3) sz)) 1 6 (va_A ([(ho, .inl (G.2.2.1 2, 1, .inr (.inl fo)))] ++ wAll G h0 a0 u0 a1 u1 ra rb u2 u3) sz) := by
  refine mtw (y := yL_restore) (maxL := 4) (av := [.ref h0, .int x1, .ref ho]) (Qc := fun A => va_Qi (fun (r : Int32) (v : (Nat → Int64) × Ob × Ob × (Nat → Ob) × (Nat → Ob)) => hc 2 q.1 = r ∧ (hoI fo q.1, q.2) = v) (bw G (fun v : (Nat → Int64) × Ob × Ob × (Nat → Ob) × (Nat → Ob) => [(ho, .inl (G.2.2.1 2, 1, .inr (.inl v.1)))] ++ wAll G h0 a0 v.2.1 a1 v.2.2.1 ra rb v.2.2.2.1 v.2.2.2.2) A) A) (by decide) (Nat.le_of_ble_eq_true rfl) ?_
  intro p e s m below meth c A ls hx hb hr hlk hml htb hts hown hA hP hK hD hE hS hl
  have hown : s.vm.findClass RL = some m.cls := hown
  have hg : ∀ w ∈ lw_g, w.before ([.ref h0, .int x1, .ref ho] : List Value).toArray s = true := fun w h => hts w (List.mem_cons_of_mem _ h)
  have hC : CallFix p m c cL_restore 4 s ([.ref h0, .int x1, .ref ho] : List Value).toArray lw_g RL := ⟨hx, hb, hml, hown, hg⟩
  have hl : lv_has ls 4 [(0, .ref h0), (1, .int x1), (2, .ref ho)] := hl
  refine lv_aload_n hx hb dL_restore_0 rfl (lv_at hl 2 rfl) ?_
  refine lv_iconst (v := (0 : Int32)) hx hb dL_restore_1 (by decide) ?_
  refine lv_aload_n hx hb dL_restore_2 rfl (lv_at hl 0 rfl) ?_
  refine lv_iload_n hx hb dL_restore_3 rfl (lv_at hl 1 rfl) ?_
  refine kXi (As := [.int x1]) (rest := [.int (0 : Int32), .ref ho]) hC (c_X5_restore hlf (G := G) hf) kq4_222 kc_X5_restore (by decide) 0 (ci := 3) rfl rfl hP hK hD hE hS hA (out := (fun v : Ob × Ob × (Nat → Ob) × (Nat → Ob) => [(ho, .inl (G.2.2.1 2, 1, .inr (.inl fo)))] ++ wAll G h0 a0 v.1 a1 v.2.1 ra rb v.2.2.1 v.2.2.2)) (wr := [(ho, .inl (G.2.2.1 2, 1, .inr (.inl fo)))]) List.perm_append_comm (fun _ => List.perm_append_comm) hl.1 (Nat.le_of_ble_eq_true rfl) ⟨Nat.le_of_ble_eq_true rfl, Nat.le_of_ble_eq_true rfl⟩ dL_restore_4 (fun k E u9 q9 ce H locs hkE hw hP hD hS h1 h2 h3 => ?_) (fun r9 u9 H locs hw hP hD hS => ?_)
  · obtain ⟨v0, v1, v2, v3⟩ := u9
    have hw : q = (.inl k, (v0, v1, v2, v3)) := hw
    subst hw
    have hk := hk k rfl
    rcases hk with rfl | rfl
    · cases hkE
      refine vx_catch (name := "java/lang/IndexOutOfBoundsException") (E := "java/lang/IndexOutOfBoundsException") hown [] ⟨0, 9, 12, 45⟩ [⟨0, 9, 15, 13⟩] htb (fun z h => absurd h List.not_mem_nil) (by decide) (by decide) (hg _ kq4_16) ((hE.2.2.2.2.2.1 "java/lang/IndexOutOfBoundsException" (by decide +kernel)).use rfl) h1 h2 h3 ?_
      refine lv_astore_n (lv' := [(3, .ref q9), (0, .ref h0), (1, .int x1), (2, .ref ho)]) hx hb dL_restore_12 rfl hl (by decide) rfl (fun ls hl => ?_)
      refine lv_iconst (v := (1 : Int32)) hx hb dL_restore_13 (by decide) ?_
      refine W.widen (k := 1) (n := 6) (by decide) (by decide) ?_
      exact e_i (post := (fun (r : Int32) (v : (Nat → Int64) × Ob × Ob × (Nat → Ob) × (Nat → Ob)) => hc 2 ((.inl 2, (v0, v1, v2, v3)) : (Nat ⊕ Int32) × Ob × Ob × (Nat → Ob) × (Nat → Ob)).1 = r ∧ (hoI fo ((.inl 2, (v0, v1, v2, v3)) : (Nat ⊕ Int32) × Ob × Ob × (Nat → Ob) × (Nat → Ob)).1, ((.inl 2, (v0, v1, v2, v3)) : (Nat ⊕ Int32) × Ob × Ob × (Nat → Ob) × (Nat → Ob)).2) = v)) (wf := (fun v : (Nat → Int64) × Ob × Ob × (Nat → Ob) × (Nat → Ob) => [(ho, .inl (G.2.2.1 2, 1, .inr (.inl v.1)))] ++ wAll G h0 a0 v.2.1 a1 v.2.2.1 ra rb v.2.2.2.1 v.2.2.2.2)) hx hb hr hlk (fo, v0, v1, v2, v3) ⟨rfl, rfl⟩ hP hK hD hS dL_restore_14
    · cases hkE
      refine vx_catch (name := "java/lang/IllegalStateException") (E := "java/lang/IllegalStateException") hown [⟨0, 9, 12, 45⟩] ⟨0, 9, 15, 13⟩ [] htb (fun z h => by obtain rfl := List.mem_singleton.mp h; exact Or.inr ⟨by decide, "java/lang/IndexOutOfBoundsException", hg _ kq4_16, hE.2.2.2.2.2.2.1 "java/lang/IllegalStateException" (by decide +kernel) "java/lang/IndexOutOfBoundsException" (by decide +kernel) (by decide +kernel)⟩) (by decide) (by decide) (hg _ kq2_106) ((hE.2.2.2.2.2.1 "java/lang/IllegalStateException" (by decide +kernel)).use rfl) h1 h2 h3 ?_
      refine lv_astore_n (lv' := [(3, .ref q9), (0, .ref h0), (1, .int x1), (2, .ref ho)]) hx hb dL_restore_15 rfl hl (by decide) rfl (fun ls hl => ?_)
      refine lv_iconst (v := (2 : Int32)) hx hb dL_restore_16 (by decide) ?_
      refine W.widen (k := 1) (n := 6) (by decide) (by decide) ?_
      exact e_i (post := (fun (r : Int32) (v : (Nat → Int64) × Ob × Ob × (Nat → Ob) × (Nat → Ob)) => hc 2 ((.inl 0, (v0, v1, v2, v3)) : (Nat ⊕ Int32) × Ob × Ob × (Nat → Ob) × (Nat → Ob)).1 = r ∧ (hoI fo ((.inl 0, (v0, v1, v2, v3)) : (Nat ⊕ Int32) × Ob × Ob × (Nat → Ob) × (Nat → Ob)).1, ((.inl 0, (v0, v1, v2, v3)) : (Nat ⊕ Int32) × Ob × Ob × (Nat → Ob) × (Nat → Ob)).2) = v)) (wf := (fun v : (Nat → Int64) × Ob × Ob × (Nat → Ob) × (Nat → Ob) => [(ho, .inl (G.2.2.1 2, 1, .inr (.inl v.1)))] ++ wAll G h0 a0 v.2.1 a1 v.2.2.1 ra rb v.2.2.2.1 v.2.2.2.2)) hx hb hr hlk (fo, v0, v1, v2, v3) ⟨rfl, rfl⟩ hP hK hD hS dL_restore_17
  · have hw : q = (.inr r9, u9) := hw
    subst hw
    refine lv_i2l (v := r9.toInt64) hx hb dL_restore_7 rfl ?_
    refine va_last (f := fo) hx hb hK hP hD hS 0 2 rfl rfl (vin (by decide)) dL_restore_8 (fun H locs hP hD hS => ?_)
    have hP : va_P (gD G) vwCl ([(ho, .inl (G.2.2.1 2, 1, .inr (.inl (vp_updL fo (0 : Int32).toNatClampNeg r9.toInt64))))] ++ wAll G h0 a0 u9.1 a1 u9.2.1 ra rb u9.2.2.1 u9.2.2.2) H := hP
    have hD : va_D A ([(ho, .inl (G.2.2.1 2, 1, .inr (.inl (vp_updL fo (0 : Int32).toNatClampNeg r9.toInt64))))] ++ wAll G h0 a0 u9.1 a1 u9.2.1 ra rb u9.2.2.1 u9.2.2.2) := hD
    refine lv_goto (tgt := 18) hx hb dL_restore_9 (by decide) ?_
    refine lv_iconst (v := (0 : Int32)) hx hb dL_restore_18 (by decide) ?_
    refine W.widen (k := 1) (n := 6) (by decide) (by decide) ?_
    exact e_i (post := (fun (r : Int32) (v : (Nat → Int64) × Ob × Ob × (Nat → Ob) × (Nat → Ob)) => hc 2 ((.inr r9, u9) : (Nat ⊕ Int32) × Ob × Ob × (Nat → Ob) × (Nat → Ob)).1 = r ∧ (hoI fo ((.inr r9, u9) : (Nat ⊕ Int32) × Ob × Ob × (Nat → Ob) × (Nat → Ob)).1, ((.inr r9, u9) : (Nat ⊕ Int32) × Ob × Ob × (Nat → Ob) × (Nat → Ob)).2) = v)) (wf := (fun v : (Nat → Int64) × Ob × Ob × (Nat → Ob) × (Nat → Ob) => [(ho, .inl (G.2.2.1 2, 1, .inr (.inl v.1)))] ++ wAll G h0 a0 v.2.1 a1 v.2.2.1 ra rb v.2.2.2.1 v.2.2.2.2)) hx hb hr hlk ((vp_updL fo (0 : Int32).toNatClampNeg r9.toInt64), u9) ⟨rfl, rfl⟩ hP hK hD hS dL_restore_19
theorem kc_L_restore : Cond.static yL_restore ∈ lw_g ∧ Cond.initialized yL_restore.cls ∈ lw_g ∧ Cond.codeWith yL_restore cL_restore 4 (some .int) [(0, 9, 12, 45), (0, 9, 15, 13)] ∈ lw_g ∧ yL_restore.cls ≠ "java/lang/invoke/MethodHandle" ∧ yL_restore.cls ≠ "java/lang/invoke/VarHandle" ∧ (parseMethodDescriptor yL_restore.desc).map (fun d => d.parameters.length) = some 3 := ⟨kq4_220, kq1_0, kq4_221, by decide +kernel, by decide +kernel, by decide +kernel⟩
theorem dL_save_0 : decode cL_save 0 = .ok (.aload_n 2, 1) := by decide +kernel
theorem dL_save_1 : decode cL_save 1 = .ok (.iconst 0, 1) := by decide +kernel
theorem dL_save_2 : decode cL_save 2 = .ok (.aload_n 0, 1) := by decide +kernel
theorem dL_save_3 : decode cL_save 3 = .ok (.iload_n 1, 1) := by decide +kernel
theorem dL_save_4 : decode cL_save 4 = .ok (.invokevirtual 95, 3) := by decide +kernel
theorem dL_save_7 : decode cL_save 7 = .ok (.i2l, 1) := by decide +kernel
theorem dL_save_8 : decode cL_save 8 = .ok (.lastore, 1) := by decide +kernel
theorem dL_save_9 : decode cL_save 9 = .ok (.goto 6, 3) := by decide +kernel
theorem dL_save_12 : decode cL_save 12 = .ok (.astore_n 3, 1) := by decide +kernel
theorem dL_save_13 : decode cL_save 13 = .ok (.iconst 1, 1) := by decide +kernel
theorem dL_save_14 : decode cL_save 14 = .ok (.ireturn, 1) := by decide +kernel
theorem dL_save_15 : decode cL_save 15 = .ok (.iconst 0, 1) := by decide +kernel
theorem dL_save_16 : decode cL_save 16 = .ok (.ireturn, 1) := by decide +kernel
set_option maxRecDepth 100000 in
set_option maxHeartbeats 4000000 in
theorem c_L_save {l : Launch} (hlf : l.stackTraces = false) {G : Gp} {sz N : Nat} {x1 : Int32} {h0 : Nat} {a0 a1 : Nat → Nat} {ra rb : Nat → Nat → Nat} {u0 u1 : Ob} {u2 u3 : Nat → Ob} {ho : Nat} {fo : Nat → Int64} {q : (Nat ⊕ Int32) × Ob × Ob × (Nat → Ob) × (Nat → Ob)} (hf : f_X5_save N x1 u0 u1 u2 u3 = some q) (hk : ∀ k, q.1 = .inl k → k = 2) : Met l yL_save (Cond.codeWith yL_save cL_save 4 (some .int) [(0, 9, 12, 45)] :: lw_g) ({ frames := 7, cells := 1, slots := 6, locals := 111 } : Room) (va_Pc [.ref h0, .int x1, .ref ho] (pw G ([(ho, .inl (G.2.2.1 2, 1, .inr (.inl fo)))] ++ wAll G h0 a0 u0 a1 u1 ra rb u2 u3) sz)) (va_Qi (fun (r : Int32) (v : (Nat → Int64) × Ob × Ob × (Nat → Ob) × (Nat → Ob)) => hc 2 q.1 = r ∧ (hoI fo q.1, q.2) = v) (bw G (fun v : (Nat → Int64) × Ob × Ob × (Nat → Ob) × (Nat → Ob) => [(ho, .inl (G.2.2.1 2, 1, .inr (.inl v.1)))] ++ wAll G h0 a0 v.2.1 a1 v.2.2.1 ra rb v.2.2.2.1 v.2.2.2.2) (va_A ([(ho, .inl (G.2.2.1 2, 1, .inr (.inl fo)))] ++ wAll G h0 a0 u0 a1 u1 ra rb u2 u3) sz)) (va_A ([(ho, .inl (G.2.2.1 2, 1, .inr (.inl fo)))] ++ wAll G h0 a0 u0 a1 u1 ra rb u2 u3) sz)) 1 6 (va_A ([(ho, .inl (G.2.2.1 2, 1, .inr (.inl fo)))] ++ wAll G h0 a0 u0 a1 u1 ra rb u2 u3) sz) := by
  refine mtw (y := yL_save) (maxL := 4) (av := [.ref h0, .int x1, .ref ho]) (Qc := fun A => va_Qi (fun (r : Int32) (v : (Nat → Int64) × Ob × Ob × (Nat → Ob) × (Nat → Ob)) => hc 2 q.1 = r ∧ (hoI fo q.1, q.2) = v) (bw G (fun v : (Nat → Int64) × Ob × Ob × (Nat → Ob) × (Nat → Ob) => [(ho, .inl (G.2.2.1 2, 1, .inr (.inl v.1)))] ++ wAll G h0 a0 v.2.1 a1 v.2.2.1 ra rb v.2.2.2.1 v.2.2.2.2) A) A) (by decide) (Nat.le_of_ble_eq_true rfl) ?_
  intro p e s m below meth c A ls hx hb hr hlk hml htb hts hown hA hP hK hD hE hS hl
  have hown : s.vm.findClass RL = some m.cls := hown
  have hg : ∀ w ∈ lw_g, w.before ([.ref h0, .int x1, .ref ho] : List Value).toArray s = true := fun w h => hts w (List.mem_cons_of_mem _ h)
  have hC : CallFix p m c cL_save 4 s ([.ref h0, .int x1, .ref ho] : List Value).toArray lw_g RL := ⟨hx, hb, hml, hown, hg⟩
  have hl : lv_has ls 4 [(0, .ref h0), (1, .int x1), (2, .ref ho)] := hl
  refine lv_aload_n hx hb dL_save_0 rfl (lv_at hl 2 rfl) ?_
  refine lv_iconst (v := (0 : Int32)) hx hb dL_save_1 (by decide) ?_
  refine lv_aload_n hx hb dL_save_2 rfl (lv_at hl 0 rfl) ?_
  refine lv_iload_n hx hb dL_save_3 rfl (lv_at hl 1 rfl) ?_
  refine kXi (As := [.int x1]) (rest := [.int (0 : Int32), .ref ho]) hC (c_X5_save hlf (G := G) hf) kq4_214 kc_X5_save (by decide) 0 (ci := 3) rfl rfl hP hK hD hE hS hA (out := (fun v : Ob × Ob × (Nat → Ob) × (Nat → Ob) => [(ho, .inl (G.2.2.1 2, 1, .inr (.inl fo)))] ++ wAll G h0 a0 v.1 a1 v.2.1 ra rb v.2.2.1 v.2.2.2)) (wr := [(ho, .inl (G.2.2.1 2, 1, .inr (.inl fo)))]) List.perm_append_comm (fun _ => List.perm_append_comm) hl.1 (Nat.le_of_ble_eq_true rfl) ⟨Nat.le_of_ble_eq_true rfl, Nat.le_of_ble_eq_true rfl⟩ dL_save_4 (fun k E u9 q9 ce H locs hkE hw hP hD hS h1 h2 h3 => ?_) (fun r9 u9 H locs hw hP hD hS => ?_)
  · obtain ⟨v0, v1, v2, v3⟩ := u9
    have hw : q = (.inl k, (v0, v1, v2, v3)) := hw
    subst hw
    have hk := hk k rfl
    subst hk
    cases hkE
    refine vx_catch (name := "java/lang/IndexOutOfBoundsException") (E := "java/lang/IndexOutOfBoundsException") hown [] ⟨0, 9, 12, 45⟩ [] htb (fun z h => absurd h List.not_mem_nil) (by decide) (by decide) (hg _ kq4_16) ((hE.2.2.2.2.2.1 "java/lang/IndexOutOfBoundsException" (by decide +kernel)).use rfl) h1 h2 h3 ?_
    refine lv_astore_n (lv' := [(3, .ref q9), (0, .ref h0), (1, .int x1), (2, .ref ho)]) hx hb dL_save_12 rfl hl (by decide) rfl (fun ls hl => ?_)
    refine lv_iconst (v := (1 : Int32)) hx hb dL_save_13 (by decide) ?_
    refine W.widen (k := 1) (n := 6) (by decide) (by decide) ?_
    exact e_i (post := (fun (r : Int32) (v : (Nat → Int64) × Ob × Ob × (Nat → Ob) × (Nat → Ob)) => hc 2 ((.inl 2, (v0, v1, v2, v3)) : (Nat ⊕ Int32) × Ob × Ob × (Nat → Ob) × (Nat → Ob)).1 = r ∧ (hoI fo ((.inl 2, (v0, v1, v2, v3)) : (Nat ⊕ Int32) × Ob × Ob × (Nat → Ob) × (Nat → Ob)).1, ((.inl 2, (v0, v1, v2, v3)) : (Nat ⊕ Int32) × Ob × Ob × (Nat → Ob) × (Nat → Ob)).2) = v)) (wf := (fun v : (Nat → Int64) × Ob × Ob × (Nat → Ob) × (Nat → Ob) => [(ho, .inl (G.2.2.1 2, 1, .inr (.inl v.1)))] ++ wAll G h0 a0 v.2.1 a1 v.2.2.1 ra rb v.2.2.2.1 v.2.2.2.2)) hx hb hr hlk (fo, v0, v1, v2, v3) ⟨rfl, rfl⟩ hP hK hD hS dL_save_14
  · have hw : q = (.inr r9, u9) := hw
    subst hw
    refine lv_i2l (v := r9.toInt64) hx hb dL_save_7 rfl ?_
    refine va_last (f := fo) hx hb hK hP hD hS 0 2 rfl rfl (vin (by decide)) dL_save_8 (fun H locs hP hD hS => ?_)
    have hP : va_P (gD G) vwCl ([(ho, .inl (G.2.2.1 2, 1, .inr (.inl (vp_updL fo (0 : Int32).toNatClampNeg r9.toInt64))))] ++ wAll G h0 a0 u9.1 a1 u9.2.1 ra rb u9.2.2.1 u9.2.2.2) H := hP
    have hD : va_D A ([(ho, .inl (G.2.2.1 2, 1, .inr (.inl (vp_updL fo (0 : Int32).toNatClampNeg r9.toInt64))))] ++ wAll G h0 a0 u9.1 a1 u9.2.1 ra rb u9.2.2.1 u9.2.2.2) := hD
    refine lv_goto (tgt := 15) hx hb dL_save_9 (by decide) ?_
    refine lv_iconst (v := (0 : Int32)) hx hb dL_save_15 (by decide) ?_
    refine W.widen (k := 1) (n := 6) (by decide) (by decide) ?_
    exact e_i (post := (fun (r : Int32) (v : (Nat → Int64) × Ob × Ob × (Nat → Ob) × (Nat → Ob)) => hc 2 ((.inr r9, u9) : (Nat ⊕ Int32) × Ob × Ob × (Nat → Ob) × (Nat → Ob)).1 = r ∧ (hoI fo ((.inr r9, u9) : (Nat ⊕ Int32) × Ob × Ob × (Nat → Ob) × (Nat → Ob)).1, ((.inr r9, u9) : (Nat ⊕ Int32) × Ob × Ob × (Nat → Ob) × (Nat → Ob)).2) = v)) (wf := (fun v : (Nat → Int64) × Ob × Ob × (Nat → Ob) × (Nat → Ob) => [(ho, .inl (G.2.2.1 2, 1, .inr (.inl v.1)))] ++ wAll G h0 a0 v.2.1 a1 v.2.2.1 ra rb v.2.2.2.1 v.2.2.2.2)) hx hb hr hlk ((vp_updL fo (0 : Int32).toNatClampNeg r9.toInt64), u9) ⟨rfl, rfl⟩ hP hK hD hS dL_save_16
theorem kc_L_save : Cond.static yL_save ∈ lw_g ∧ Cond.initialized yL_save.cls ∈ lw_g ∧ Cond.codeWith yL_save cL_save 4 (some .int) [(0, 9, 12, 45)] ∈ lw_g ∧ yL_save.cls ≠ "java/lang/invoke/MethodHandle" ∧ yL_save.cls ≠ "java/lang/invoke/VarHandle" ∧ (parseMethodDescriptor yL_save.desc).map (fun d => d.parameters.length) = some 3 := ⟨kq4_212, kq1_0, kq4_213, by decide +kernel, by decide +kernel, by decide +kernel⟩
theorem dL_set_0 : decode cL_set 0 = .ok (.aload_n 3, 1) := by decide +kernel
theorem dL_set_1 : decode cL_set 1 = .ok (.iconst 0, 1) := by decide +kernel
theorem dL_set_2 : decode cL_set 2 = .ok (.aload_n 0, 1) := by decide +kernel
theorem dL_set_3 : decode cL_set 3 = .ok (.iload_n 1, 1) := by decide +kernel
theorem dL_set_4 : decode cL_set 4 = .ok (.iload_n 2, 1) := by decide +kernel
theorem dL_set_5 : decode cL_set 5 = .ok (.invokevirtual 80, 3) := by decide +kernel
theorem dL_set_8 : decode cL_set 8 = .ok (.i2l, 1) := by decide +kernel
theorem dL_set_9 : decode cL_set 9 = .ok (.lastore, 1) := by decide +kernel
theorem dL_set_10 : decode cL_set 10 = .ok (.goto 7, 3) := by decide +kernel
theorem dL_set_13 : decode cL_set 13 = .ok (.astore 4, 2) := by decide +kernel
theorem dL_set_15 : decode cL_set 15 = .ok (.iconst 1, 1) := by decide +kernel
theorem dL_set_16 : decode cL_set 16 = .ok (.ireturn, 1) := by decide +kernel
theorem dL_set_17 : decode cL_set 17 = .ok (.iconst 0, 1) := by decide +kernel
theorem dL_set_18 : decode cL_set 18 = .ok (.ireturn, 1) := by decide +kernel
set_option maxRecDepth 100000 in
set_option maxHeartbeats 4000000 in
theorem c_L_set {l : Launch} (hlf : l.stackTraces = false) {G : Gp} {sz N : Nat} {x1 : Int32} {x2 : Int32} {h0 : Nat} {a0 a1 : Nat → Nat} {ra rb : Nat → Nat → Nat} {u0 u1 : Ob} {u2 u3 : Nat → Ob} {ho : Nat} {fo : Nat → Int64} {q : (Nat ⊕ Int32) × Ob × Ob × (Nat → Ob) × (Nat → Ob)} (hf : f_X5_set N x1 x2 u0 u1 u2 u3 = some q) (hk : ∀ k, q.1 = .inl k → k = 1) : Met l yL_set (Cond.codeWith yL_set cL_set 5 (some .int) [(0, 10, 13, 19)] :: lw_g) ({ frames := 7, cells := 1, slots := 6, locals := 113 } : Room) (va_Pc [.ref h0, .int x1, .int x2, .ref ho] (pw G ([(ho, .inl (G.2.2.1 2, 1, .inr (.inl fo)))] ++ wAll G h0 a0 u0 a1 u1 ra rb u2 u3) sz)) (va_Qi (fun (r : Int32) (v : (Nat → Int64) × Ob × Ob × (Nat → Ob) × (Nat → Ob)) => hc 1 q.1 = r ∧ (hoI fo q.1, q.2) = v) (bw G (fun v : (Nat → Int64) × Ob × Ob × (Nat → Ob) × (Nat → Ob) => [(ho, .inl (G.2.2.1 2, 1, .inr (.inl v.1)))] ++ wAll G h0 a0 v.2.1 a1 v.2.2.1 ra rb v.2.2.2.1 v.2.2.2.2) (va_A ([(ho, .inl (G.2.2.1 2, 1, .inr (.inl fo)))] ++ wAll G h0 a0 u0 a1 u1 ra rb u2 u3) sz)) (va_A ([(ho, .inl (G.2.2.1 2, 1, .inr (.inl fo)))] ++ wAll G h0 a0 u0 a1 u1 ra rb u2 u3) sz)) 1 6 (va_A ([(ho, .inl (G.2.2.1 2, 1, .inr (.inl fo)))] ++ wAll G h0 a0 u0 a1 u1 ra rb u2 u3) sz) := by
  refine mtw (y := yL_set) (maxL := 5) (av := [.ref h0, .int x1, .int x2, .ref ho]) (Qc := fun A => va_Qi (fun (r : Int32) (v : (Nat → Int64) × Ob × Ob × (Nat → Ob) × (Nat → Ob)) => hc 1 q.1 = r ∧ (hoI fo q.1, q.2) = v) (bw G (fun v : (Nat → Int64) × Ob × Ob × (Nat → Ob) × (Nat → Ob) => [(ho, .inl (G.2.2.1 2, 1, .inr (.inl v.1)))] ++ wAll G h0 a0 v.2.1 a1 v.2.2.1 ra rb v.2.2.2.1 v.2.2.2.2) A) A) (by decide) (Nat.le_of_ble_eq_true rfl) ?_
  intro p e s m below meth c A ls hx hb hr hlk hml htb hts hown hA hP hK hD hE hS hl
  have hown : s.vm.findClass RL = some m.cls := hown
  have hg : ∀ w ∈ lw_g, w.before ([.ref h0, .int x1, .int x2, .ref ho] : List Value).toArray s = true := fun w h => hts w (List.mem_cons_of_mem _ h)
  have hC : CallFix p m c cL_set 5 s ([.ref h0, .int x1, .int x2, .ref ho] : List Value).toArray lw_g RL := ⟨hx, hb, hml, hown, hg⟩
  have hl : lv_has ls 5 [(0, .ref h0), (1, .int x1), (2, .int x2), (3, .ref ho)] := hl
  refine lv_aload_n hx hb dL_set_0 rfl (lv_at hl 3 rfl) ?_
  refine lv_iconst (v := (0 : Int32)) hx hb dL_set_1 (by decide) ?_
  refine lv_aload_n hx hb dL_set_2 rfl (lv_at hl 0 rfl) ?_
  refine lv_iload_n hx hb dL_set_3 rfl (lv_at hl 1 rfl) ?_
  refine lv_iload_n hx hb dL_set_4 rfl (lv_at hl 2 rfl) ?_
  refine kXi (As := [.int x1, .int x2]) (rest := [.int (0 : Int32), .ref ho]) hC (c_X5_set hlf (G := G) hf) kq4_164 kc_X5_set (by decide) 0 (ci := 3) rfl rfl hP hK hD hE hS hA (out := (fun v : Ob × Ob × (Nat → Ob) × (Nat → Ob) => [(ho, .inl (G.2.2.1 2, 1, .inr (.inl fo)))] ++ wAll G h0 a0 v.1 a1 v.2.1 ra rb v.2.2.1 v.2.2.2)) (wr := [(ho, .inl (G.2.2.1 2, 1, .inr (.inl fo)))]) List.perm_append_comm (fun _ => List.perm_append_comm) hl.1 (Nat.le_of_ble_eq_true rfl) ⟨Nat.le_of_ble_eq_true rfl, Nat.le_of_ble_eq_true rfl⟩ dL_set_5 (fun k E u9 q9 ce H locs hkE hw hP hD hS h1 h2 h3 => ?_) (fun r9 u9 H locs hw hP hD hS => ?_)
  · obtain ⟨v0, v1, v2, v3⟩ := u9
    have hw : q = (.inl k, (v0, v1, v2, v3)) := hw
    subst hw
    have hk := hk k rfl
    subst hk
    cases hkE
    refine vx_catch (name := "java/lang/IllegalArgumentException") (E := "java/lang/IllegalArgumentException") hown [] ⟨0, 10, 13, 19⟩ [] htb (fun z h => absurd h List.not_mem_nil) (by decide) (by decide) (hg _ kq2_186) ((hE.2.2.2.2.2.1 "java/lang/IllegalArgumentException" (by decide +kernel)).use rfl) h1 h2 h3 ?_
    refine lv_astore (lv' := [(4, .ref q9), (0, .ref h0), (1, .int x1), (2, .int x2), (3, .ref ho)]) hx hb dL_set_13 hl (by decide) rfl (fun ls hl => ?_)
    refine lv_iconst (v := (1 : Int32)) hx hb dL_set_15 (by decide) ?_
    refine W.widen (k := 1) (n := 6) (by decide) (by decide) ?_
    exact e_i (post := (fun (r : Int32) (v : (Nat → Int64) × Ob × Ob × (Nat → Ob) × (Nat → Ob)) => hc 1 ((.inl 1, (v0, v1, v2, v3)) : (Nat ⊕ Int32) × Ob × Ob × (Nat → Ob) × (Nat → Ob)).1 = r ∧ (hoI fo ((.inl 1, (v0, v1, v2, v3)) : (Nat ⊕ Int32) × Ob × Ob × (Nat → Ob) × (Nat → Ob)).1, ((.inl 1, (v0, v1, v2, v3)) : (Nat ⊕ Int32) × Ob × Ob × (Nat → Ob) × (Nat → Ob)).2) = v)) (wf := (fun v : (Nat → Int64) × Ob × Ob × (Nat → Ob) × (Nat → Ob) => [(ho, .inl (G.2.2.1 2, 1, .inr (.inl v.1)))] ++ wAll G h0 a0 v.2.1 a1 v.2.2.1 ra rb v.2.2.2.1 v.2.2.2.2)) hx hb hr hlk (fo, v0, v1, v2, v3) ⟨rfl, rfl⟩ hP hK hD hS dL_set_16
  · have hw : q = (.inr r9, u9) := hw
    subst hw
    refine lv_i2l (v := r9.toInt64) hx hb dL_set_8 rfl ?_
    refine va_last (f := fo) hx hb hK hP hD hS 0 2 rfl rfl (vin (by decide)) dL_set_9 (fun H locs hP hD hS => ?_)
    have hP : va_P (gD G) vwCl ([(ho, .inl (G.2.2.1 2, 1, .inr (.inl (vp_updL fo (0 : Int32).toNatClampNeg r9.toInt64))))] ++ wAll G h0 a0 u9.1 a1 u9.2.1 ra rb u9.2.2.1 u9.2.2.2) H := hP
    have hD : va_D A ([(ho, .inl (G.2.2.1 2, 1, .inr (.inl (vp_updL fo (0 : Int32).toNatClampNeg r9.toInt64))))] ++ wAll G h0 a0 u9.1 a1 u9.2.1 ra rb u9.2.2.1 u9.2.2.2) := hD
    refine lv_goto (tgt := 17) hx hb dL_set_10 (by decide) ?_
    refine lv_iconst (v := (0 : Int32)) hx hb dL_set_17 (by decide) ?_
    refine W.widen (k := 1) (n := 6) (by decide) (by decide) ?_
    exact e_i (post := (fun (r : Int32) (v : (Nat → Int64) × Ob × Ob × (Nat → Ob) × (Nat → Ob)) => hc 1 ((.inr r9, u9) : (Nat ⊕ Int32) × Ob × Ob × (Nat → Ob) × (Nat → Ob)).1 = r ∧ (hoI fo ((.inr r9, u9) : (Nat ⊕ Int32) × Ob × Ob × (Nat → Ob) × (Nat → Ob)).1, ((.inr r9, u9) : (Nat ⊕ Int32) × Ob × Ob × (Nat → Ob) × (Nat → Ob)).2) = v)) (wf := (fun v : (Nat → Int64) × Ob × Ob × (Nat → Ob) × (Nat → Ob) => [(ho, .inl (G.2.2.1 2, 1, .inr (.inl v.1)))] ++ wAll G h0 a0 v.2.1 a1 v.2.2.1 ra rb v.2.2.2.1 v.2.2.2.2)) hx hb hr hlk ((vp_updL fo (0 : Int32).toNatClampNeg r9.toInt64), u9) ⟨rfl, rfl⟩ hP hK hD hS dL_set_18
theorem kc_L_set : Cond.static yL_set ∈ lw_g ∧ Cond.initialized yL_set.cls ∈ lw_g ∧ Cond.codeWith yL_set cL_set 5 (some .int) [(0, 10, 13, 19)] ∈ lw_g ∧ yL_set.cls ≠ "java/lang/invoke/MethodHandle" ∧ yL_set.cls ≠ "java/lang/invoke/VarHandle" ∧ (parseMethodDescriptor yL_set.desc).map (fun d => d.parameters.length) = some 4 := ⟨kq4_162, kq1_0, kq4_163, by decide +kernel, by decide +kernel, by decide +kernel⟩
theorem dL_undo_0 : decode cL_undo 0 = .ok (.aload_n 1, 1) := by decide +kernel
theorem dL_undo_1 : decode cL_undo 1 = .ok (.iconst 0, 1) := by decide +kernel
theorem dL_undo_2 : decode cL_undo 2 = .ok (.aload_n 0, 1) := by decide +kernel
theorem dL_undo_3 : decode cL_undo 3 = .ok (.invokevirtual 92, 3) := by decide +kernel
theorem dL_undo_6 : decode cL_undo 6 = .ok (.i2l, 1) := by decide +kernel
theorem dL_undo_7 : decode cL_undo 7 = .ok (.lastore, 1) := by decide +kernel
theorem dL_undo_8 : decode cL_undo 8 = .ok (.goto 6, 3) := by decide +kernel
theorem dL_undo_11 : decode cL_undo 11 = .ok (.astore_n 2, 1) := by decide +kernel
theorem dL_undo_12 : decode cL_undo 12 = .ok (.iconst 1, 1) := by decide +kernel
theorem dL_undo_13 : decode cL_undo 13 = .ok (.ireturn, 1) := by decide +kernel
theorem dL_undo_14 : decode cL_undo 14 = .ok (.iconst 0, 1) := by decide +kernel
theorem dL_undo_15 : decode cL_undo 15 = .ok (.ireturn, 1) := by decide +kernel
set_option maxRecDepth 100000 in
set_option maxHeartbeats 4000000 in
theorem c_L_undo {l : Launch} (hlf : l.stackTraces = false) {G : Gp} {sz N : Nat}  {h0 : Nat} {a0 a1 : Nat → Nat} {ra rb : Nat → Nat → Nat} {u0 u1 : Ob} {u2 u3 : Nat → Ob} {ho : Nat} {fo : Nat → Int64} {q : (Nat ⊕ Int32) × Ob × Ob × (Nat → Ob) × (Nat → Ob)} (hf : f_X5_undo N u0 u1 u2 u3 = some q) (hk : ∀ k, q.1 = .inl k → k = 0) : Met l yL_undo (Cond.codeWith yL_undo cL_undo 3 (some .int) [(0, 8, 11, 13)] :: lw_g) ({ frames := 7, cells := 1, slots := 6, locals := 110 } : Room) (va_Pc [.ref h0, .ref ho] (pw G ([(ho, .inl (G.2.2.1 2, 1, .inr (.inl fo)))] ++ wAll G h0 a0 u0 a1 u1 ra rb u2 u3) sz)) (va_Qi (fun (r : Int32) (v : (Nat → Int64) × Ob × Ob × (Nat → Ob) × (Nat → Ob)) => hc 0 q.1 = r ∧ (hoI fo q.1, q.2) = v) (bw G (fun v : (Nat → Int64) × Ob × Ob × (Nat → Ob) × (Nat → Ob) => [(ho, .inl (G.2.2.1 2, 1, .inr (.inl v.1)))] ++ wAll G h0 a0 v.2.1 a1 v.2.2.1 ra rb v.2.2.2.1 v.2.2.2.2) (va_A ([(ho, .inl (G.2.2.1 2, 1, .inr (.inl fo)))] ++ wAll G h0 a0 u0 a1 u1 ra rb u2 u3) sz)) (va_A ([(ho, .inl (G.2.2.1 2, 1, .inr (.inl fo)))] ++ wAll G h0 a0 u0 a1 u1 ra rb u2 u3) sz)) 1 6 (va_A ([(ho, .inl (G.2.2.1 2, 1, .inr (.inl fo)))] ++ wAll G h0 a0 u0 a1 u1 ra rb u2 u3) sz) := by
  refine mtw (y := yL_undo) (maxL := 3) (av := [.ref h0, .ref ho]) (Qc := fun A => va_Qi (fun (r : Int32) (v : (Nat → Int64) × Ob × Ob × (Nat → Ob) × (Nat → Ob)) => hc 0 q.1 = r ∧ (hoI fo q.1, q.2) = v) (bw G (fun v : (Nat → Int64) × Ob × Ob × (Nat → Ob) × (Nat → Ob) => [(ho, .inl (G.2.2.1 2, 1, .inr (.inl v.1)))] ++ wAll G h0 a0 v.2.1 a1 v.2.2.1 ra rb v.2.2.2.1 v.2.2.2.2) A) A) (by decide) (Nat.le_of_ble_eq_true rfl) ?_
  intro p e s m below meth c A ls hx hb hr hlk hml htb hts hown hA hP hK hD hE hS hl
  have hown : s.vm.findClass RL = some m.cls := hown
  have hg : ∀ w ∈ lw_g, w.before ([.ref h0, .ref ho] : List Value).toArray s = true := fun w h => hts w (List.mem_cons_of_mem _ h)
  have hC : CallFix p m c cL_undo 3 s ([.ref h0, .ref ho] : List Value).toArray lw_g RL := ⟨hx, hb, hml, hown, hg⟩
  have hl : lv_has ls 3 [(0, .ref h0), (1, .ref ho)] := hl
  refine lv_aload_n hx hb dL_undo_0 rfl (lv_at hl 1 rfl) ?_
  refine lv_iconst (v := (0 : Int32)) hx hb dL_undo_1 (by decide) ?_
  refine lv_aload_n hx hb dL_undo_2 rfl (lv_at hl 0 rfl) ?_
  refine kXi (As := []) (rest := [.int (0 : Int32), .ref ho]) hC (c_X5_undo hlf (G := G) hf) kq4_206 kc_X5_undo (by decide) 0 (ci := 3) rfl rfl hP hK hD hE hS hA (out := (fun v : Ob × Ob × (Nat → Ob) × (Nat → Ob) => [(ho, .inl (G.2.2.1 2, 1, .inr (.inl fo)))] ++ wAll G h0 a0 v.1 a1 v.2.1 ra rb v.2.2.1 v.2.2.2)) (wr := [(ho, .inl (G.2.2.1 2, 1, .inr (.inl fo)))]) List.perm_append_comm (fun _ => List.perm_append_comm) hl.1 (Nat.le_of_ble_eq_true rfl) ⟨Nat.le_of_ble_eq_true rfl, Nat.le_of_ble_eq_true rfl⟩ dL_undo_3 (fun k E u9 q9 ce H locs hkE hw hP hD hS h1 h2 h3 => ?_) (fun r9 u9 H locs hw hP hD hS => ?_)
  · obtain ⟨v0, v1, v2, v3⟩ := u9
    have hw : q = (.inl k, (v0, v1, v2, v3)) := hw
    subst hw
    have hk := hk k rfl
    subst hk
    cases hkE
    refine vx_catch (name := "java/lang/IllegalStateException") (E := "java/lang/IllegalStateException") hown [] ⟨0, 8, 11, 13⟩ [] htb (fun z h => absurd h List.not_mem_nil) (by decide) (by decide) (hg _ kq2_106) ((hE.2.2.2.2.2.1 "java/lang/IllegalStateException" (by decide +kernel)).use rfl) h1 h2 h3 ?_
    refine lv_astore_n (lv' := [(2, .ref q9), (0, .ref h0), (1, .ref ho)]) hx hb dL_undo_11 rfl hl (by decide) rfl (fun ls hl => ?_)
    refine lv_iconst (v := (1 : Int32)) hx hb dL_undo_12 (by decide) ?_
    refine W.widen (k := 1) (n := 6) (by decide) (by decide) ?_
    exact e_i (post := (fun (r : Int32) (v : (Nat → Int64) × Ob × Ob × (Nat → Ob) × (Nat → Ob)) => hc 0 ((.inl 0, (v0, v1, v2, v3)) : (Nat ⊕ Int32) × Ob × Ob × (Nat → Ob) × (Nat → Ob)).1 = r ∧ (hoI fo ((.inl 0, (v0, v1, v2, v3)) : (Nat ⊕ Int32) × Ob × Ob × (Nat → Ob) × (Nat → Ob)).1, ((.inl 0, (v0, v1, v2, v3)) : (Nat ⊕ Int32) × Ob × Ob × (Nat → Ob) × (Nat → Ob)).2) = v)) (wf := (fun v : (Nat → Int64) × Ob × Ob × (Nat → Ob) × (Nat → Ob) => [(ho, .inl (G.2.2.1 2, 1, .inr (.inl v.1)))] ++ wAll G h0 a0 v.2.1 a1 v.2.2.1 ra rb v.2.2.2.1 v.2.2.2.2)) hx hb hr hlk (fo, v0, v1, v2, v3) ⟨rfl, rfl⟩ hP hK hD hS dL_undo_13
  · have hw : q = (.inr r9, u9) := hw
    subst hw
    refine lv_i2l (v := r9.toInt64) hx hb dL_undo_6 rfl ?_
    refine va_last (f := fo) hx hb hK hP hD hS 0 2 rfl rfl (vin (by decide)) dL_undo_7 (fun H locs hP hD hS => ?_)
    have hP : va_P (gD G) vwCl ([(ho, .inl (G.2.2.1 2, 1, .inr (.inl (vp_updL fo (0 : Int32).toNatClampNeg r9.toInt64))))] ++ wAll G h0 a0 u9.1 a1 u9.2.1 ra rb u9.2.2.1 u9.2.2.2) H := hP
    have hD : va_D A ([(ho, .inl (G.2.2.1 2, 1, .inr (.inl (vp_updL fo (0 : Int32).toNatClampNeg r9.toInt64))))] ++ wAll G h0 a0 u9.1 a1 u9.2.1 ra rb u9.2.2.1 u9.2.2.2) := hD
    refine lv_goto (tgt := 14) hx hb dL_undo_8 (by decide) ?_
    refine lv_iconst (v := (0 : Int32)) hx hb dL_undo_14 (by decide) ?_
    refine W.widen (k := 1) (n := 6) (by decide) (by decide) ?_
    exact e_i (post := (fun (r : Int32) (v : (Nat → Int64) × Ob × Ob × (Nat → Ob) × (Nat → Ob)) => hc 0 ((.inr r9, u9) : (Nat ⊕ Int32) × Ob × Ob × (Nat → Ob) × (Nat → Ob)).1 = r ∧ (hoI fo ((.inr r9, u9) : (Nat ⊕ Int32) × Ob × Ob × (Nat → Ob) × (Nat → Ob)).1, ((.inr r9, u9) : (Nat ⊕ Int32) × Ob × Ob × (Nat → Ob) × (Nat → Ob)).2) = v)) (wf := (fun v : (Nat → Int64) × Ob × Ob × (Nat → Ob) × (Nat → Ob) => [(ho, .inl (G.2.2.1 2, 1, .inr (.inl v.1)))] ++ wAll G h0 a0 v.2.1 a1 v.2.2.1 ra rb v.2.2.2.1 v.2.2.2.2)) hx hb hr hlk ((vp_updL fo (0 : Int32).toNatClampNeg r9.toInt64), u9) ⟨rfl, rfl⟩ hP hK hD hS dL_undo_15
theorem kc_L_undo : Cond.static yL_undo ∈ lw_g ∧ Cond.initialized yL_undo.cls ∈ lw_g ∧ Cond.codeWith yL_undo cL_undo 3 (some .int) [(0, 8, 11, 13)] ∈ lw_g ∧ yL_undo.cls ≠ "java/lang/invoke/MethodHandle" ∧ yL_undo.cls ≠ "java/lang/invoke/VarHandle" ∧ (parseMethodDescriptor yL_undo.desc).map (fun d => d.parameters.length) = some 2 := ⟨kq4_204, kq1_0, kq4_205, by decide +kernel, by decide +kernel, by decide +kernel⟩
theorem dL_writeTime_0 : decode cL_writeTime 0 = .ok (.aload_n 2, 1) := by decide +kernel
theorem dL_writeTime_1 : decode cL_writeTime 1 = .ok (.iconst 0, 1) := by decide +kernel
theorem dL_writeTime_2 : decode cL_writeTime 2 = .ok (.aload_n 0, 1) := by decide +kernel
theorem dL_writeTime_3 : decode cL_writeTime 3 = .ok (.iload_n 1, 1) := by decide +kernel
theorem dL_writeTime_4 : decode cL_writeTime 4 = .ok (.invokevirtual 86, 3) := by decide +kernel
theorem dL_writeTime_7 : decode cL_writeTime 7 = .ok (.i2l, 1) := by decide +kernel
theorem dL_writeTime_8 : decode cL_writeTime 8 = .ok (.lastore, 1) := by decide +kernel
theorem dL_writeTime_9 : decode cL_writeTime 9 = .ok (.goto 6, 3) := by decide +kernel
theorem dL_writeTime_12 : decode cL_writeTime 12 = .ok (.astore_n 3, 1) := by decide +kernel
theorem dL_writeTime_13 : decode cL_writeTime 13 = .ok (.iconst 1, 1) := by decide +kernel
theorem dL_writeTime_14 : decode cL_writeTime 14 = .ok (.ireturn, 1) := by decide +kernel
theorem dL_writeTime_15 : decode cL_writeTime 15 = .ok (.iconst 0, 1) := by decide +kernel
theorem dL_writeTime_16 : decode cL_writeTime 16 = .ok (.ireturn, 1) := by decide +kernel
set_option maxRecDepth 100000 in
set_option maxHeartbeats 4000000 in
theorem c_L_writeTime {l : Launch} (hlf : l.stackTraces = false) {G : Gp} {sz N : Nat} {x1 : Int32} {h0 : Nat} {a0 a1 : Nat → Nat} {ra rb : Nat → Nat → Nat} {u0 u1 : Ob} {u2 u3 : Nat → Ob} {ho : Nat} {fo : Nat → Int64} {q : (Nat ⊕ Int32) × Ob × Ob × (Nat → Ob) × (Nat → Ob)} (hf : f_X5_writeTime N x1 u0 u1 u2 u3 = some q) (hk : ∀ k, q.1 = .inl k → k = 1) : Met l yL_writeTime (Cond.codeWith yL_writeTime cL_writeTime 4 (some .int) [(0, 9, 12, 19)] :: lw_g) ({ frames := 7, cells := 1, slots := 6, locals := 112 } : Room) (va_Pc [.ref h0, .int x1, .ref ho] (pw G ([(ho, .inl (G.2.2.1 2, 1, .inr (.inl fo)))] ++ wAll G h0 a0 u0 a1 u1 ra rb u2 u3) sz)) (va_Qi (fun (r : Int32) (v : (Nat → Int64) × Ob × Ob × (Nat → Ob) × (Nat → Ob)) => hc 1 q.1 = r ∧ (hoI fo q.1, q.2) = v) (bw G (fun v : (Nat → Int64) × Ob × Ob × (Nat → Ob) × (Nat → Ob) => [(ho, .inl (G.2.2.1 2, 1, .inr (.inl v.1)))] ++ wAll G h0 a0 v.2.1 a1 v.2.2.1 ra rb v.2.2.2.1 v.2.2.2.2) (va_A ([(ho, .inl (G.2.2.1 2, 1, .inr (.inl fo)))] ++ wAll G h0 a0 u0 a1 u1 ra rb u2 u3) sz)) (va_A ([(ho, .inl (G.2.2.1 2, 1, .inr (.inl fo)))] ++ wAll G h0 a0 u0 a1 u1 ra rb u2 u3) sz)) 1 6 (va_A ([(ho, .inl (G.2.2.1 2, 1, .inr (.inl fo)))] ++ wAll G h0 a0 u0 a1 u1 ra rb u2 u3) sz) := by
  refine mtw (y := yL_writeTime) (maxL := 4) (av := [.ref h0, .int x1, .ref ho]) (Qc := fun A => va_Qi (fun (r : Int32) (v : (Nat → Int64) × Ob × Ob × (Nat → Ob) × (Nat → Ob)) => hc 1 q.1 = r ∧ (hoI fo q.1, q.2) = v) (bw G (fun v : (Nat → Int64) × Ob × Ob × (Nat → Ob) × (Nat → Ob) => [(ho, .inl (G.2.2.1 2, 1, .inr (.inl v.1)))] ++ wAll G h0 a0 v.2.1 a1 v.2.2.1 ra rb v.2.2.2.1 v.2.2.2.2) A) A) (by decide) (Nat.le_of_ble_eq_true rfl) ?_
  intro p e s m below meth c A ls hx hb hr hlk hml htb hts hown hA hP hK hD hE hS hl
  have hown : s.vm.findClass RL = some m.cls := hown
  have hg : ∀ w ∈ lw_g, w.before ([.ref h0, .int x1, .ref ho] : List Value).toArray s = true := fun w h => hts w (List.mem_cons_of_mem _ h)
  have hC : CallFix p m c cL_writeTime 4 s ([.ref h0, .int x1, .ref ho] : List Value).toArray lw_g RL := ⟨hx, hb, hml, hown, hg⟩
  have hl : lv_has ls 4 [(0, .ref h0), (1, .int x1), (2, .ref ho)] := hl
  refine lv_aload_n hx hb dL_writeTime_0 rfl (lv_at hl 2 rfl) ?_
  refine lv_iconst (v := (0 : Int32)) hx hb dL_writeTime_1 (by decide) ?_
  refine lv_aload_n hx hb dL_writeTime_2 rfl (lv_at hl 0 rfl) ?_
  refine lv_iload_n hx hb dL_writeTime_3 rfl (lv_at hl 1 rfl) ?_
  refine kXi (As := [.int x1]) (rest := [.int (0 : Int32), .ref ho]) hC (c_X5_writeTime hlf (G := G) hf) kq4_183 kc_X5_writeTime (by decide) 0 (ci := 3) rfl rfl hP hK hD hE hS hA (out := (fun v : Ob × Ob × (Nat → Ob) × (Nat → Ob) => [(ho, .inl (G.2.2.1 2, 1, .inr (.inl fo)))] ++ wAll G h0 a0 v.1 a1 v.2.1 ra rb v.2.2.1 v.2.2.2)) (wr := [(ho, .inl (G.2.2.1 2, 1, .inr (.inl fo)))]) List.perm_append_comm (fun _ => List.perm_append_comm) hl.1 (Nat.le_of_ble_eq_true rfl) ⟨Nat.le_of_ble_eq_true rfl, Nat.le_of_ble_eq_true rfl⟩ dL_writeTime_4 (fun k E u9 q9 ce H locs hkE hw hP hD hS h1 h2 h3 => ?_) (fun r9 u9 H locs hw hP hD hS => ?_)
  · obtain ⟨v0, v1, v2, v3⟩ := u9
    have hw : q = (.inl k, (v0, v1, v2, v3)) := hw
    subst hw
    have hk := hk k rfl
    subst hk
    cases hkE
    refine vx_catch (name := "java/lang/IllegalArgumentException") (E := "java/lang/IllegalArgumentException") hown [] ⟨0, 9, 12, 19⟩ [] htb (fun z h => absurd h List.not_mem_nil) (by decide) (by decide) (hg _ kq2_186) ((hE.2.2.2.2.2.1 "java/lang/IllegalArgumentException" (by decide +kernel)).use rfl) h1 h2 h3 ?_
    refine lv_astore_n (lv' := [(3, .ref q9), (0, .ref h0), (1, .int x1), (2, .ref ho)]) hx hb dL_writeTime_12 rfl hl (by decide) rfl (fun ls hl => ?_)
    refine lv_iconst (v := (1 : Int32)) hx hb dL_writeTime_13 (by decide) ?_
    refine W.widen (k := 1) (n := 6) (by decide) (by decide) ?_
    exact e_i (post := (fun (r : Int32) (v : (Nat → Int64) × Ob × Ob × (Nat → Ob) × (Nat → Ob)) => hc 1 ((.inl 1, (v0, v1, v2, v3)) : (Nat ⊕ Int32) × Ob × Ob × (Nat → Ob) × (Nat → Ob)).1 = r ∧ (hoI fo ((.inl 1, (v0, v1, v2, v3)) : (Nat ⊕ Int32) × Ob × Ob × (Nat → Ob) × (Nat → Ob)).1, ((.inl 1, (v0, v1, v2, v3)) : (Nat ⊕ Int32) × Ob × Ob × (Nat → Ob) × (Nat → Ob)).2) = v)) (wf := (fun v : (Nat → Int64) × Ob × Ob × (Nat → Ob) × (Nat → Ob) => [(ho, .inl (G.2.2.1 2, 1, .inr (.inl v.1)))] ++ wAll G h0 a0 v.2.1 a1 v.2.2.1 ra rb v.2.2.2.1 v.2.2.2.2)) hx hb hr hlk (fo, v0, v1, v2, v3) ⟨rfl, rfl⟩ hP hK hD hS dL_writeTime_14
  · have hw : q = (.inr r9, u9) := hw
    subst hw
    refine lv_i2l (v := r9.toInt64) hx hb dL_writeTime_7 rfl ?_
    refine va_last (f := fo) hx hb hK hP hD hS 0 2 rfl rfl (vin (by decide)) dL_writeTime_8 (fun H locs hP hD hS => ?_)
    have hP : va_P (gD G) vwCl ([(ho, .inl (G.2.2.1 2, 1, .inr (.inl (vp_updL fo (0 : Int32).toNatClampNeg r9.toInt64))))] ++ wAll G h0 a0 u9.1 a1 u9.2.1 ra rb u9.2.2.1 u9.2.2.2) H := hP
    have hD : va_D A ([(ho, .inl (G.2.2.1 2, 1, .inr (.inl (vp_updL fo (0 : Int32).toNatClampNeg r9.toInt64))))] ++ wAll G h0 a0 u9.1 a1 u9.2.1 ra rb u9.2.2.1 u9.2.2.2) := hD
    refine lv_goto (tgt := 15) hx hb dL_writeTime_9 (by decide) ?_
    refine lv_iconst (v := (0 : Int32)) hx hb dL_writeTime_15 (by decide) ?_
    refine W.widen (k := 1) (n := 6) (by decide) (by decide) ?_
    exact e_i (post := (fun (r : Int32) (v : (Nat → Int64) × Ob × Ob × (Nat → Ob) × (Nat → Ob)) => hc 1 ((.inr r9, u9) : (Nat ⊕ Int32) × Ob × Ob × (Nat → Ob) × (Nat → Ob)).1 = r ∧ (hoI fo ((.inr r9, u9) : (Nat ⊕ Int32) × Ob × Ob × (Nat → Ob) × (Nat → Ob)).1, ((.inr r9, u9) : (Nat ⊕ Int32) × Ob × Ob × (Nat → Ob) × (Nat → Ob)).2) = v)) (wf := (fun v : (Nat → Int64) × Ob × Ob × (Nat → Ob) × (Nat → Ob) => [(ho, .inl (G.2.2.1 2, 1, .inr (.inl v.1)))] ++ wAll G h0 a0 v.2.1 a1 v.2.2.1 ra rb v.2.2.2.1 v.2.2.2.2)) hx hb hr hlk ((vp_updL fo (0 : Int32).toNatClampNeg r9.toInt64), u9) ⟨rfl, rfl⟩ hP hK hD hS dL_writeTime_16
theorem kc_L_writeTime : Cond.static yL_writeTime ∈ lw_g ∧ Cond.initialized yL_writeTime.cls ∈ lw_g ∧ Cond.codeWith yL_writeTime cL_writeTime 4 (some .int) [(0, 9, 12, 19)] ∈ lw_g ∧ yL_writeTime.cls ≠ "java/lang/invoke/MethodHandle" ∧ yL_writeTime.cls ≠ "java/lang/invoke/VarHandle" ∧ (parseMethodDescriptor yL_writeTime.desc).map (fun d => d.parameters.length) = some 3 := ⟨kq4_181, kq1_0, kq4_182, by decide +kernel, by decide +kernel, by decide +kernel⟩
theorem dL_writtenByte_0 : decode cL_writtenByte 0 = .ok (.aload_n 2, 1) := by decide +kernel
theorem dL_writtenByte_1 : decode cL_writtenByte 1 = .ok (.iconst 0, 1) := by decide +kernel
theorem dL_writtenByte_2 : decode cL_writtenByte 2 = .ok (.aload_n 0, 1) := by decide +kernel
theorem dL_writtenByte_3 : decode cL_writtenByte 3 = .ok (.iload_n 1, 1) := by decide +kernel
theorem dL_writtenByte_4 : decode cL_writtenByte 4 = .ok (.invokevirtual 89, 3) := by decide +kernel
theorem dL_writtenByte_7 : decode cL_writtenByte 7 = .ok (.i2l, 1) := by decide +kernel
theorem dL_writtenByte_8 : decode cL_writtenByte 8 = .ok (.lastore, 1) := by decide +kernel
theorem dL_writtenByte_9 : decode cL_writtenByte 9 = .ok (.goto 6, 3) := by decide +kernel
theorem dL_writtenByte_12 : decode cL_writtenByte 12 = .ok (.astore_n 3, 1) := by decide +kernel
theorem dL_writtenByte_13 : decode cL_writtenByte 13 = .ok (.iconst 1, 1) := by decide +kernel
theorem dL_writtenByte_14 : decode cL_writtenByte 14 = .ok (.ireturn, 1) := by decide +kernel
theorem dL_writtenByte_15 : decode cL_writtenByte 15 = .ok (.iconst 0, 1) := by decide +kernel
theorem dL_writtenByte_16 : decode cL_writtenByte 16 = .ok (.ireturn, 1) := by decide +kernel
set_option maxRecDepth 100000 in
set_option maxHeartbeats 4000000 in
theorem c_L_writtenByte {l : Launch} (hlf : l.stackTraces = false) {G : Gp} {sz N : Nat} {x1 : Int32} {h0 : Nat} {a0 a1 : Nat → Nat} {ra rb : Nat → Nat → Nat} {u0 u1 : Ob} {u2 u3 : Nat → Ob} {ho : Nat} {fo : Nat → Int64} {q : (Nat ⊕ Int32) × Ob × Ob × (Nat → Ob) × (Nat → Ob)} (hf : f_X5_writtenByte N x1 u0 u1 u2 u3 = some q) (hk : ∀ k, q.1 = .inl k → k = 2) : Met l yL_writtenByte (Cond.codeWith yL_writtenByte cL_writtenByte 4 (some .int) [(0, 9, 12, 45)] :: lw_g) ({ frames := 7, cells := 1, slots := 6, locals := 111 } : Room) (va_Pc [.ref h0, .int x1, .ref ho] (pw G ([(ho, .inl (G.2.2.1 2, 1, .inr (.inl fo)))] ++ wAll G h0 a0 u0 a1 u1 ra rb u2 u3) sz)) (va_Qi (fun (r : Int32) (v : (Nat → Int64) × Ob × Ob × (Nat → Ob) × (Nat → Ob)) => hc 2 q.1 = r ∧ (hoI fo q.1, q.2) = v) (bw G (fun v : (Nat → Int64) × Ob × Ob × (Nat → Ob) × (Nat → Ob) => [(ho, .inl (G.2.2.1 2, 1, .inr (.inl v.1)))] ++ wAll G h0 a0 v.2.1 a1 v.2.2.1 ra rb v.2.2.2.1 v.2.2.2.2) (va_A ([(ho, .inl (G.2.2.1 2, 1, .inr (.inl fo)))] ++ wAll G h0 a0 u0 a1 u1 ra rb u2 u3) sz)) (va_A ([(ho, .inl (G.2.2.1 2, 1, .inr (.inl fo)))] ++ wAll G h0 a0 u0 a1 u1 ra rb u2 u3) sz)) 1 6 (va_A ([(ho, .inl (G.2.2.1 2, 1, .inr (.inl fo)))] ++ wAll G h0 a0 u0 a1 u1 ra rb u2 u3) sz) := by
  refine mtw (y := yL_writtenByte) (maxL := 4) (av := [.ref h0, .int x1, .ref ho]) (Qc := fun A => va_Qi (fun (r : Int32) (v : (Nat → Int64) × Ob × Ob × (Nat → Ob) × (Nat → Ob)) => hc 2 q.1 = r ∧ (hoI fo q.1, q.2) = v) (bw G (fun v : (Nat → Int64) × Ob × Ob × (Nat → Ob) × (Nat → Ob) => [(ho, .inl (G.2.2.1 2, 1, .inr (.inl v.1)))] ++ wAll G h0 a0 v.2.1 a1 v.2.2.1 ra rb v.2.2.2.1 v.2.2.2.2) A) A) (by decide) (Nat.le_of_ble_eq_true rfl) ?_
  intro p e s m below meth c A ls hx hb hr hlk hml htb hts hown hA hP hK hD hE hS hl
  have hown : s.vm.findClass RL = some m.cls := hown
  have hg : ∀ w ∈ lw_g, w.before ([.ref h0, .int x1, .ref ho] : List Value).toArray s = true := fun w h => hts w (List.mem_cons_of_mem _ h)
  have hC : CallFix p m c cL_writtenByte 4 s ([.ref h0, .int x1, .ref ho] : List Value).toArray lw_g RL := ⟨hx, hb, hml, hown, hg⟩
  have hl : lv_has ls 4 [(0, .ref h0), (1, .int x1), (2, .ref ho)] := hl
  refine lv_aload_n hx hb dL_writtenByte_0 rfl (lv_at hl 2 rfl) ?_
  refine lv_iconst (v := (0 : Int32)) hx hb dL_writtenByte_1 (by decide) ?_
  refine lv_aload_n hx hb dL_writtenByte_2 rfl (lv_at hl 0 rfl) ?_
  refine lv_iload_n hx hb dL_writtenByte_3 rfl (lv_at hl 1 rfl) ?_
  refine kXi (As := [.int x1]) (rest := [.int (0 : Int32), .ref ho]) hC (c_X5_writtenByte hlf (G := G) hf) kq4_198 kc_X5_writtenByte (by decide) 0 (ci := 3) rfl rfl hP hK hD hE hS hA (out := (fun v : Ob × Ob × (Nat → Ob) × (Nat → Ob) => [(ho, .inl (G.2.2.1 2, 1, .inr (.inl fo)))] ++ wAll G h0 a0 v.1 a1 v.2.1 ra rb v.2.2.1 v.2.2.2)) (wr := [(ho, .inl (G.2.2.1 2, 1, .inr (.inl fo)))]) List.perm_append_comm (fun _ => List.perm_append_comm) hl.1 (Nat.le_of_ble_eq_true rfl) ⟨Nat.le_of_ble_eq_true rfl, Nat.le_of_ble_eq_true rfl⟩ dL_writtenByte_4 (fun k E u9 q9 ce H locs hkE hw hP hD hS h1 h2 h3 => ?_) (fun r9 u9 H locs hw hP hD hS => ?_)
  · obtain ⟨v0, v1, v2, v3⟩ := u9
    have hw : q = (.inl k, (v0, v1, v2, v3)) := hw
    subst hw
    have hk := hk k rfl
    subst hk
    cases hkE
    refine vx_catch (name := "java/lang/IndexOutOfBoundsException") (E := "java/lang/IndexOutOfBoundsException") hown [] ⟨0, 9, 12, 45⟩ [] htb (fun z h => absurd h List.not_mem_nil) (by decide) (by decide) (hg _ kq4_16) ((hE.2.2.2.2.2.1 "java/lang/IndexOutOfBoundsException" (by decide +kernel)).use rfl) h1 h2 h3 ?_
    refine lv_astore_n (lv' := [(3, .ref q9), (0, .ref h0), (1, .int x1), (2, .ref ho)]) hx hb dL_writtenByte_12 rfl hl (by decide) rfl (fun ls hl => ?_)
    refine lv_iconst (v := (1 : Int32)) hx hb dL_writtenByte_13 (by decide) ?_
    refine W.widen (k := 1) (n := 6) (by decide) (by decide) ?_
    exact e_i (post := (fun (r : Int32) (v : (Nat → Int64) × Ob × Ob × (Nat → Ob) × (Nat → Ob)) => hc 2 ((.inl 2, (v0, v1, v2, v3)) : (Nat ⊕ Int32) × Ob × Ob × (Nat → Ob) × (Nat → Ob)).1 = r ∧ (hoI fo ((.inl 2, (v0, v1, v2, v3)) : (Nat ⊕ Int32) × Ob × Ob × (Nat → Ob) × (Nat → Ob)).1, ((.inl 2, (v0, v1, v2, v3)) : (Nat ⊕ Int32) × Ob × Ob × (Nat → Ob) × (Nat → Ob)).2) = v)) (wf := (fun v : (Nat → Int64) × Ob × Ob × (Nat → Ob) × (Nat → Ob) => [(ho, .inl (G.2.2.1 2, 1, .inr (.inl v.1)))] ++ wAll G h0 a0 v.2.1 a1 v.2.2.1 ra rb v.2.2.2.1 v.2.2.2.2)) hx hb hr hlk (fo, v0, v1, v2, v3) ⟨rfl, rfl⟩ hP hK hD hS dL_writtenByte_14
  · have hw : q = (.inr r9, u9) := hw
    subst hw
    refine lv_i2l (v := r9.toInt64) hx hb dL_writtenByte_7 rfl ?_
    refine va_last (f := fo) hx hb hK hP hD hS 0 2 rfl rfl (vin (by decide)) dL_writtenByte_8 (fun H locs hP hD hS => ?_)
    have hP : va_P (gD G) vwCl ([(ho, .inl (G.2.2.1 2, 1, .inr (.inl (vp_updL fo (0 : Int32).toNatClampNeg r9.toInt64))))] ++ wAll G h0 a0 u9.1 a1 u9.2.1 ra rb u9.2.2.1 u9.2.2.2) H := hP
    have hD : va_D A ([(ho, .inl (G.2.2.1 2, 1, .inr (.inl (vp_updL fo (0 : Int32).toNatClampNeg r9.toInt64))))] ++ wAll G h0 a0 u9.1 a1 u9.2.1 ra rb u9.2.2.1 u9.2.2.2) := hD
    refine lv_goto (tgt := 15) hx hb dL_writtenByte_9 (by decide) ?_
    refine lv_iconst (v := (0 : Int32)) hx hb dL_writtenByte_15 (by decide) ?_
    refine W.widen (k := 1) (n := 6) (by decide) (by decide) ?_
    exact e_i (post := (fun (r : Int32) (v : (Nat → Int64) × Ob × Ob × (Nat → Ob) × (Nat → Ob)) => hc 2 ((.inr r9, u9) : (Nat ⊕ Int32) × Ob × Ob × (Nat → Ob) × (Nat → Ob)).1 = r ∧ (hoI fo ((.inr r9, u9) : (Nat ⊕ Int32) × Ob × Ob × (Nat → Ob) × (Nat → Ob)).1, ((.inr r9, u9) : (Nat ⊕ Int32) × Ob × Ob × (Nat → Ob) × (Nat → Ob)).2) = v)) (wf := (fun v : (Nat → Int64) × Ob × Ob × (Nat → Ob) × (Nat → Ob) => [(ho, .inl (G.2.2.1 2, 1, .inr (.inl v.1)))] ++ wAll G h0 a0 v.2.1 a1 v.2.2.1 ra rb v.2.2.2.1 v.2.2.2.2)) hx hb hr hlk ((vp_updL fo (0 : Int32).toNatClampNeg r9.toInt64), u9) ⟨rfl, rfl⟩ hP hK hD hS dL_writtenByte_16
theorem kc_L_writtenByte : Cond.static yL_writtenByte ∈ lw_g ∧ Cond.initialized yL_writtenByte.cls ∈ lw_g ∧ Cond.codeWith yL_writtenByte cL_writtenByte 4 (some .int) [(0, 9, 12, 45)] ∈ lw_g ∧ yL_writtenByte.cls ≠ "java/lang/invoke/MethodHandle" ∧ yL_writtenByte.cls ≠ "java/lang/invoke/VarHandle" ∧ (parseMethodDescriptor yL_writtenByte.desc).map (fun d => d.parameters.length) = some 3 := ⟨kq4_196, kq1_0, kq4_197, by decide +kernel, by decide +kernel, by decide +kernel⟩
