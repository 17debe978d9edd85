theorem mti {l : Launch} {y : MethodName} {rm : Room} {cc : ByteArray} {maxL : Nat} {ret : Option FieldType} {av : List Value} {G : Gp} {w : va_W} {sz : Nat} {Qc : (Nat → Prop) → Array Value → State → Outcome → State → Prop} {mc ms : Nat}
    (hy : plainName y.cls = true) (hn : (lg_sl av).length ≤ maxL)
    (body : ∀ (p : Program) (e : Env) (s : State) (m : MethodId) (below : List Frame) (meth : Method) (c : Code) (A : Nat → Prop) (ls : Array Slot), meth.name = y.name → p.tables.exec = Jvm.exec → c.code = cc → meth.sig.returnType = ret → meth.locks = false → c.maxLocals = maxL → (∀ w ∈ Cond.code y cc maxL ret :: lw_g, w.before av.toArray s = true) → s.vm.findClass y.cls = some m.cls → (∀ q : Nat, s.heap.size ≤ q → A q) → va_P (gD G) vwCl w s.heap → va_K (gD G) vwCl (gT G) s → va_D A w → Ev (gE G) A s → va_S A s.heap s.heap [] → lv_has ls maxL (lv_args 0 av) →
      W p l e rm s m av.toArray below meth c s.heap [] 0 0 (MQ below (Qc A) av.toArray s mc ms A) (F0 m 0 ls [])) :
    Met l y (Cond.code y cc maxL ret :: lw_g) rm (va_Pc av (pw G w sz)) (Qc (va_A w sz)) mc ms (va_A w sz) := by
  refine Met.ofW (cc := cc) (maxL := maxL) (ret := ret) hy rfl ?_
  intro p e s m args below meth c s₁ B hml hv
  obtain ⟨rfl, hsz, hP, hK, hD0, hE⟩ := hv
  subst hsz
  have hD := hD0.self (sz := s.heap.size)
  have hts := atoms_spec (ws := Cond.code y cc maxL ret :: lw_g) B.pre
  rw [lg_entry_eq]
  exact body p e s m below meth c (va_A w s.heap.size) _ (name_of_methodNamed B.named B.method).1 B.exec B.bytes B.returns B.notSynchronized hml hts (findClass_of_methodNamed B.named) (fun q h => Or.inr h) hP hK hD hE va_S.rf (lv_entry av hn)
section IN
variable {p : Program} {l : Launch} {e : Env} {R : Room} {s : State} {m : MethodId} {args : Array Value} {below : List Frame} {meth : Method} {c : Code} {H : Heap} {locs : List Loc} {cells slots : Nat} {Q : State → Prop}
variable {cc : ByteArray} {pc : Nat} {ls : Array Slot} {rest : List Value} {A : Nat → Prop} {G : Gp}
/-- a new row of numbers -/
theorem nwA (hx : p.tables.exec = Jvm.exec) (hb : c.code = cc) {atype : ArrayType} {ty : FieldType} (hg : ∀ w ∈ lw_g, w.before args s = true) (harr : Cond.arrayClass (newarray.typeOf atype) ∈ lw_g) (hty : newarray.typeOf atype = ty) (t0 : Nat) {cy : ClassId} (ht : (gT G)[t0]? = some (cy, ty)) (hra : ∀ (U : State) (cA : ClassId), va_RA U cA ty = (U.vm.findClass ("[" ++ ty.toString) = some cA))
    {ws : va_W} (hK : va_K (gD G) vwCl (gT G) s) (hP : va_P (gD G) vwCl ws H) (hD : va_D A ws) (hS : va_S A s.heap H locs) (hA : ∀ q, s.heap.size ≤ q → A q)
    {n : Int32} {N' : Nat} {a0 : vp_A} (ha : ∀ cA : ClassId, vp_cell cA a0 = arrV cA N' (fun _ => defaultValue ty)) (hn : ¬ n < 0) (hN : n.toNatClampNeg = N') (hbytes : N' * componentBytes ty ≤ 536870912) (hcells : cells + 1 ≤ R.cells) (hslots : slots + N' ≤ R.slots) (hdg : decode cc pc = .ok (.newarray atype, 2))
    (kk : ∀ (q : Nat) (H1 : Heap), va_P (gD G) vwCl (ws ++ [(q, .inl (cy, a0))]) H1 → va_D A (ws ++ [(q, .inl (cy, a0))]) → va_S A s.heap H1 locs → W p l e R s m args below meth c H1 locs (cells + 1) (slots + N') Q (F0 m (pc + 2) ls (.ref q :: rest))) :
    W p l e R s m args below meth c H locs cells slots Q (F0 m pc ls (.int n :: rest)) := by
  refine va_newa hx hb (hg _ harr) hty hK hP hD hS hA ha hn hN hbytes hcells hslots hdg (fun q cA H1 hK1 hP1 hD1 hS1 => ?_)
  have h1 := (hK1.2 (gT G).length (cA, ty) (by simp)).2
  have h2 := (hK.2 t0 (cy, ty) ht).2
  rw [hra] at h1 h2
  have e : cA = cy := Option.some.inj (h1.symm.trans h2)
  subst e
  exact kk q H1 hP1 hD1 hS1

theorem kIn {S : Type} {post : S → Prop} {wf : S → va_W} {y y2 : MethodName} {c2 : ByteArray} {n2 nL idx mc ms b : Nat} {ret : Option FieldType} {own : String} {rm : Room} {ws wc wr : va_W} {As : List Value} (hS0 : CallFix p m c cc nL s args (Cond.code y cc nL ret :: lw_g) own)
    (hM : Met l y2 (Cond.code y2 c2 n2 none :: lw_g) rm (va_Pc (.ref b :: As) (pw G wc H.size)) (va_Qv post (bw G wf (va_A wc H.size)) (va_A wc H.size)) mc ms (va_A wc H.size))
    (kn : va_Nw (.methodLinkNest own idx y2 "RadioClock") s) (kc : Cond.instanceMethod y2 ∈ lw_g ∧ Cond.initialized y2.cls ∈ lw_g ∧ Cond.code y2 c2 n2 none ∈ lw_g ∧ y2.cls ≠ "java/lang/invoke/MethodHandle" ∧ y2.cls ≠ "java/lang/invoke/VarHandle" ∧ (parseMethodDescriptor y2.desc).map (fun d => d.parameters.length) = some As.length) (hy : y2.name = "<init>") (hrm : rm.cells = mc ∧ rm.slots = ms ∧ rm.frames + 1 ≤ R.frames ∧ 8 + (n2 + 11) + rm.locals ≤ R.locals)
    (hP : va_P (gD G) vwCl ws H) (hK : va_K (gD G) vwCl (gT G) s) (hD : va_D A ws) (hE : Ev (gE G) A s) (hS : va_S A s.heap H locs) (hA : ∀ q : Nat, s.heap.size ≤ q → A q) {out : S → va_W} (hp : ws.Perm (wc ++ wr)) (ho : ∀ u, (wf u ++ wr).Perm (out u)) (hls : ls.size = nL) (hW : (rest.map fun v => v.category).sum ≤ 8) (hcs : cells + mc ≤ R.cells ∧ slots + ms ≤ R.slots) (hdg : decode cc pc = .ok (.invokespecial idx, 3))
    (kk : ∀ (u : S) (H1 : Heap) (locs1 : List Loc), post u → va_P (gD G) vwCl (out u) H1 → va_D A (out u) → va_S A s.heap H1 locs1 → W p l e R s m args below meth c H1 locs1 (cells + mc) (slots + ms) Q (F0 m (pc + 3) ls rest)) :
    W p l e R s m args below meth c H locs cells slots Q (F0 m pc ls (As.reverse ++ .ref b :: rest)) := by
  have hPp := va_P_perm hP hp
  have hDp := va_D_perm hD hp
  have hPc : va_P (gD G) vwCl wc H := va_P_mem hPp fun q hq => List.mem_append_left _ hq
  have hDc := va_D_l hDp
  have hF : ∀ q, va_A wc H.size q → A q := fun q h => h.elim (fun ⟨k, e, h⟩ => hDc.2 k (q, e) h) (fun h => hA q (Nat.le_trans hS.1 h))
  have hg : ∀ w ∈ lw_g, w.before args s = true := fun w h => hS0.2.2.2.2 _ (List.mem_cons_of_mem _ h)
  refine va_callv (va_runIN (As := As) (rest := rest) hS0 hM ⟨va_cnB As.length hS0.2.2.2.2 (kgg kc.2.2.1) rfl hrm.1 hrm.2.1 kn (hg _ kc.2.1) kc.2.2.2 hrm.2.2, hy, hg _ kc.1⟩ ⟨pw_blind, fun U hU hW => pw_pre (ws := wc) hPc hDc hK hE hS hF hU hW⟩ rfl rfl hls rfl (lv_room hW) hdg hcs) hS (fun q _ h => hF q h) hF (fun u t H1 locs1 ht hvm hw hB hz1 hk1 hS1 => ?_)
  obtain ⟨hP1, hK1, hD1⟩ := hB
  rw [ht] at hP1
  obtain ⟨hP2, hD2⟩ := joinA hPp hDp hk1 hF hP1 hD1
  exact kk u H1 locs1 hw (va_P_perm hP2 (ho u)) (va_D_perm hD2 (ho u)) hS1
theorem kIp {S : Type} {post : S → Prop} {wf : S → va_W} {y y2 : MethodName} {c2 : ByteArray} {n2 nL idx mc ms b : Nat} {ret : Option FieldType} {own : String} {rm : Room} {ws wc wr : va_W} {As : List Value} (hS0 : CallFix p m c cc nL s args (Cond.code y cc nL ret :: lw_g) own)
    (hM : Met l y2 (Cond.code y2 c2 n2 none :: lw_g) rm (va_Pc (.ref b :: As) (pw G wc H.size)) (va_Qv post (bw G wf (va_A wc H.size)) (va_A wc H.size)) mc ms (va_A wc H.size))
    (kn : Cond.methodLink own idx y2 ∈ lw_g) (kc : Cond.instanceMethod y2 ∈ lw_g ∧ Cond.initialized y2.cls ∈ lw_g ∧ Cond.code y2 c2 n2 none ∈ lw_g ∧ y2.cls ≠ "java/lang/invoke/MethodHandle" ∧ y2.cls ≠ "java/lang/invoke/VarHandle" ∧ (parseMethodDescriptor y2.desc).map (fun d => d.parameters.length) = some As.length) (hy : y2.name = "<init>") (hrm : rm.cells = mc ∧ rm.slots = ms ∧ rm.frames + 1 ≤ R.frames ∧ 8 + (n2 + 11) + rm.locals ≤ R.locals)
    (hP : va_P (gD G) vwCl ws H) (hK : va_K (gD G) vwCl (gT G) s) (hD : va_D A ws) (hE : Ev (gE G) A s) (hS : va_S A s.heap H locs) (hA : ∀ q : Nat, s.heap.size ≤ q → A q) {out : S → va_W} (hp : ws.Perm (wc ++ wr)) (ho : ∀ u, (wf u ++ wr).Perm (out u)) (hls : ls.size = nL) (hW : (rest.map fun v => v.category).sum ≤ 8) (hcs : cells + mc ≤ R.cells ∧ slots + ms ≤ R.slots) (hdg : decode cc pc = .ok (.invokespecial idx, 3))
    (kk : ∀ (u : S) (H1 : Heap) (locs1 : List Loc), post u → va_P (gD G) vwCl (out u) H1 → va_D A (out u) → va_S A s.heap H1 locs1 → W p l e R s m args below meth c H1 locs1 (cells + mc) (slots + ms) Q (F0 m (pc + 3) ls rest)) :
    W p l e R s m args below meth c H locs cells slots Q (F0 m pc ls (As.reverse ++ .ref b :: rest)) := by
  have hPp := va_P_perm hP hp
  have hDp := va_D_perm hD hp
  have hPc : va_P (gD G) vwCl wc H := va_P_mem hPp fun q hq => List.mem_append_left _ hq
  have hDc := va_D_l hDp
  have hF : ∀ q, va_A wc H.size q → A q := fun q h => h.elim (fun ⟨k, e, h⟩ => hDc.2 k (q, e) h) (fun h => hA q (Nat.le_trans hS.1 h))
  have hg : ∀ w ∈ lw_g, w.before args s = true := fun w h => hS0.2.2.2.2 _ (List.mem_cons_of_mem _ h)
  refine va_callv (va_runI (As := As) (rest := rest) hS0 hM ⟨callB_of As.length hS0.2.2.2.2 (kgg kc.2.2.1) rfl hrm.1 hrm.2.1 (hg _ kc.2.1) (hg _ kn) kc.2.2.2 hrm.2.2, hy, hg _ kc.1⟩ ⟨pw_blind, fun U hU hW => pw_pre (ws := wc) hPc hDc hK hE hS hF hU hW⟩ rfl rfl hls rfl (lv_room hW) hdg hcs) hS (fun q _ h => hF q h) hF (fun u t H1 locs1 ht hvm hw hB hz1 hk1 hS1 => ?_)
  obtain ⟨hP1, hK1, hD1⟩ := hB
  rw [ht] at hP1
  obtain ⟨hP2, hD2⟩ := joinA hPp hDp hk1 hF hP1 hD1
  exact kk u H1 locs1 hw (va_P_perm hP2 (ho u)) (va_D_perm hD2 (ho u)) hS1
end IN
theorem arr_i (n : Nat) : ∀ cA : ClassId, vp_cell cA (n, .inl fun _ => 0) = arrV cA n (fun _ => defaultValue .int) := fun _ => rfl
theorem arr_b (n : Nat) : ∀ cA : ClassId, vp_cell cA (n, .inl fun _ => 0) = arrV cA n (fun _ => defaultValue .byte) := fun _ => rfl
theorem arr_z (n : Nat) : ∀ cA : ClassId, vp_cell cA (n, .inl fun _ => 0) = arrV cA n (fun _ => defaultValue .boolean) := fun _ => rfl
theorem arr_j (n : Nat) : ∀ cA : ClassId, vp_cell cA (n, .inr (.inl fun _ => 0)) = arrV cA n (fun _ => defaultValue .long) := fun _ => rfl
abbrev zz : Ob := (fun _ => 0, fun _ => 0, fun _ _ => 0, fun _ _ => 0)
def aS0 : Nat → Int32 := upd (upd (upd (upd (upd (fun _ => 0) (0 : Int32).toNatClampNeg 100) (1 : Int32).toNatClampNeg 3) (2 : Int32).toNatClampNeg 5) (3 : Int32).toNatClampNeg 0) (4 : Int32).toNatClampNeg 0
def iX0 : Ob := zz
def iX3 : Ob := oi zz 6 (-1)
def iX4 : Ob := oi (oi (oi (oi (oi (oa zz 0 aS0) 1 (-1)) 2 (-1)) 4 (-1)) 5 60) 12 (-1)
def iX6 : Ob := oi zz 17 (-1)
theorem dX0_init_0 : decode cX0_init 0 = .ok (.aload_n 0, 1) := by decide +kernel
theorem dX0_init_1 : decode cX0_init 1 = .ok (.invokespecial 3, 3) := by decide +kernel
theorem dX0_init_4 : decode cX0_init 4 = .ok (.aload_n 0, 1) := by decide +kernel
theorem dX0_init_5 : decode cX0_init 5 = .ok (.bipush 8, 2) := by decide +kernel
theorem dX0_init_7 : decode cX0_init 7 = .ok (.newarray .int, 2) := by decide +kernel
theorem dX0_init_9 : decode cX0_init 9 = .ok (.putfield 9, 3) := by decide +kernel
theorem dX0_init_12 : decode cX0_init 12 = .ok (.return_, 1) := by decide +kernel
theorem kc_X0_init : Cond.instanceMethod yX0_init ∈ lw_g ∧ Cond.initialized yX0_init.cls ∈ lw_g ∧ Cond.code yX0_init cX0_init 1 none ∈ lw_g ∧ yX0_init.cls ≠ "java/lang/invoke/MethodHandle" ∧ yX0_init.cls ≠ "java/lang/invoke/VarHandle" ∧ (parseMethodDescriptor yX0_init.desc).map (fun d => d.parameters.length) = some 0 := ⟨kq1_39, kq1_3, kq1_40, by decide +kernel, by decide +kernel, by decide +kernel⟩
set_option maxRecDepth 100000 in
set_option maxHeartbeats 4000000 in
theorem c_X0_init {l : Launch} {G : Gp} {sz h0 : Nat} : Met l yX0_init (Cond.code yX0_init cX0_init 1 none :: lw_g) ({ frames := 1, cells := 1, slots := 8, locals := 13 } : Room) (va_Pc [.ref h0] (pw G [(h0, .inr (0, [.null, .int 0]))] sz)) (va_Qv (fun v : (Nat → Nat) × Ob => v.2 = iX0) (bw G (fun v : (Nat → Nat) × Ob => wX0 G h0 v.1 v.2) (va_A [(h0, .inr (0, [.null, .int 0]))] sz)) (va_A [(h0, .inr (0, [.null, .int 0]))] sz)) 1 8 (va_A [(h0, .inr (0, [.null, .int 0]))] sz) := by
  refine mti (Qc := fun A => va_Qv (fun v : (Nat → Nat) × Ob => v.2 = iX0) (bw G (fun v : (Nat → Nat) × Ob => wX0 G h0 v.1 v.2) A) A) (by decide) (Nat.le_of_ble_eq_true rfl) ?_
  intro p e s m below meth c A ls hin hx hb hr hlk hml hts hown hA hP hK hD hE hS hl
  have hown : s.vm.findClass RX0 = some m.cls := hown
  have hg : ∀ w ∈ lw_g, w.before ([.ref h0] : List Value).toArray s = true := fun w h => hts w (List.mem_cons_of_mem _ h)
  have hC : CallFix p m c cX0_init 1 s ([.ref h0] : List Value).toArray (Cond.code yX0_init cX0_init 1 none :: lw_g) RX0 := ⟨hx, hb, hml, hown, hts⟩
  have hl : lv_has ls 1 [(0, .ref h0)] := hl
  refine lv_aload_n hx hb dX0_init_0 rfl (lv_at hl 0 rfl) ?_
  refine W.objInit hx hb hown (hg _ kq1_41) (hg _ kq1_28) (hg _ kq1_29) rfl (by rw [hml]; exact hl.1) rfl dX0_init_1 (Nat.le_of_ble_eq_true rfl) (Nat.le_of_ble_eq_true rfl) ?_
  refine W.eq (g2 := F0 m 4 ls []) rfl ?_
  refine lv_aload_n hx hb dX0_init_4 rfl (lv_at hl 0 rfl) ?_
  refine lv_bipush (v := (8 : Int32)) hx hb dX0_init_5 (by decide) ?_
  refine nwA (atype := .int) (t0 := 1) (a0 := (8, .inl fun _ => 0)) hx hb hg kq1_50 rfl rfl (fun _ _ => rfl) hK hP hD hS hA (arr_i 8) (by decide) (by decide) (by decide) (Nat.le_of_ble_eq_true rfl) (Nat.le_of_ble_eq_true rfl) dX0_init_7 (fun q7 H hP hD hS => ?_)
  have hP : va_P (gD G) vwCl ([(h0, .inr (0, [.null, .int 0])), (q7, .inl (G.2.2.1 1, 8, .inl fun _ => 0))]) H := hP
  have hD : va_D A ([(h0, .inr (0, [.null, .int 0])), (q7, .inl (G.2.2.1 1, 8, .inl fun _ => 0))]) := hD
  refine va_putF (D := gD G) (ci := 0) (v := .ref q7) (ty := .array .int) (C := RX0) (T := TX0) (N := 2) hx hb hg kl_X0 tyX0 tyX0_ok nmX0 hown hK hP hD hS 0 rfl rfl 0 (by decide) (hg _ kq1_42) (fun _ h9 => h9) rfl hin rfl (by decide +kernel) rfl rfl (Nat.le_of_ble_eq_true rfl) dX0_init_9 (fun H locs hP hD hS => ?_)
  have hP : va_P (gD G) vwCl ([(h0, .inr (0, [.ref q7, .int 0])), (q7, .inl (G.2.2.1 1, 8, .inl fun _ => 0))]) H := hP
  have hD : va_D A ([(h0, .inr (0, [.ref q7, .int 0])), (q7, .inl (G.2.2.1 1, 8, .inl fun _ => 0))]) := hD
  have hP : va_P (gD G) vwCl (wX0 G h0 (fun k : Nat => if k = 0 then q7 else 0) iX0) H := hP
  have hD : va_D A (wX0 G h0 (fun k : Nat => if k = 0 then q7 else 0) iX0) := hD
  refine W.widen (k := 1) (n := 8) (by decide) (by decide) ?_
  exact e_v (wf := fun v : (Nat → Nat) × Ob => wX0 G h0 v.1 v.2) hx hb hr hlk ((fun k : Nat => if k = 0 then q7 else 0), iX0) rfl hP hK hD hS dX0_init_12
theorem dX3_init_0 : decode cX3_init 0 = .ok (.aload_n 0, 1) := by decide +kernel
theorem dX3_init_1 : decode cX3_init 1 = .ok (.invokespecial 3, 3) := by decide +kernel
theorem dX3_init_4 : decode cX3_init 4 = .ok (.aload_n 0, 1) := by decide +kernel
theorem dX3_init_5 : decode cX3_init 5 = .ok (.sipush 600, 3) := by decide +kernel
theorem dX3_init_8 : decode cX3_init 8 = .ok (.newarray .byte, 2) := by decide +kernel
theorem dX3_init_10 : decode cX3_init 10 = .ok (.putfield 9, 3) := by decide +kernel
theorem dX3_init_13 : decode cX3_init 13 = .ok (.aload_n 0, 1) := by decide +kernel
theorem dX3_init_14 : decode cX3_init 14 = .ok (.iconst (-1), 1) := by decide +kernel
theorem dX3_init_15 : decode cX3_init 15 = .ok (.putfield 15, 3) := by decide +kernel
theorem dX3_init_18 : decode cX3_init 18 = .ok (.return_, 1) := by decide +kernel
theorem kc_X3_init : Cond.instanceMethod yX3_init ∈ lw_g ∧ Cond.initialized yX3_init.cls ∈ lw_g ∧ Cond.code yX3_init cX3_init 1 none ∈ lw_g ∧ yX3_init.cls ≠ "java/lang/invoke/MethodHandle" ∧ yX3_init.cls ≠ "java/lang/invoke/VarHandle" ∧ (parseMethodDescriptor yX3_init.desc).map (fun d => d.parameters.length) = some 0 := ⟨kq1_129, kq1_4, kq1_130, by decide +kernel, by decide +kernel, by decide +kernel⟩
set_option maxRecDepth 100000 in
set_option maxHeartbeats 4000000 in
theorem c_X3_init {l : Launch} {G : Gp} {sz h0 : Nat} : Met l yX3_init (Cond.code yX3_init cX3_init 1 none :: lw_g) ({ frames := 1, cells := 1, slots := 600, locals := 13 } : Room) (va_Pc [.ref h0] (pw G [(h0, .inr (1, [.null, .int 0, .int 0, .int 0, .int 0, .int 0, .int 0, .int 0, .int 0, .int 0, .int 0, .long 0]))] sz)) (va_Qv (fun v : (Nat → Nat) × Ob => v.2 = iX3) (bw G (fun v : (Nat → Nat) × Ob => wX3 G h0 v.1 v.2) (va_A [(h0, .inr (1, [.null, .int 0, .int 0, .int 0, .int 0, .int 0, .int 0, .int 0, .int 0, .int 0, .int 0, .long 0]))] sz)) (va_A [(h0, .inr (1, [.null, .int 0, .int 0, .int 0, .int 0, .int 0, .int 0, .int 0, .int 0, .int 0, .int 0, .long 0]))] sz)) 1 600 (va_A [(h0, .inr (1, [.null, .int 0, .int 0, .int 0, .int 0, .int 0, .int 0, .int 0, .int 0, .int 0, .int 0, .long 0]))] sz) := by
  refine mti (Qc := fun A => va_Qv (fun v : (Nat → Nat) × Ob => v.2 = iX3) (bw G (fun v : (Nat → Nat) × Ob => wX3 G h0 v.1 v.2) A) A) (by decide) (Nat.le_of_ble_eq_true rfl) ?_
  intro p e s m below meth c A ls hin hx hb hr hlk hml hts hown hA hP hK hD hE hS hl
  have hown : s.vm.findClass RX3 = some m.cls := hown
  have hg : ∀ w ∈ lw_g, w.before ([.ref h0] : List Value).toArray s = true := fun w h => hts w (List.mem_cons_of_mem _ h)
  have hC : CallFix p m c cX3_init 1 s ([.ref h0] : List Value).toArray (Cond.code yX3_init cX3_init 1 none :: lw_g) RX3 := ⟨hx, hb, hml, hown, hts⟩
  have hl : lv_has ls 1 [(0, .ref h0)] := hl
  refine lv_aload_n hx hb dX3_init_0 rfl (lv_at hl 0 rfl) ?_
  refine W.objInit hx hb hown (hg _ kq1_131) (hg _ kq1_28) (hg _ kq1_29) rfl (by rw [hml]; exact hl.1) rfl dX3_init_1 (Nat.le_of_ble_eq_true rfl) (Nat.le_of_ble_eq_true rfl) ?_
  refine W.eq (g2 := F0 m 4 ls []) rfl ?_
  refine lv_aload_n hx hb dX3_init_4 rfl (lv_at hl 0 rfl) ?_
  refine lv_sipush (v := (600 : Int32)) hx hb dX3_init_5 (by decide) ?_
  refine nwA (atype := .byte) (t0 := 0) (a0 := (600, .inl fun _ => 0)) hx hb hg kq1_178 rfl rfl (fun _ _ => rfl) hK hP hD hS hA (arr_b 600) (by decide) (by decide) (by decide) (Nat.le_of_ble_eq_true rfl) (Nat.le_of_ble_eq_true rfl) dX3_init_8 (fun q8 H hP hD hS => ?_)
  have hP : va_P (gD G) vwCl ([(h0, .inr (1, [.null, .int 0, .int 0, .int 0, .int 0, .int 0, .int 0, .int 0, .int 0, .int 0, .int 0, .long 0])), (q8, .inl (G.2.2.1 0, 600, .inl fun _ => 0))]) H := hP
  have hD : va_D A ([(h0, .inr (1, [.null, .int 0, .int 0, .int 0, .int 0, .int 0, .int 0, .int 0, .int 0, .int 0, .int 0, .long 0])), (q8, .inl (G.2.2.1 0, 600, .inl fun _ => 0))]) := hD
  refine va_putF (D := gD G) (ci := 1) (v := .ref q8) (ty := .array .byte) (C := RX3) (T := TX3) (N := 12) hx hb hg kl_X3 tyX3 tyX3_ok nmX3 hown hK hP hD hS 0 rfl rfl 0 (by decide) (hg _ kq1_132) (fun _ h9 => h9) rfl hin rfl (by decide +kernel) rfl rfl (Nat.le_of_ble_eq_true rfl) dX3_init_10 (fun H locs hP hD hS => ?_)
  have hP : va_P (gD G) vwCl ([(h0, .inr (1, [.ref q8, .int 0, .int 0, .int 0, .int 0, .int 0, .int 0, .int 0, .int 0, .int 0, .int 0, .long 0])), (q8, .inl (G.2.2.1 0, 600, .inl fun _ => 0))]) H := hP
  have hD : va_D A ([(h0, .inr (1, [.ref q8, .int 0, .int 0, .int 0, .int 0, .int 0, .int 0, .int 0, .int 0, .int 0, .int 0, .long 0])), (q8, .inl (G.2.2.1 0, 600, .inl fun _ => 0))]) := hD
  refine lv_aload_n hx hb dX3_init_13 rfl (lv_at hl 0 rfl) ?_
  refine lv_iconst (v := (-1 : Int32)) hx hb dX3_init_14 (by decide) ?_
  refine va_put (D := gD G) (ci := 1) (v := .int (-1 : Int32)) (ty := .int) (C := RX3) (T := TX3) (N := 12) hx hb hg kl_X3 tyX3 tyX3_ok nmX3 hown hK hP hD hS 0 rfl rfl 6 (by decide) (hg _ kq1_140) (fun _ h9 => h9) rfl (by decide +kernel) rfl rfl (Nat.le_of_ble_eq_true rfl) dX3_init_15 (fun H locs hP hD hS => ?_)
  have hP : va_P (gD G) vwCl ([(h0, .inr (1, [.ref q8, .int 0, .int 0, .int 0, .int 0, .int 0, .int (-1 : Int32), .int 0, .int 0, .int 0, .int 0, .long 0])), (q8, .inl (G.2.2.1 0, 600, .inl fun _ => 0))]) H := hP
  have hD : va_D A ([(h0, .inr (1, [.ref q8, .int 0, .int 0, .int 0, .int 0, .int 0, .int (-1 : Int32), .int 0, .int 0, .int 0, .int 0, .long 0])), (q8, .inl (G.2.2.1 0, 600, .inl fun _ => 0))]) := hD
  have hP : va_P (gD G) vwCl (wX3 G h0 (fun k : Nat => if k = 0 then q8 else 0) iX3) H := hP
  have hD : va_D A (wX3 G h0 (fun k : Nat => if k = 0 then q8 else 0) iX3) := hD
  refine W.widen (k := 1) (n := 600) (by decide) (by decide) ?_
  exact e_v (wf := fun v : (Nat → Nat) × Ob => wX3 G h0 v.1 v.2) hx hb hr hlk ((fun k : Nat => if k = 0 then q8 else 0), iX3) rfl hP hK hD hS dX3_init_18
theorem dX4_init_0 : decode cX4_init 0 = .ok (.aload_n 0, 1) := by decide +kernel
theorem dX4_init_1 : decode cX4_init 1 = .ok (.invokespecial 3, 3) := by decide +kernel
theorem dX4_init_4 : decode cX4_init 4 = .ok (.aload_n 0, 1) := by decide +kernel
theorem dX4_init_5 : decode cX4_init 5 = .ok (.iconst 5, 1) := by decide +kernel
theorem dX4_init_6 : decode cX4_init 6 = .ok (.newarray .int, 2) := by decide +kernel
theorem dX4_init_8 : decode cX4_init 8 = .ok (.dup, 1) := by decide +kernel
theorem dX4_init_9 : decode cX4_init 9 = .ok (.iconst 0, 1) := by decide +kernel
theorem dX4_init_10 : decode cX4_init 10 = .ok (.bipush 100, 2) := by decide +kernel
theorem dX4_init_12 : decode cX4_init 12 = .ok (.iastore, 1) := by decide +kernel
theorem dX4_init_13 : decode cX4_init 13 = .ok (.dup, 1) := by decide +kernel
theorem dX4_init_14 : decode cX4_init 14 = .ok (.iconst 1, 1) := by decide +kernel
theorem dX4_init_15 : decode cX4_init 15 = .ok (.iconst 3, 1) := by decide +kernel
theorem dX4_init_16 : decode cX4_init 16 = .ok (.iastore, 1) := by decide +kernel
theorem dX4_init_17 : decode cX4_init 17 = .ok (.dup, 1) := by decide +kernel
theorem dX4_init_18 : decode cX4_init 18 = .ok (.iconst 2, 1) := by decide +kernel
theorem dX4_init_19 : decode cX4_init 19 = .ok (.iconst 5, 1) := by decide +kernel
theorem dX4_init_20 : decode cX4_init 20 = .ok (.iastore, 1) := by decide +kernel
theorem dX4_init_21 : decode cX4_init 21 = .ok (.dup, 1) := by decide +kernel
theorem dX4_init_22 : decode cX4_init 22 = .ok (.iconst 3, 1) := by decide +kernel
theorem dX4_init_23 : decode cX4_init 23 = .ok (.iconst 0, 1) := by decide +kernel
theorem dX4_init_24 : decode cX4_init 24 = .ok (.iastore, 1) := by decide +kernel
theorem dX4_init_25 : decode cX4_init 25 = .ok (.dup, 1) := by decide +kernel
theorem dX4_init_26 : decode cX4_init 26 = .ok (.iconst 4, 1) := by decide +kernel
theorem dX4_init_27 : decode cX4_init 27 = .ok (.iconst 0, 1) := by decide +kernel
theorem dX4_init_28 : decode cX4_init 28 = .ok (.iastore, 1) := by decide +kernel
theorem dX4_init_29 : decode cX4_init 29 = .ok (.putfield 9, 3) := by decide +kernel
theorem dX4_init_32 : decode cX4_init 32 = .ok (.aload_n 0, 1) := by decide +kernel
theorem dX4_init_33 : decode cX4_init 33 = .ok (.iconst (-1), 1) := by decide +kernel
theorem dX4_init_34 : decode cX4_init 34 = .ok (.putfield 15, 3) := by decide +kernel
theorem dX4_init_37 : decode cX4_init 37 = .ok (.aload_n 0, 1) := by decide +kernel
theorem dX4_init_38 : decode cX4_init 38 = .ok (.iconst (-1), 1) := by decide +kernel
theorem dX4_init_39 : decode cX4_init 39 = .ok (.putfield 19, 3) := by decide +kernel
theorem dX4_init_42 : decode cX4_init 42 = .ok (.aload_n 0, 1) := by decide +kernel
theorem dX4_init_43 : decode cX4_init 43 = .ok (.iconst (-1), 1) := by decide +kernel
theorem dX4_init_44 : decode cX4_init 44 = .ok (.putfield 22, 3) := by decide +kernel
theorem dX4_init_47 : decode cX4_init 47 = .ok (.aload_n 0, 1) := by decide +kernel
theorem dX4_init_48 : decode cX4_init 48 = .ok (.bipush 60, 2) := by decide +kernel
theorem dX4_init_50 : decode cX4_init 50 = .ok (.putfield 25, 3) := by decide +kernel
theorem dX4_init_53 : decode cX4_init 53 = .ok (.aload_n 0, 1) := by decide +kernel
theorem dX4_init_54 : decode cX4_init 54 = .ok (.bipush 8, 2) := by decide +kernel
theorem dX4_init_56 : decode cX4_init 56 = .ok (.newarray .long, 2) := by decide +kernel
theorem dX4_init_58 : decode cX4_init 58 = .ok (.putfield 28, 3) := by decide +kernel
theorem dX4_init_61 : decode cX4_init 61 = .ok (.aload_n 0, 1) := by decide +kernel
theorem dX4_init_62 : decode cX4_init 62 = .ok (.bipush 8, 2) := by decide +kernel
theorem dX4_init_64 : decode cX4_init 64 = .ok (.newarray .long, 2) := by decide +kernel
theorem dX4_init_66 : decode cX4_init 66 = .ok (.putfield 32, 3) := by decide +kernel
theorem dX4_init_69 : decode cX4_init 69 = .ok (.aload_n 0, 1) := by decide +kernel
theorem dX4_init_70 : decode cX4_init 70 = .ok (.bipush 8, 2) := by decide +kernel
theorem dX4_init_72 : decode cX4_init 72 = .ok (.newarray .int, 2) := by decide +kernel
theorem dX4_init_74 : decode cX4_init 74 = .ok (.putfield 35, 3) := by decide +kernel
theorem dX4_init_77 : decode cX4_init 77 = .ok (.aload_n 0, 1) := by decide +kernel
theorem dX4_init_78 : decode cX4_init 78 = .ok (.iconst (-1), 1) := by decide +kernel
theorem dX4_init_79 : decode cX4_init 79 = .ok (.putfield 38, 3) := by decide +kernel
theorem dX4_init_82 : decode cX4_init 82 = .ok (.aload_n 0, 1) := by decide +kernel
theorem dX4_init_83 : decode cX4_init 83 = .ok (.bipush 8, 2) := by decide +kernel
theorem dX4_init_85 : decode cX4_init 85 = .ok (.newarray .int, 2) := by decide +kernel
theorem dX4_init_87 : decode cX4_init 87 = .ok (.putfield 41, 3) := by decide +kernel
theorem dX4_init_90 : decode cX4_init 90 = .ok (.aload_n 0, 1) := by decide +kernel
theorem dX4_init_91 : decode cX4_init 91 = .ok (.bipush 8, 2) := by decide +kernel
theorem dX4_init_93 : decode cX4_init 93 = .ok (.newarray .int, 2) := by decide +kernel
theorem dX4_init_95 : decode cX4_init 95 = .ok (.putfield 44, 3) := by decide +kernel
theorem dX4_init_98 : decode cX4_init 98 = .ok (.aload_n 0, 1) := by decide +kernel
theorem dX4_init_99 : decode cX4_init 99 = .ok (.new 47, 3) := by decide +kernel
theorem dX4_init_102 : decode cX4_init 102 = .ok (.dup, 1) := by decide +kernel
theorem dX4_init_103 : decode cX4_init 103 = .ok (.invokespecial 49, 3) := by decide +kernel
theorem dX4_init_106 : decode cX4_init 106 = .ok (.putfield 50, 3) := by decide +kernel
theorem dX4_init_109 : decode cX4_init 109 = .ok (.return_, 1) := by decide +kernel
theorem kc_X4_init : Cond.instanceMethod yX4_init ∈ lw_g ∧ Cond.initialized yX4_init.cls ∈ lw_g ∧ Cond.code yX4_init cX4_init 1 none ∈ lw_g ∧ yX4_init.cls ≠ "java/lang/invoke/MethodHandle" ∧ yX4_init.cls ≠ "java/lang/invoke/VarHandle" ∧ (parseMethodDescriptor yX4_init.desc).map (fun d => d.parameters.length) = some 0 := ⟨kq1_33, kq1_2, kq1_34, by decide +kernel, by decide +kernel, by decide +kernel⟩
set_option maxRecDepth 100000 in
set_option maxHeartbeats 4000000 in
theorem c_X4_init {l : Launch} {G : Gp} {sz h0 : Nat} : Met l yX4_init (Cond.code yX4_init cX4_init 1 none :: lw_g) ({ frames := 2, cells := 8, slots := 55, locals := 33 } : Room) (va_Pc [.ref h0] (pw G [(h0, .inr (2, [.null, .int 0, .int 0, .int 0, .int 0, .int 0, .long 0, .long 0, .null, .null, .null, .int 0, .int 0, .int 0, .null, .null, .int 0, .null]))] sz)) (va_Qv (fun v : (Nat → Nat) × (Nat → Nat) × Ob × Ob => v.2.2 = (iX4, iX0)) (bw G (fun v : (Nat → Nat) × (Nat → Nat) × Ob × Ob => wX4 G h0 v.1 v.2.2.1 ++ wX0 G (v.1 17) v.2.1 v.2.2.2) (va_A [(h0, .inr (2, [.null, .int 0, .int 0, .int 0, .int 0, .int 0, .long 0, .long 0, .null, .null, .null, .int 0, .int 0, .int 0, .null, .null, .int 0, .null]))] sz)) (va_A [(h0, .inr (2, [.null, .int 0, .int 0, .int 0, .int 0, .int 0, .long 0, .long 0, .null, .null, .null, .int 0, .int 0, .int 0, .null, .null, .int 0, .null]))] sz)) 8 55 (va_A [(h0, .inr (2, [.null, .int 0, .int 0, .int 0, .int 0, .int 0, .long 0, .long 0, .null, .null, .null, .int 0, .int 0, .int 0, .null, .null, .int 0, .null]))] sz) := by
  refine mti (Qc := fun A => va_Qv (fun v : (Nat → Nat) × (Nat → Nat) × Ob × Ob => v.2.2 = (iX4, iX0)) (bw G (fun v : (Nat → Nat) × (Nat → Nat) × Ob × Ob => wX4 G h0 v.1 v.2.2.1 ++ wX0 G (v.1 17) v.2.1 v.2.2.2) A) A) (by decide) (Nat.le_of_ble_eq_true rfl) ?_
  intro p e s m below meth c A ls hin hx hb hr hlk hml hts hown hA hP hK hD hE hS hl
  have hown : s.vm.findClass RX4 = some m.cls := hown
  have hg : ∀ w ∈ lw_g, w.before ([.ref h0] : List Value).toArray s = true := fun w h => hts w (List.mem_cons_of_mem _ h)
  have hC : CallFix p m c cX4_init 1 s ([.ref h0] : List Value).toArray (Cond.code yX4_init cX4_init 1 none :: lw_g) RX4 := ⟨hx, hb, hml, hown, hts⟩
  have hl : lv_has ls 1 [(0, .ref h0)] := hl
  refine lv_aload_n hx hb dX4_init_0 rfl (lv_at hl 0 rfl) ?_
  refine W.objInit hx hb hown (hg _ kq1_35) (hg _ kq1_28) (hg _ kq1_29) rfl (by rw [hml]; exact hl.1) rfl dX4_init_1 (Nat.le_of_ble_eq_true rfl) (Nat.le_of_ble_eq_true rfl) ?_
  refine W.eq (g2 := F0 m 4 ls []) rfl ?_
  refine lv_aload_n hx hb dX4_init_4 rfl (lv_at hl 0 rfl) ?_
  refine lv_iconst (v := (5 : Int32)) hx hb dX4_init_5 (by decide) ?_
  refine nwA (atype := .int) (t0 := 1) (a0 := (5, .inl fun _ => 0)) hx hb hg kq1_50 rfl rfl (fun _ _ => rfl) hK hP hD hS hA (arr_i 5) (by decide) (by decide) (by decide) (Nat.le_of_ble_eq_true rfl) (Nat.le_of_ble_eq_true rfl) dX4_init_6 (fun q6 H hP hD hS => ?_)
  have hP : va_P (gD G) vwCl ([(h0, .inr (2, [.null, .int 0, .int 0, .int 0, .int 0, .int 0, .long 0, .long 0, .null, .null, .null, .int 0, .int 0, .int 0, .null, .null, .int 0, .null])), (q6, .inl (G.2.2.1 1, 5, .inl fun _ => 0))]) H := hP
  have hD : va_D A ([(h0, .inr (2, [.null, .int 0, .int 0, .int 0, .int 0, .int 0, .long 0, .long 0, .null, .null, .null, .int 0, .int 0, .int 0, .null, .null, .int 0, .null])), (q6, .inl (G.2.2.1 1, 5, .inl fun _ => 0))]) := hD
  refine lv_dup hx hb dX4_init_8 rfl ?_
  refine lv_iconst (v := (0 : Int32)) hx hb dX4_init_9 (by decide) ?_
  refine lv_bipush (v := (100 : Int32)) hx hb dX4_init_10 (by decide) ?_
  refine va_iast (f := (fun _ => 0)) hx hb hK hP hD hS 1 1 rfl rfl (vin (by decide)) dX4_init_12 (fun H locs hP hD hS => ?_)
  have hP : va_P (gD G) vwCl ([(h0, .inr (2, [.null, .int 0, .int 0, .int 0, .int 0, .int 0, .long 0, .long 0, .null, .null, .null, .int 0, .int 0, .int 0, .null, .null, .int 0, .null])), (q6, .inl (G.2.2.1 1, 5, .inl (upd (fun _ => 0) (0 : Int32).toNatClampNeg (100 : Int32))))]) H := hP
  have hD : va_D A ([(h0, .inr (2, [.null, .int 0, .int 0, .int 0, .int 0, .int 0, .long 0, .long 0, .null, .null, .null, .int 0, .int 0, .int 0, .null, .null, .int 0, .null])), (q6, .inl (G.2.2.1 1, 5, .inl (upd (fun _ => 0) (0 : Int32).toNatClampNeg (100 : Int32))))]) := hD
  refine lv_dup hx hb dX4_init_13 rfl ?_
  refine lv_iconst (v := (1 : Int32)) hx hb dX4_init_14 (by decide) ?_
  refine lv_iconst (v := (3 : Int32)) hx hb dX4_init_15 (by decide) ?_
  refine va_iast (f := (upd (fun _ => 0) (0 : Int32).toNatClampNeg (100 : Int32))) hx hb hK hP hD hS 1 1 rfl rfl (vin (by decide)) dX4_init_16 (fun H locs hP hD hS => ?_)
  have hP : va_P (gD G) vwCl ([(h0, .inr (2, [.null, .int 0, .int 0, .int 0, .int 0, .int 0, .long 0, .long 0, .null, .null, .null, .int 0, .int 0, .int 0, .null, .null, .int 0, .null])), (q6, .inl (G.2.2.1 1, 5, .inl (upd (upd (fun _ => 0) (0 : Int32).toNatClampNeg (100 : Int32)) (1 : Int32).toNatClampNeg (3 : Int32))))]) H := hP
  have hD : va_D A ([(h0, .inr (2, [.null, .int 0, .int 0, .int 0, .int 0, .int 0, .long 0, .long 0, .null, .null, .null, .int 0, .int 0, .int 0, .null, .null, .int 0, .null])), (q6, .inl (G.2.2.1 1, 5, .inl (upd (upd (fun _ => 0) (0 : Int32).toNatClampNeg (100 : Int32)) (1 : Int32).toNatClampNeg (3 : Int32))))]) := hD
  refine lv_dup hx hb dX4_init_17 rfl ?_
  refine lv_iconst (v := (2 : Int32)) hx hb dX4_init_18 (by decide) ?_
  refine lv_iconst (v := (5 : Int32)) hx hb dX4_init_19 (by decide) ?_
  refine va_iast (f := (upd (upd (fun _ => 0) (0 : Int32).toNatClampNeg (100 : Int32)) (1 : Int32).toNatClampNeg (3 : Int32))) hx hb hK hP hD hS 1 1 rfl rfl (vin (by decide)) dX4_init_20 (fun H locs hP hD hS => ?_)
  have hP : va_P (gD G) vwCl ([(h0, .inr (2, [.null, .int 0, .int 0, .int 0, .int 0, .int 0, .long 0, .long 0, .null, .null, .null, .int 0, .int 0, .int 0, .null, .null, .int 0, .null])), (q6, .inl (G.2.2.1 1, 5, .inl (upd (upd (upd (fun _ => 0) (0 : Int32).toNatClampNeg (100 : Int32)) (1 : Int32).toNatClampNeg (3 : Int32)) (2 : Int32).toNatClampNeg (5 : Int32))))]) H := hP
  have hD : va_D A ([(h0, .inr (2, [.null, .int 0, .int 0, .int 0, .int 0, .int 0, .long 0, .long 0, .null, .null, .null, .int 0, .int 0, .int 0, .null, .null, .int 0, .null])), (q6, .inl (G.2.2.1 1, 5, .inl (upd (upd (upd (fun _ => 0) (0 : Int32).toNatClampNeg (100 : Int32)) (1 : Int32).toNatClampNeg (3 : Int32)) (2 : Int32).toNatClampNeg (5 : Int32))))]) := hD
  refine lv_dup hx hb dX4_init_21 rfl ?_
  refine lv_iconst (v := (3 : Int32)) hx hb dX4_init_22 (by decide) ?_
  refine lv_iconst (v := (0 : Int32)) hx hb dX4_init_23 (by decide) ?_
  refine va_iast (f := (upd (upd (upd (fun _ => 0) (0 : Int32).toNatClampNeg (100 : Int32)) (1 : Int32).toNatClampNeg (3 : Int32)) (2 : Int32).toNatClampNeg (5 : Int32))) hx hb hK hP hD hS 1 1 rfl rfl (vin (by decide)) dX4_init_24 (fun H locs hP hD hS => ?_)
  have hP : va_P (gD G) vwCl ([(h0, .inr (2, [.null, .int 0, .int 0, .int 0, .int 0, .int 0, .long 0, .long 0, .null, .null, .null, .int 0, .int 0, .int 0, .null, .null, .int 0, .null])), (q6, .inl (G.2.2.1 1, 5, .inl (upd (upd (upd (upd (fun _ => 0) (0 : Int32).toNatClampNeg (100 : Int32)) (1 : Int32).toNatClampNeg (3 : Int32)) (2 : Int32).toNatClampNeg (5 : Int32)) (3 : Int32).toNatClampNeg (0 : Int32))))]) H := hP
  have hD : va_D A ([(h0, .inr (2, [.null, .int 0, .int 0, .int 0, .int 0, .int 0, .long 0, .long 0, .null, .null, .null, .int 0, .int 0, .int 0, .null, .null, .int 0, .null])), (q6, .inl (G.2.2.1 1, 5, .inl (upd (upd (upd (upd (fun _ => 0) (0 : Int32).toNatClampNeg (100 : Int32)) (1 : Int32).toNatClampNeg (3 : Int32)) (2 : Int32).toNatClampNeg (5 : Int32)) (3 : Int32).toNatClampNeg (0 : Int32))))]) := hD
  refine lv_dup hx hb dX4_init_25 rfl ?_
  refine lv_iconst (v := (4 : Int32)) hx hb dX4_init_26 (by decide) ?_
  refine lv_iconst (v := (0 : Int32)) hx hb dX4_init_27 (by decide) ?_
  refine va_iast (f := (upd (upd (upd (upd (fun _ => 0) (0 : Int32).toNatClampNeg (100 : Int32)) (1 : Int32).toNatClampNeg (3 : Int32)) (2 : Int32).toNatClampNeg (5 : Int32)) (3 : Int32).toNatClampNeg (0 : Int32))) hx hb hK hP hD hS 1 1 rfl rfl (vin (by decide)) dX4_init_28 (fun H locs hP hD hS => ?_)
  have hP : va_P (gD G) vwCl ([(h0, .inr (2, [.null, .int 0, .int 0, .int 0, .int 0, .int 0, .long 0, .long 0, .null, .null, .null, .int 0, .int 0, .int 0, .null, .null, .int 0, .null])), (q6, .inl (G.2.2.1 1, 5, .inl (upd (upd (upd (upd (upd (fun _ => 0) (0 : Int32).toNatClampNeg (100 : Int32)) (1 : Int32).toNatClampNeg (3 : Int32)) (2 : Int32).toNatClampNeg (5 : Int32)) (3 : Int32).toNatClampNeg (0 : Int32)) (4 : Int32).toNatClampNeg (0 : Int32))))]) H := hP
  have hD : va_D A ([(h0, .inr (2, [.null, .int 0, .int 0, .int 0, .int 0, .int 0, .long 0, .long 0, .null, .null, .null, .int 0, .int 0, .int 0, .null, .null, .int 0, .null])), (q6, .inl (G.2.2.1 1, 5, .inl (upd (upd (upd (upd (upd (fun _ => 0) (0 : Int32).toNatClampNeg (100 : Int32)) (1 : Int32).toNatClampNeg (3 : Int32)) (2 : Int32).toNatClampNeg (5 : Int32)) (3 : Int32).toNatClampNeg (0 : Int32)) (4 : Int32).toNatClampNeg (0 : Int32))))]) := hD
  refine va_putF (D := gD G) (ci := 2) (v := .ref q6) (ty := .array .int) (C := RX4) (T := TX4) (N := 18) hx hb hg kl_X4 tyX4 tyX4_ok nmX4 hown hK hP hD hS 0 rfl rfl 0 (by decide) (hg _ kq1_52) (fun _ h9 => h9) rfl hin rfl (by decide +kernel) rfl rfl (Nat.le_of_ble_eq_true rfl) dX4_init_29 (fun H locs hP hD hS => ?_)
  have hP : va_P (gD G) vwCl ([(h0, .inr (2, [.ref q6, .int 0, .int 0, .int 0, .int 0, .int 0, .long 0, .long 0, .null, .null, .null, .int 0, .int 0, .int 0, .null, .null, .int 0, .null])), (q6, .inl (G.2.2.1 1, 5, .inl (upd (upd (upd (upd (upd (fun _ => 0) (0 : Int32).toNatClampNeg (100 : Int32)) (1 : Int32).toNatClampNeg (3 : Int32)) (2 : Int32).toNatClampNeg (5 : Int32)) (3 : Int32).toNatClampNeg (0 : Int32)) (4 : Int32).toNatClampNeg (0 : Int32))))]) H := hP
  have hD : va_D A ([(h0, .inr (2, [.ref q6, .int 0, .int 0, .int 0, .int 0, .int 0, .long 0, .long 0, .null, .null, .null, .int 0, .int 0, .int 0, .null, .null, .int 0, .null])), (q6, .inl (G.2.2.1 1, 5, .inl (upd (upd (upd (upd (upd (fun _ => 0) (0 : Int32).toNatClampNeg (100 : Int32)) (1 : Int32).toNatClampNeg (3 : Int32)) (2 : Int32).toNatClampNeg (5 : Int32)) (3 : Int32).toNatClampNeg (0 : Int32)) (4 : Int32).toNatClampNeg (0 : Int32))))]) := hD
  refine lv_aload_n hx hb dX4_init_32 rfl (lv_at hl 0 rfl) ?_
  refine lv_iconst (v := (-1 : Int32)) hx hb dX4_init_33 (by decide) ?_
  refine va_put (D := gD G) (ci := 2) (v := .int (-1 : Int32)) (ty := .int) (C := RX4) (T := TX4) (N := 18) hx hb hg kl_X4 tyX4 tyX4_ok nmX4 hown hK hP hD hS 0 rfl rfl 1 (by decide) (hg _ kq1_54) (fun _ h9 => h9) rfl (by decide +kernel) rfl rfl (Nat.le_of_ble_eq_true rfl) dX4_init_34 (fun H locs hP hD hS => ?_)
  have hP : va_P (gD G) vwCl ([(h0, .inr (2, [.ref q6, .int (-1 : Int32), .int 0, .int 0, .int 0, .int 0, .long 0, .long 0, .null, .null, .null, .int 0, .int 0, .int 0, .null, .null, .int 0, .null])), (q6, .inl (G.2.2.1 1, 5, .inl (upd (upd (upd (upd (upd (fun _ => 0) (0 : Int32).toNatClampNeg (100 : Int32)) (1 : Int32).toNatClampNeg (3 : Int32)) (2 : Int32).toNatClampNeg (5 : Int32)) (3 : Int32).toNatClampNeg (0 : Int32)) (4 : Int32).toNatClampNeg (0 : Int32))))]) H := hP
  have hD : va_D A ([(h0, .inr (2, [.ref q6, .int (-1 : Int32), .int 0, .int 0, .int 0, .int 0, .long 0, .long 0, .null, .null, .null, .int 0, .int 0, .int 0, .null, .null, .int 0, .null])), (q6, .inl (G.2.2.1 1, 5, .inl (upd (upd (upd (upd (upd (fun _ => 0) (0 : Int32).toNatClampNeg (100 : Int32)) (1 : Int32).toNatClampNeg (3 : Int32)) (2 : Int32).toNatClampNeg (5 : Int32)) (3 : Int32).toNatClampNeg (0 : Int32)) (4 : Int32).toNatClampNeg (0 : Int32))))]) := hD
  refine lv_aload_n hx hb dX4_init_37 rfl (lv_at hl 0 rfl) ?_
  refine lv_iconst (v := (-1 : Int32)) hx hb dX4_init_38 (by decide) ?_
  refine va_put (D := gD G) (ci := 2) (v := .int (-1 : Int32)) (ty := .int) (C := RX4) (T := TX4) (N := 18) hx hb hg kl_X4 tyX4 tyX4_ok nmX4 hown hK hP hD hS 0 rfl rfl 2 (by decide) (hg _ kq1_57) (fun _ h9 => h9) rfl (by decide +kernel) rfl rfl (Nat.le_of_ble_eq_true rfl) dX4_init_39 (fun H locs hP hD hS => ?_)
  have hP : va_P (gD G) vwCl ([(h0, .inr (2, [.ref q6, .int (-1 : Int32), .int (-1 : Int32), .int 0, .int 0, .int 0, .long 0, .long 0, .null, .null, .null, .int 0, .int 0, .int 0, .null, .null, .int 0, .null])), (q6, .inl (G.2.2.1 1, 5, .inl (upd (upd (upd (upd (upd (fun _ => 0) (0 : Int32).toNatClampNeg (100 : Int32)) (1 : Int32).toNatClampNeg (3 : Int32)) (2 : Int32).toNatClampNeg (5 : Int32)) (3 : Int32).toNatClampNeg (0 : Int32)) (4 : Int32).toNatClampNeg (0 : Int32))))]) H := hP
  have hD : va_D A ([(h0, .inr (2, [.ref q6, .int (-1 : Int32), .int (-1 : Int32), .int 0, .int 0, .int 0, .long 0, .long 0, .null, .null, .null, .int 0, .int 0, .int 0, .null, .null, .int 0, .null])), (q6, .inl (G.2.2.1 1, 5, .inl (upd (upd (upd (upd (upd (fun _ => 0) (0 : Int32).toNatClampNeg (100 : Int32)) (1 : Int32).toNatClampNeg (3 : Int32)) (2 : Int32).toNatClampNeg (5 : Int32)) (3 : Int32).toNatClampNeg (0 : Int32)) (4 : Int32).toNatClampNeg (0 : Int32))))]) := hD
  refine lv_aload_n hx hb dX4_init_42 rfl (lv_at hl 0 rfl) ?_
  refine lv_iconst (v := (-1 : Int32)) hx hb dX4_init_43 (by decide) ?_
  refine va_put (D := gD G) (ci := 2) (v := .int (-1 : Int32)) (ty := .int) (C := RX4) (T := TX4) (N := 18) hx hb hg kl_X4 tyX4 tyX4_ok nmX4 hown hK hP hD hS 0 rfl rfl 4 (by decide) (hg _ kq1_61) (fun _ h9 => h9) rfl (by decide +kernel) rfl rfl (Nat.le_of_ble_eq_true rfl) dX4_init_44 (fun H locs hP hD hS => ?_)
  have hP : va_P (gD G) vwCl ([(h0, .inr (2, [.ref q6, .int (-1 : Int32), .int (-1 : Int32), .int 0, .int (-1 : Int32), .int 0, .long 0, .long 0, .null, .null, .null, .int 0, .int 0, .int 0, .null, .null, .int 0, .null])), (q6, .inl (G.2.2.1 1, 5, .inl (upd (upd (upd (upd (upd (fun _ => 0) (0 : Int32).toNatClampNeg (100 : Int32)) (1 : Int32).toNatClampNeg (3 : Int32)) (2 : Int32).toNatClampNeg (5 : Int32)) (3 : Int32).toNatClampNeg (0 : Int32)) (4 : Int32).toNatClampNeg (0 : Int32))))]) H := hP
  have hD : va_D A ([(h0, .inr (2, [.ref q6, .int (-1 : Int32), .int (-1 : Int32), .int 0, .int (-1 : Int32), .int 0, .long 0, .long 0, .null, .null, .null, .int 0, .int 0, .int 0, .null, .null, .int 0, .null])), (q6, .inl (G.2.2.1 1, 5, .inl (upd (upd (upd (upd (upd (fun _ => 0) (0 : Int32).toNatClampNeg (100 : Int32)) (1 : Int32).toNatClampNeg (3 : Int32)) (2 : Int32).toNatClampNeg (5 : Int32)) (3 : Int32).toNatClampNeg (0 : Int32)) (4 : Int32).toNatClampNeg (0 : Int32))))]) := hD
  refine lv_aload_n hx hb dX4_init_47 rfl (lv_at hl 0 rfl) ?_
  refine lv_bipush (v := (60 : Int32)) hx hb dX4_init_48 (by decide) ?_
  refine va_put (D := gD G) (ci := 2) (v := .int (60 : Int32)) (ty := .int) (C := RX4) (T := TX4) (N := 18) hx hb hg kl_X4 tyX4 tyX4_ok nmX4 hown hK hP hD hS 0 rfl rfl 5 (by decide) (hg _ kq1_63) (fun _ h9 => h9) rfl (by decide +kernel) rfl rfl (Nat.le_of_ble_eq_true rfl) dX4_init_50 (fun H locs hP hD hS => ?_)
  have hP : va_P (gD G) vwCl ([(h0, .inr (2, [.ref q6, .int (-1 : Int32), .int (-1 : Int32), .int 0, .int (-1 : Int32), .int (60 : Int32), .long 0, .long 0, .null, .null, .null, .int 0, .int 0, .int 0, .null, .null, .int 0, .null])), (q6, .inl (G.2.2.1 1, 5, .inl (upd (upd (upd (upd (upd (fun _ => 0) (0 : Int32).toNatClampNeg (100 : Int32)) (1 : Int32).toNatClampNeg (3 : Int32)) (2 : Int32).toNatClampNeg (5 : Int32)) (3 : Int32).toNatClampNeg (0 : Int32)) (4 : Int32).toNatClampNeg (0 : Int32))))]) H := hP
  have hD : va_D A ([(h0, .inr (2, [.ref q6, .int (-1 : Int32), .int (-1 : Int32), .int 0, .int (-1 : Int32), .int (60 : Int32), .long 0, .long 0, .null, .null, .null, .int 0, .int 0, .int 0, .null, .null, .int 0, .null])), (q6, .inl (G.2.2.1 1, 5, .inl (upd (upd (upd (upd (upd (fun _ => 0) (0 : Int32).toNatClampNeg (100 : Int32)) (1 : Int32).toNatClampNeg (3 : Int32)) (2 : Int32).toNatClampNeg (5 : Int32)) (3 : Int32).toNatClampNeg (0 : Int32)) (4 : Int32).toNatClampNeg (0 : Int32))))]) := hD
  refine lv_aload_n hx hb dX4_init_53 rfl (lv_at hl 0 rfl) ?_
  refine lv_bipush (v := (8 : Int32)) hx hb dX4_init_54 (by decide) ?_
  refine nwA (atype := .long) (t0 := 2) (a0 := (8, .inr (.inl fun _ => 0))) hx hb hg kq1_51 rfl rfl (fun _ _ => rfl) hK hP hD hS hA (arr_j 8) (by decide) (by decide) (by decide) (Nat.le_of_ble_eq_true rfl) (Nat.le_of_ble_eq_true rfl) dX4_init_56 (fun q56 H hP hD hS => ?_)
  have hP : va_P (gD G) vwCl ([(h0, .inr (2, [.ref q6, .int (-1 : Int32), .int (-1 : Int32), .int 0, .int (-1 : Int32), .int (60 : Int32), .long 0, .long 0, .null, .null, .null, .int 0, .int 0, .int 0, .null, .null, .int 0, .null])), (q6, .inl (G.2.2.1 1, 5, .inl (upd (upd (upd (upd (upd (fun _ => 0) (0 : Int32).toNatClampNeg (100 : Int32)) (1 : Int32).toNatClampNeg (3 : Int32)) (2 : Int32).toNatClampNeg (5 : Int32)) (3 : Int32).toNatClampNeg (0 : Int32)) (4 : Int32).toNatClampNeg (0 : Int32)))), (q56, .inl (G.2.2.1 2, 8, .inr (.inl fun _ => 0)))]) H := hP
  have hD : va_D A ([(h0, .inr (2, [.ref q6, .int (-1 : Int32), .int (-1 : Int32), .int 0, .int (-1 : Int32), .int (60 : Int32), .long 0, .long 0, .null, .null, .null, .int 0, .int 0, .int 0, .null, .null, .int 0, .null])), (q6, .inl (G.2.2.1 1, 5, .inl (upd (upd (upd (upd (upd (fun _ => 0) (0 : Int32).toNatClampNeg (100 : Int32)) (1 : Int32).toNatClampNeg (3 : Int32)) (2 : Int32).toNatClampNeg (5 : Int32)) (3 : Int32).toNatClampNeg (0 : Int32)) (4 : Int32).toNatClampNeg (0 : Int32)))), (q56, .inl (G.2.2.1 2, 8, .inr (.inl fun _ => 0)))]) := hD
  refine va_putF (D := gD G) (ci := 2) (v := .ref q56) (ty := .array .long) (C := RX4) (T := TX4) (N := 18) hx hb hg kl_X4 tyX4 tyX4_ok nmX4 hown hK hP hD hS 0 rfl rfl 8 (by decide) (hg _ kq1_69) (fun _ h9 => h9) rfl hin rfl (by decide +kernel) rfl rfl (Nat.le_of_ble_eq_true rfl) dX4_init_58 (fun H locs hP hD hS => ?_)
  have hP : va_P (gD G) vwCl ([(h0, .inr (2, [.ref q6, .int (-1 : Int32), .int (-1 : Int32), .int 0, .int (-1 : Int32), .int (60 : Int32), .long 0, .long 0, .ref q56, .null, .null, .int 0, .int 0, .int 0, .null, .null, .int 0, .null])), (q6, .inl (G.2.2.1 1, 5, .inl (upd (upd (upd (upd (upd (fun _ => 0) (0 : Int32).toNatClampNeg (100 : Int32)) (1 : Int32).toNatClampNeg (3 : Int32)) (2 : Int32).toNatClampNeg (5 : Int32)) (3 : Int32).toNatClampNeg (0 : Int32)) (4 : Int32).toNatClampNeg (0 : Int32)))), (q56, .inl (G.2.2.1 2, 8, .inr (.inl fun _ => 0)))]) H := hP
  have hD : va_D A ([(h0, .inr (2, [.ref q6, .int (-1 : Int32), .int (-1 : Int32), .int 0, .int (-1 : Int32), .int (60 : Int32), .long 0, .long 0, .ref q56, .null, .null, .int 0, .int 0, .int 0, .null, .null, .int 0, .null])), (q6, .inl (G.2.2.1 1, 5, .inl (upd (upd (upd (upd (upd (fun _ => 0) (0 : Int32).toNatClampNeg (100 : Int32)) (1 : Int32).toNatClampNeg (3 : Int32)) (2 : Int32).toNatClampNeg (5 : Int32)) (3 : Int32).toNatClampNeg (0 : Int32)) (4 : Int32).toNatClampNeg (0 : Int32)))), (q56, .inl (G.2.2.1 2, 8, .inr (.inl fun _ => 0)))]) := hD
  refine lv_aload_n hx hb dX4_init_61 rfl (lv_at hl 0 rfl) ?_
  refine lv_bipush (v := (8 : Int32)) hx hb dX4_init_62 (by decide) ?_
  refine nwA (atype := .long) (t0 := 2) (a0 := (8, .inr (.inl fun _ => 0))) hx hb hg kq1_51 rfl rfl (fun _ _ => rfl) hK hP hD hS hA (arr_j 8) (by decide) (by decide) (by decide) (Nat.le_of_ble_eq_true rfl) (Nat.le_of_ble_eq_true rfl) dX4_init_64 (fun q64 H hP hD hS => ?_)
  have hP : va_P (gD G) vwCl ([(h0, .inr (2, [.ref q6, .int (-1 : Int32), .int (-1 : Int32), .int 0, .int (-1 : Int32), .int (60 : Int32), .long 0, .long 0, .ref q56, .null, .null, .int 0, .int 0, .int 0, .null, .null, .int 0, .null])), (q6, .inl (G.2.2.1 1, 5, .inl (upd (upd (upd (upd (upd (fun _ => 0) (0 : Int32).toNatClampNeg (100 : Int32)) (1 : Int32).toNatClampNeg (3 : Int32)) (2 : Int32).toNatClampNeg (5 : Int32)) (3 : Int32).toNatClampNeg (0 : Int32)) (4 : Int32).toNatClampNeg (0 : Int32)))), (q56, .inl (G.2.2.1 2, 8, .inr (.inl fun _ => 0))), (q64, .inl (G.2.2.1 2, 8, .inr (.inl fun _ => 0)))]) H := hP
  have hD : va_D A ([(h0, .inr (2, [.ref q6, .int (-1 : Int32), .int (-1 : Int32), .int 0, .int (-1 : Int32), .int (60 : Int32), .long 0, .long 0, .ref q56, .null, .null, .int 0, .int 0, .int 0, .null, .null, .int 0, .null])), (q6, .inl (G.2.2.1 1, 5, .inl (upd (upd (upd (upd (upd (fun _ => 0) (0 : Int32).toNatClampNeg (100 : Int32)) (1 : Int32).toNatClampNeg (3 : Int32)) (2 : Int32).toNatClampNeg (5 : Int32)) (3 : Int32).toNatClampNeg (0 : Int32)) (4 : Int32).toNatClampNeg (0 : Int32)))), (q56, .inl (G.2.2.1 2, 8, .inr (.inl fun _ => 0))), (q64, .inl (G.2.2.1 2, 8, .inr (.inl fun _ => 0)))]) := hD
  refine va_putF (D := gD G) (ci := 2) (v := .ref q64) (ty := .array .long) (C := RX4) (T := TX4) (N := 18) hx hb hg kl_X4 tyX4 tyX4_ok nmX4 hown hK hP hD hS 0 rfl rfl 9 (by decide) (hg _ kq1_71) (fun _ h9 => h9) rfl hin rfl (by decide +kernel) rfl rfl (Nat.le_of_ble_eq_true rfl) dX4_init_66 (fun H locs hP hD hS => ?_)
  have hP : va_P (gD G) vwCl ([(h0, .inr (2, [.ref q6, .int (-1 : Int32), .int (-1 : Int32), .int 0, .int (-1 : Int32), .int (60 : Int32), .long 0, .long 0, .ref q56, .ref q64, .null, .int 0, .int 0, .int 0, .null, .null, .int 0, .null])), (q6, .inl (G.2.2.1 1, 5, .inl (upd (upd (upd (upd (upd (fun _ => 0) (0 : Int32).toNatClampNeg (100 : Int32)) (1 : Int32).toNatClampNeg (3 : Int32)) (2 : Int32).toNatClampNeg (5 : Int32)) (3 : Int32).toNatClampNeg (0 : Int32)) (4 : Int32).toNatClampNeg (0 : Int32)))), (q56, .inl (G.2.2.1 2, 8, .inr (.inl fun _ => 0))), (q64, .inl (G.2.2.1 2, 8, .inr (.inl fun _ => 0)))]) H := hP
  have hD : va_D A ([(h0, .inr (2, [.ref q6, .int (-1 : Int32), .int (-1 : Int32), .int 0, .int (-1 : Int32), .int (60 : Int32), .long 0, .long 0, .ref q56, .ref q64, .null, .int 0, .int 0, .int 0, .null, .null, .int 0, .null])), (q6, .inl (G.2.2.1 1, 5, .inl (upd (upd (upd (upd (upd (fun _ => 0) (0 : Int32).toNatClampNeg (100 : Int32)) (1 : Int32).toNatClampNeg (3 : Int32)) (2 : Int32).toNatClampNeg (5 : Int32)) (3 : Int32).toNatClampNeg (0 : Int32)) (4 : Int32).toNatClampNeg (0 : Int32)))), (q56, .inl (G.2.2.1 2, 8, .inr (.inl fun _ => 0))), (q64, .inl (G.2.2.1 2, 8, .inr (.inl fun _ => 0)))]) := hD
  refine lv_aload_n hx hb dX4_init_69 rfl (lv_at hl 0 rfl) ?_
  refine lv_bipush (v := (8 : Int32)) hx hb dX4_init_70 (by decide) ?_
  refine nwA (atype := .int) (t0 := 1) (a0 := (8, .inl fun _ => 0)) hx hb hg kq1_50 rfl rfl (fun _ _ => rfl) hK hP hD hS hA (arr_i 8) (by decide) (by decide) (by decide) (Nat.le_of_ble_eq_true rfl) (Nat.le_of_ble_eq_true rfl) dX4_init_72 (fun q72 H hP hD hS => ?_)
  have hP : va_P (gD G) vwCl ([(h0, .inr (2, [.ref q6, .int (-1 : Int32), .int (-1 : Int32), .int 0, .int (-1 : Int32), .int (60 : Int32), .long 0, .long 0, .ref q56, .ref q64, .null, .int 0, .int 0, .int 0, .null, .null, .int 0, .null])), (q6, .inl (G.2.2.1 1, 5, .inl (upd (upd (upd (upd (upd (fun _ => 0) (0 : Int32).toNatClampNeg (100 : Int32)) (1 : Int32).toNatClampNeg (3 : Int32)) (2 : Int32).toNatClampNeg (5 : Int32)) (3 : Int32).toNatClampNeg (0 : Int32)) (4 : Int32).toNatClampNeg (0 : Int32)))), (q56, .inl (G.2.2.1 2, 8, .inr (.inl fun _ => 0))), (q64, .inl (G.2.2.1 2, 8, .inr (.inl fun _ => 0))), (q72, .inl (G.2.2.1 1, 8, .inl fun _ => 0))]) H := hP
  have hD : va_D A ([(h0, .inr (2, [.ref q6, .int (-1 : Int32), .int (-1 : Int32), .int 0, .int (-1 : Int32), .int (60 : Int32), .long 0, .long 0, .ref q56, .ref q64, .null, .int 0, .int 0, .int 0, .null, .null, .int 0, .null])), (q6, .inl (G.2.2.1 1, 5, .inl (upd (upd (upd (upd (upd (fun _ => 0) (0 : Int32).toNatClampNeg (100 : Int32)) (1 : Int32).toNatClampNeg (3 : Int32)) (2 : Int32).toNatClampNeg (5 : Int32)) (3 : Int32).toNatClampNeg (0 : Int32)) (4 : Int32).toNatClampNeg (0 : Int32)))), (q56, .inl (G.2.2.1 2, 8, .inr (.inl fun _ => 0))), (q64, .inl (G.2.2.1 2, 8, .inr (.inl fun _ => 0))), (q72, .inl (G.2.2.1 1, 8, .inl fun _ => 0))]) := hD
  refine va_putF (D := gD G) (ci := 2) (v := .ref q72) (ty := .array .int) (C := RX4) (T := TX4) (N := 18) hx hb hg kl_X4 tyX4 tyX4_ok nmX4 hown hK hP hD hS 0 rfl rfl 10 (by decide) (hg _ kq1_73) (fun _ h9 => h9) rfl hin rfl (by decide +kernel) rfl rfl (Nat.le_of_ble_eq_true rfl) dX4_init_74 (fun H locs hP hD hS => ?_)
  have hP : va_P (gD G) vwCl ([(h0, .inr (2, [.ref q6, .int (-1 : Int32), .int (-1 : Int32), .int 0, .int (-1 : Int32), .int (60 : Int32), .long 0, .long 0, .ref q56, .ref q64, .ref q72, .int 0, .int 0, .int 0, .null, .null, .int 0, .null])), (q6, .inl (G.2.2.1 1, 5, .inl (upd (upd (upd (upd (upd (fun _ => 0) (0 : Int32).toNatClampNeg (100 : Int32)) (1 : Int32).toNatClampNeg (3 : Int32)) (2 : Int32).toNatClampNeg (5 : Int32)) (3 : Int32).toNatClampNeg (0 : Int32)) (4 : Int32).toNatClampNeg (0 : Int32)))), (q56, .inl (G.2.2.1 2, 8, .inr (.inl fun _ => 0))), (q64, .inl (G.2.2.1 2, 8, .inr (.inl fun _ => 0))), (q72, .inl (G.2.2.1 1, 8, .inl fun _ => 0))]) H := hP
  have hD : va_D A ([(h0, .inr (2, [.ref q6, .int (-1 : Int32), .int (-1 : Int32), .int 0, .int (-1 : Int32), .int (60 : Int32), .long 0, .long 0, .ref q56, .ref q64, .ref q72, .int 0, .int 0, .int 0, .null, .null, .int 0, .null])), (q6, .inl (G.2.2.1 1, 5, .inl (upd (upd (upd (upd (upd (fun _ => 0) (0 : Int32).toNatClampNeg (100 : Int32)) (1 : Int32).toNatClampNeg (3 : Int32)) (2 : Int32).toNatClampNeg (5 : Int32)) (3 : Int32).toNatClampNeg (0 : Int32)) (4 : Int32).toNatClampNeg (0 : Int32)))), (q56, .inl (G.2.2.1 2, 8, .inr (.inl fun _ => 0))), (q64, .inl (G.2.2.1 2, 8, .inr (.inl fun _ => 0))), (q72, .inl (G.2.2.1 1, 8, .inl fun _ => 0))]) := hD
  refine lv_aload_n hx hb dX4_init_77 rfl (lv_at hl 0 rfl) ?_
  refine lv_iconst (v := (-1 : Int32)) hx hb dX4_init_78 (by decide) ?_
  refine va_put (D := gD G) (ci := 2) (v := .int (-1 : Int32)) (ty := .int) (C := RX4) (T := TX4) (N := 18) hx hb hg kl_X4 tyX4 tyX4_ok nmX4 hown hK hP hD hS 0 rfl rfl 12 (by decide) (hg _ kq1_76) (fun _ h9 => h9) rfl (by decide +kernel) rfl rfl (Nat.le_of_ble_eq_true rfl) dX4_init_79 (fun H locs hP hD hS => ?_)
  have hP : va_P (gD G) vwCl ([(h0, .inr (2, [.ref q6, .int (-1 : Int32), .int (-1 : Int32), .int 0, .int (-1 : Int32), .int (60 : Int32), .long 0, .long 0, .ref q56, .ref q64, .ref q72, .int 0, .int (-1 : Int32), .int 0, .null, .null, .int 0, .null])), (q6, .inl (G.2.2.1 1, 5, .inl (upd (upd (upd (upd (upd (fun _ => 0) (0 : Int32).toNatClampNeg (100 : Int32)) (1 : Int32).toNatClampNeg (3 : Int32)) (2 : Int32).toNatClampNeg (5 : Int32)) (3 : Int32).toNatClampNeg (0 : Int32)) (4 : Int32).toNatClampNeg (0 : Int32)))), (q56, .inl (G.2.2.1 2, 8, .inr (.inl fun _ => 0))), (q64, .inl (G.2.2.1 2, 8, .inr (.inl fun _ => 0))), (q72, .inl (G.2.2.1 1, 8, .inl fun _ => 0))]) H := hP
  have hD : va_D A ([(h0, .inr (2, [.ref q6, .int (-1 : Int32), .int (-1 : Int32), .int 0, .int (-1 : Int32), .int (60 : Int32), .long 0, .long 0, .ref q56, .ref q64, .ref q72, .int 0, .int (-1 : Int32), .int 0, .null, .null, .int 0, .null])), (q6, .inl (G.2.2.1 1, 5, .inl (upd (upd (upd (upd (upd (fun _ => 0) (0 : Int32).toNatClampNeg (100 : Int32)) (1 : Int32).toNatClampNeg (3 : Int32)) (2 : Int32).toNatClampNeg (5 : Int32)) (3 : Int32).toNatClampNeg (0 : Int32)) (4 : Int32).toNatClampNeg (0 : Int32)))), (q56, .inl (G.2.2.1 2, 8, .inr (.inl fun _ => 0))), (q64, .inl (G.2.2.1 2, 8, .inr (.inl fun _ => 0))), (q72, .inl (G.2.2.1 1, 8, .inl fun _ => 0))]) := hD
  refine lv_aload_n hx hb dX4_init_82 rfl (lv_at hl 0 rfl) ?_
  refine lv_bipush (v := (8 : Int32)) hx hb dX4_init_83 (by decide) ?_
  refine nwA (atype := .int) (t0 := 1) (a0 := (8, .inl fun _ => 0)) hx hb hg kq1_50 rfl rfl (fun _ _ => rfl) hK hP hD hS hA (arr_i 8) (by decide) (by decide) (by decide) (Nat.le_of_ble_eq_true rfl) (Nat.le_of_ble_eq_true rfl) dX4_init_85 (fun q85 H hP hD hS => ?_)
  have hP : va_P (gD G) vwCl ([(h0, .inr (2, [.ref q6, .int (-1 : Int32), .int (-1 : Int32), .int 0, .int (-1 : Int32), .int (60 : Int32), .long 0, .long 0, .ref q56, .ref q64, .ref q72, .int 0, .int (-1 : Int32), .int 0, .null, .null, .int 0, .null])), (q6, .inl (G.2.2.1 1, 5, .inl (upd (upd (upd (upd (upd (fun _ => 0) (0 : Int32).toNatClampNeg (100 : Int32)) (1 : Int32).toNatClampNeg (3 : Int32)) (2 : Int32).toNatClampNeg (5 : Int32)) (3 : Int32).toNatClampNeg (0 : Int32)) (4 : Int32).toNatClampNeg (0 : Int32)))), (q56, .inl (G.2.2.1 2, 8, .inr (.inl fun _ => 0))), (q64, .inl (G.2.2.1 2, 8, .inr (.inl fun _ => 0))), (q72, .inl (G.2.2.1 1, 8, .inl fun _ => 0)), (q85, .inl (G.2.2.1 1, 8, .inl fun _ => 0))]) H := hP
  have hD : va_D A ([(h0, .inr (2, [.ref q6, .int (-1 : Int32), .int (-1 : Int32), .int 0, .int (-1 : Int32), .int (60 : Int32), .long 0, .long 0, .ref q56, .ref q64, .ref q72, .int 0, .int (-1 : Int32), .int 0, .null, .null, .int 0, .null])), (q6, .inl (G.2.2.1 1, 5, .inl (upd (upd (upd (upd (upd (fun _ => 0) (0 : Int32).toNatClampNeg (100 : Int32)) (1 : Int32).toNatClampNeg (3 : Int32)) (2 : Int32).toNatClampNeg (5 : Int32)) (3 : Int32).toNatClampNeg (0 : Int32)) (4 : Int32).toNatClampNeg (0 : Int32)))), (q56, .inl (G.2.2.1 2, 8, .inr (.inl fun _ => 0))), (q64, .inl (G.2.2.1 2, 8, .inr (.inl fun _ => 0))), (q72, .inl (G.2.2.1 1, 8, .inl fun _ => 0)), (q85, .inl (G.2.2.1 1, 8, .inl fun _ => 0))]) := hD
  refine va_putF (D := gD G) (ci := 2) (v := .ref q85) (ty := .array .int) (C := RX4) (T := TX4) (N := 18) hx hb hg kl_X4 tyX4 tyX4_ok nmX4 hown hK hP hD hS 0 rfl rfl 14 (by decide) (hg _ kq1_80) (fun _ h9 => h9) rfl hin rfl (by decide +kernel) rfl rfl (Nat.le_of_ble_eq_true rfl) dX4_init_87 (fun H locs hP hD hS => ?_)
  have hP : va_P (gD G) vwCl ([(h0, .inr (2, [.ref q6, .int (-1 : Int32), .int (-1 : Int32), .int 0, .int (-1 : Int32), .int (60 : Int32), .long 0, .long 0, .ref q56, .ref q64, .ref q72, .int 0, .int (-1 : Int32), .int 0, .ref q85, .null, .int 0, .null])), (q6, .inl (G.2.2.1 1, 5, .inl (upd (upd (upd (upd (upd (fun _ => 0) (0 : Int32).toNatClampNeg (100 : Int32)) (1 : Int32).toNatClampNeg (3 : Int32)) (2 : Int32).toNatClampNeg (5 : Int32)) (3 : Int32).toNatClampNeg (0 : Int32)) (4 : Int32).toNatClampNeg (0 : Int32)))), (q56, .inl (G.2.2.1 2, 8, .inr (.inl fun _ => 0))), (q64, .inl (G.2.2.1 2, 8, .inr (.inl fun _ => 0))), (q72, .inl (G.2.2.1 1, 8, .inl fun _ => 0)), (q85, .inl (G.2.2.1 1, 8, .inl fun _ => 0))]) H := hP
  have hD : va_D A ([(h0, .inr (2, [.ref q6, .int (-1 : Int32), .int (-1 : Int32), .int 0, .int (-1 : Int32), .int (60 : Int32), .long 0, .long 0, .ref q56, .ref q64, .ref q72, .int 0, .int (-1 : Int32), .int 0, .ref q85, .null, .int 0, .null])), (q6, .inl (G.2.2.1 1, 5, .inl (upd (upd (upd (upd (upd (fun _ => 0) (0 : Int32).toNatClampNeg (100 : Int32)) (1 : Int32).toNatClampNeg (3 : Int32)) (2 : Int32).toNatClampNeg (5 : Int32)) (3 : Int32).toNatClampNeg (0 : Int32)) (4 : Int32).toNatClampNeg (0 : Int32)))), (q56, .inl (G.2.2.1 2, 8, .inr (.inl fun _ => 0))), (q64, .inl (G.2.2.1 2, 8, .inr (.inl fun _ => 0))), (q72, .inl (G.2.2.1 1, 8, .inl fun _ => 0)), (q85, .inl (G.2.2.1 1, 8, .inl fun _ => 0))]) := hD
  refine lv_aload_n hx hb dX4_init_90 rfl (lv_at hl 0 rfl) ?_
  refine lv_bipush (v := (8 : Int32)) hx hb dX4_init_91 (by decide) ?_
  refine nwA (atype := .int) (t0 := 1) (a0 := (8, .inl fun _ => 0)) hx hb hg kq1_50 rfl rfl (fun _ _ => rfl) hK hP hD hS hA (arr_i 8) (by decide) (by decide) (by decide) (Nat.le_of_ble_eq_true rfl) (Nat.le_of_ble_eq_true rfl) dX4_init_93 (fun q93 H hP hD hS => ?_)
  have hP : va_P (gD G) vwCl ([(h0, .inr (2, [.ref q6, .int (-1 : Int32), .int (-1 : Int32), .int 0, .int (-1 : Int32), .int (60 : Int32), .long 0, .long 0, .ref q56, .ref q64, .ref q72, .int 0, .int (-1 : Int32), .int 0, .ref q85, .null, .int 0, .null])), (q6, .inl (G.2.2.1 1, 5, .inl (upd (upd (upd (upd (upd (fun _ => 0) (0 : Int32).toNatClampNeg (100 : Int32)) (1 : Int32).toNatClampNeg (3 : Int32)) (2 : Int32).toNatClampNeg (5 : Int32)) (3 : Int32).toNatClampNeg (0 : Int32)) (4 : Int32).toNatClampNeg (0 : Int32)))), (q56, .inl (G.2.2.1 2, 8, .inr (.inl fun _ => 0))), (q64, .inl (G.2.2.1 2, 8, .inr (.inl fun _ => 0))), (q72, .inl (G.2.2.1 1, 8, .inl fun _ => 0)), (q85, .inl (G.2.2.1 1, 8, .inl fun _ => 0)), (q93, .inl (G.2.2.1 1, 8, .inl fun _ => 0))]) H := hP
  have hD : va_D A ([(h0, .inr (2, [.ref q6, .int (-1 : Int32), .int (-1 : Int32), .int 0, .int (-1 : Int32), .int (60 : Int32), .long 0, .long 0, .ref q56, .ref q64, .ref q72, .int 0, .int (-1 : Int32), .int 0, .ref q85, .null, .int 0, .null])), (q6, .inl (G.2.2.1 1, 5, .inl (upd (upd (upd (upd (upd (fun _ => 0) (0 : Int32).toNatClampNeg (100 : Int32)) (1 : Int32).toNatClampNeg (3 : Int32)) (2 : Int32).toNatClampNeg (5 : Int32)) (3 : Int32).toNatClampNeg (0 : Int32)) (4 : Int32).toNatClampNeg (0 : Int32)))), (q56, .inl (G.2.2.1 2, 8, .inr (.inl fun _ => 0))), (q64, .inl (G.2.2.1 2, 8, .inr (.inl fun _ => 0))), (q72, .inl (G.2.2.1 1, 8, .inl fun _ => 0)), (q85, .inl (G.2.2.1 1, 8, .inl fun _ => 0)), (q93, .inl (G.2.2.1 1, 8, .inl fun _ => 0))]) := hD
  refine va_putF (D := gD G) (ci := 2) (v := .ref q93) (ty := .array .int) (C := RX4) (T := TX4) (N := 18) hx hb hg kl_X4 tyX4 tyX4_ok nmX4 hown hK hP hD hS 0 rfl rfl 15 (by decide) (hg _ kq1_82) (fun _ h9 => h9) rfl hin rfl (by decide +kernel) rfl rfl (Nat.le_of_ble_eq_true rfl) dX4_init_95 (fun H locs hP hD hS => ?_)
  have hP : va_P (gD G) vwCl ([(h0, .inr (2, [.ref q6, .int (-1 : Int32), .int (-1 : Int32), .int 0, .int (-1 : Int32), .int (60 : Int32), .long 0, .long 0, .ref q56, .ref q64, .ref q72, .int 0, .int (-1 : Int32), .int 0, .ref q85, .ref q93, .int 0, .null])), (q6, .inl (G.2.2.1 1, 5, .inl (upd (upd (upd (upd (upd (fun _ => 0) (0 : Int32).toNatClampNeg (100 : Int32)) (1 : Int32).toNatClampNeg (3 : Int32)) (2 : Int32).toNatClampNeg (5 : Int32)) (3 : Int32).toNatClampNeg (0 : Int32)) (4 : Int32).toNatClampNeg (0 : Int32)))), (q56, .inl (G.2.2.1 2, 8, .inr (.inl fun _ => 0))), (q64, .inl (G.2.2.1 2, 8, .inr (.inl fun _ => 0))), (q72, .inl (G.2.2.1 1, 8, .inl fun _ => 0)), (q85, .inl (G.2.2.1 1, 8, .inl fun _ => 0)), (q93, .inl (G.2.2.1 1, 8, .inl fun _ => 0))]) H := hP
  have hD : va_D A ([(h0, .inr (2, [.ref q6, .int (-1 : Int32), .int (-1 : Int32), .int 0, .int (-1 : Int32), .int (60 : Int32), .long 0, .long 0, .ref q56, .ref q64, .ref q72, .int 0, .int (-1 : Int32), .int 0, .ref q85, .ref q93, .int 0, .null])), (q6, .inl (G.2.2.1 1, 5, .inl (upd (upd (upd (upd (upd (fun _ => 0) (0 : Int32).toNatClampNeg (100 : Int32)) (1 : Int32).toNatClampNeg (3 : Int32)) (2 : Int32).toNatClampNeg (5 : Int32)) (3 : Int32).toNatClampNeg (0 : Int32)) (4 : Int32).toNatClampNeg (0 : Int32)))), (q56, .inl (G.2.2.1 2, 8, .inr (.inl fun _ => 0))), (q64, .inl (G.2.2.1 2, 8, .inr (.inl fun _ => 0))), (q72, .inl (G.2.2.1 1, 8, .inl fun _ => 0)), (q85, .inl (G.2.2.1 1, 8, .inl fun _ => 0)), (q93, .inl (G.2.2.1 1, 8, .inl fun _ => 0))]) := hD
  refine lv_aload_n hx hb dX4_init_98 rfl (lv_at hl 0 rfl) ?_
  refine va_new (ci := 0) (fs := [.null, .int 0]) (C := RX0) (T := TX0) (N := 2) hx hb hg kl_X0 tyX0 tyX0_ok hown (hg _ kq1_36) (hg _ kq1_37) (hg _ kq1_3) hK hP hD hS hA rfl (fun j hj => by rcases (show j = 0 ∨ j = 1 by omega) with rfl | rfl <;> rfl) (Nat.le_of_ble_eq_true rfl) (Nat.le_of_ble_eq_true rfl) dX4_init_99 (fun q99 H hP hD hS => ?_)
  refine lv_dup hx hb dX4_init_102 rfl ?_
  refine kIn (As := []) (rest := [.ref q99, .ref h0]) hC (c_X0_init (G := G)) (hE.2.2.2.1 (RX4, 49, yX0_init) (by decide +kernel)) kc_X0_init rfl (by decide) hP hK hD hE hS hA (out := fun v => [(h0, .inr (2, [.ref q6, .int (-1 : Int32), .int (-1 : Int32), .int 0, .int (-1 : Int32), .int (60 : Int32), .long 0, .long 0, .ref q56, .ref q64, .ref q72, .int 0, .int (-1 : Int32), .int 0, .ref q85, .ref q93, .int 0, .null])), (q6, .inl (G.2.2.1 1, 5, .inl (upd (upd (upd (upd (upd (fun _ => 0) (0 : Int32).toNatClampNeg (100 : Int32)) (1 : Int32).toNatClampNeg (3 : Int32)) (2 : Int32).toNatClampNeg (5 : Int32)) (3 : Int32).toNatClampNeg (0 : Int32)) (4 : Int32).toNatClampNeg (0 : Int32)))), (q56, .inl (G.2.2.1 2, 8, .inr (.inl fun _ => 0))), (q64, .inl (G.2.2.1 2, 8, .inr (.inl fun _ => 0))), (q72, .inl (G.2.2.1 1, 8, .inl fun _ => 0)), (q85, .inl (G.2.2.1 1, 8, .inl fun _ => 0)), (q93, .inl (G.2.2.1 1, 8, .inl fun _ => 0))] ++ wX0 G q99 v.1 v.2) List.perm_append_comm (fun _ => List.perm_append_comm) hl.1 (Nat.le_of_ble_eq_true rfl) ⟨Nat.le_of_ble_eq_true rfl, Nat.le_of_ble_eq_true rfl⟩ dX4_init_103 (fun u9 H locs hw hP hD hS => ?_)
  obtain ⟨b9, u9⟩ := u9
  obtain rfl : u9 = iX0 := hw
  have hP : va_P (gD G) vwCl ([(h0, .inr (2, [.ref q6, .int (-1 : Int32), .int (-1 : Int32), .int 0, .int (-1 : Int32), .int (60 : Int32), .long 0, .long 0, .ref q56, .ref q64, .ref q72, .int 0, .int (-1 : Int32), .int 0, .ref q85, .ref q93, .int 0, .null])), (q6, .inl (G.2.2.1 1, 5, .inl (upd (upd (upd (upd (upd (fun _ => 0) (0 : Int32).toNatClampNeg (100 : Int32)) (1 : Int32).toNatClampNeg (3 : Int32)) (2 : Int32).toNatClampNeg (5 : Int32)) (3 : Int32).toNatClampNeg (0 : Int32)) (4 : Int32).toNatClampNeg (0 : Int32)))), (q56, .inl (G.2.2.1 2, 8, .inr (.inl fun _ => 0))), (q64, .inl (G.2.2.1 2, 8, .inr (.inl fun _ => 0))), (q72, .inl (G.2.2.1 1, 8, .inl fun _ => 0)), (q85, .inl (G.2.2.1 1, 8, .inl fun _ => 0)), (q93, .inl (G.2.2.1 1, 8, .inl fun _ => 0))] ++ wX0 G q99 b9 iX0) H := hP
  have hD : va_D A ([(h0, .inr (2, [.ref q6, .int (-1 : Int32), .int (-1 : Int32), .int 0, .int (-1 : Int32), .int (60 : Int32), .long 0, .long 0, .ref q56, .ref q64, .ref q72, .int 0, .int (-1 : Int32), .int 0, .ref q85, .ref q93, .int 0, .null])), (q6, .inl (G.2.2.1 1, 5, .inl (upd (upd (upd (upd (upd (fun _ => 0) (0 : Int32).toNatClampNeg (100 : Int32)) (1 : Int32).toNatClampNeg (3 : Int32)) (2 : Int32).toNatClampNeg (5 : Int32)) (3 : Int32).toNatClampNeg (0 : Int32)) (4 : Int32).toNatClampNeg (0 : Int32)))), (q56, .inl (G.2.2.1 2, 8, .inr (.inl fun _ => 0))), (q64, .inl (G.2.2.1 2, 8, .inr (.inl fun _ => 0))), (q72, .inl (G.2.2.1 1, 8, .inl fun _ => 0)), (q85, .inl (G.2.2.1 1, 8, .inl fun _ => 0)), (q93, .inl (G.2.2.1 1, 8, .inl fun _ => 0))] ++ wX0 G q99 b9 iX0) := hD
  refine va_putF (D := gD G) (ci := 2) (v := .ref q99) (ty := .object "RadioClock$Ballot") (C := RX4) (T := TX4) (N := 18) hx hb hg kl_X4 tyX4 tyX4_ok nmX4 hown hK hP hD hS 0 rfl rfl 17 (by decide) (hg _ kq1_86) (fun _ h9 => h9) rfl hin rfl (by decide +kernel) rfl rfl (Nat.le_of_ble_eq_true rfl) dX4_init_106 (fun H locs hP hD hS => ?_)
  have hP : va_P (gD G) vwCl ([(h0, .inr (2, [.ref q6, .int (-1 : Int32), .int (-1 : Int32), .int 0, .int (-1 : Int32), .int (60 : Int32), .long 0, .long 0, .ref q56, .ref q64, .ref q72, .int 0, .int (-1 : Int32), .int 0, .ref q85, .ref q93, .int 0, .ref q99])), (q6, .inl (G.2.2.1 1, 5, .inl (upd (upd (upd (upd (upd (fun _ => 0) (0 : Int32).toNatClampNeg (100 : Int32)) (1 : Int32).toNatClampNeg (3 : Int32)) (2 : Int32).toNatClampNeg (5 : Int32)) (3 : Int32).toNatClampNeg (0 : Int32)) (4 : Int32).toNatClampNeg (0 : Int32)))), (q56, .inl (G.2.2.1 2, 8, .inr (.inl fun _ => 0))), (q64, .inl (G.2.2.1 2, 8, .inr (.inl fun _ => 0))), (q72, .inl (G.2.2.1 1, 8, .inl fun _ => 0)), (q85, .inl (G.2.2.1 1, 8, .inl fun _ => 0)), (q93, .inl (G.2.2.1 1, 8, .inl fun _ => 0))] ++ wX0 G q99 b9 iX0) H := hP
  have hD : va_D A ([(h0, .inr (2, [.ref q6, .int (-1 : Int32), .int (-1 : Int32), .int 0, .int (-1 : Int32), .int (60 : Int32), .long 0, .long 0, .ref q56, .ref q64, .ref q72, .int 0, .int (-1 : Int32), .int 0, .ref q85, .ref q93, .int 0, .ref q99])), (q6, .inl (G.2.2.1 1, 5, .inl (upd (upd (upd (upd (upd (fun _ => 0) (0 : Int32).toNatClampNeg (100 : Int32)) (1 : Int32).toNatClampNeg (3 : Int32)) (2 : Int32).toNatClampNeg (5 : Int32)) (3 : Int32).toNatClampNeg (0 : Int32)) (4 : Int32).toNatClampNeg (0 : Int32)))), (q56, .inl (G.2.2.1 2, 8, .inr (.inl fun _ => 0))), (q64, .inl (G.2.2.1 2, 8, .inr (.inl fun _ => 0))), (q72, .inl (G.2.2.1 1, 8, .inl fun _ => 0)), (q85, .inl (G.2.2.1 1, 8, .inl fun _ => 0)), (q93, .inl (G.2.2.1 1, 8, .inl fun _ => 0))] ++ wX0 G q99 b9 iX0) := hD
  have hP : va_P (gD G) vwCl (wX4 G h0 (fun k : Nat => if k = 0 then q6 else if k = 8 then q56 else if k = 9 then q64 else if k = 10 then q72 else if k = 14 then q85 else if k = 15 then q93 else if k = 17 then q99 else 0) iX4 ++ wX0 G ((fun k : Nat => if k = 0 then q6 else if k = 8 then q56 else if k = 9 then q64 else if k = 10 then q72 else if k = 14 then q85 else if k = 15 then q93 else if k = 17 then q99 else 0) 17) b9 iX0) H := hP
  have hD : va_D A (wX4 G h0 (fun k : Nat => if k = 0 then q6 else if k = 8 then q56 else if k = 9 then q64 else if k = 10 then q72 else if k = 14 then q85 else if k = 15 then q93 else if k = 17 then q99 else 0) iX4 ++ wX0 G ((fun k : Nat => if k = 0 then q6 else if k = 8 then q56 else if k = 9 then q64 else if k = 10 then q72 else if k = 14 then q85 else if k = 15 then q93 else if k = 17 then q99 else 0) 17) b9 iX0) := hD
  refine W.widen (k := 8) (n := 55) (by decide) (by decide) ?_
  exact e_v (wf := fun v : (Nat → Nat) × (Nat → Nat) × Ob × Ob => wX4 G h0 v.1 v.2.2.1 ++ wX0 G (v.1 17) v.2.1 v.2.2.2) hx hb hr hlk ((fun k : Nat => if k = 0 then q6 else if k = 8 then q56 else if k = 9 then q64 else if k = 10 then q72 else if k = 14 then q85 else if k = 15 then q93 else if k = 17 then q99 else 0), b9, iX4, iX0) rfl hP hK hD hS dX4_init_109
def f_X6_init (N : Nat) : Option Ob := ((f_X6_begins N iX6).bind fun q1 => f_X6_becomes_1 N 0 q1)
theorem dX6_init_0 : decode cX6_init 0 = .ok (.aload_n 0, 1) := by decide +kernel
theorem dX6_init_1 : decode cX6_init 1 = .ok (.invokespecial 1, 3) := by decide +kernel
theorem dX6_init_4 : decode cX6_init 4 = .ok (.aload_n 0, 1) := by decide +kernel
theorem dX6_init_5 : decode cX6_init 5 = .ok (.bipush 48, 2) := by decide +kernel
theorem dX6_init_7 : decode cX6_init 7 = .ok (.newarray .long, 2) := by decide +kernel
theorem dX6_init_9 : decode cX6_init 9 = .ok (.putfield 7, 3) := by decide +kernel
theorem dX6_init_12 : decode cX6_init 12 = .ok (.aload_n 0, 1) := by decide +kernel
theorem dX6_init_13 : decode cX6_init 13 = .ok (.bipush 48, 2) := by decide +kernel
theorem dX6_init_15 : decode cX6_init 15 = .ok (.newarray .long, 2) := by decide +kernel
theorem dX6_init_17 : decode cX6_init 17 = .ok (.putfield 13, 3) := by decide +kernel
theorem dX6_init_20 : decode cX6_init 20 = .ok (.aload_n 0, 1) := by decide +kernel
theorem dX6_init_21 : decode cX6_init 21 = .ok (.bipush 48, 2) := by decide +kernel
theorem dX6_init_23 : decode cX6_init 23 = .ok (.newarray .long, 2) := by decide +kernel
theorem dX6_init_25 : decode cX6_init 25 = .ok (.putfield 16, 3) := by decide +kernel
theorem dX6_init_28 : decode cX6_init 28 = .ok (.aload_n 0, 1) := by decide +kernel
theorem dX6_init_29 : decode cX6_init 29 = .ok (.sipush 384, 3) := by decide +kernel
theorem dX6_init_32 : decode cX6_init 32 = .ok (.newarray .long, 2) := by decide +kernel
theorem dX6_init_34 : decode cX6_init 34 = .ok (.putfield 19, 3) := by decide +kernel
theorem dX6_init_37 : decode cX6_init 37 = .ok (.aload_n 0, 1) := by decide +kernel
theorem dX6_init_38 : decode cX6_init 38 = .ok (.bipush 96, 2) := by decide +kernel
theorem dX6_init_40 : decode cX6_init 40 = .ok (.newarray .long, 2) := by decide +kernel
theorem dX6_init_42 : decode cX6_init 42 = .ok (.putfield 22, 3) := by decide +kernel
theorem dX6_init_45 : decode cX6_init 45 = .ok (.aload_n 0, 1) := by decide +kernel
theorem dX6_init_46 : decode cX6_init 46 = .ok (.iconst 2, 1) := by decide +kernel
theorem dX6_init_47 : decode cX6_init 47 = .ok (.newarray .boolean, 2) := by decide +kernel
theorem dX6_init_49 : decode cX6_init 49 = .ok (.putfield 25, 3) := by decide +kernel
theorem dX6_init_52 : decode cX6_init 52 = .ok (.aload_n 0, 1) := by decide +kernel
theorem dX6_init_53 : decode cX6_init 53 = .ok (.sipush 600, 3) := by decide +kernel
theorem dX6_init_56 : decode cX6_init 56 = .ok (.newarray .int, 2) := by decide +kernel
theorem dX6_init_58 : decode cX6_init 58 = .ok (.putfield 29, 3) := by decide +kernel
theorem dX6_init_61 : decode cX6_init 61 = .ok (.aload_n 0, 1) := by decide +kernel
theorem dX6_init_62 : decode cX6_init 62 = .ok (.iconst (-1), 1) := by decide +kernel
theorem dX6_init_63 : decode cX6_init 63 = .ok (.putfield 33, 3) := by decide +kernel
theorem dX6_init_66 : decode cX6_init 66 = .ok (.aload_n 0, 1) := by decide +kernel
theorem dX6_init_67 : decode cX6_init 67 = .ok (.bipush 20, 2) := by decide +kernel
theorem dX6_init_69 : decode cX6_init 69 = .ok (.newarray .int, 2) := by decide +kernel
theorem dX6_init_71 : decode cX6_init 71 = .ok (.putfield 37, 3) := by decide +kernel
theorem dX6_init_74 : decode cX6_init 74 = .ok (.aload_n 0, 1) := by decide +kernel
theorem dX6_init_75 : decode cX6_init 75 = .ok (.invokevirtual 40, 3) := by decide +kernel
theorem dX6_init_78 : decode cX6_init 78 = .ok (.aload_n 0, 1) := by decide +kernel
theorem dX6_init_79 : decode cX6_init 79 = .ok (.aload_n 0, 1) := by decide +kernel
theorem dX6_init_80 : decode cX6_init 80 = .ok (.getfield 13, 3) := by decide +kernel
theorem dX6_init_83 : decode cX6_init 83 = .ok (.iconst 0, 1) := by decide +kernel
theorem dX6_init_84 : decode cX6_init 84 = .ok (.invokevirtual 43, 3) := by decide +kernel
theorem dX6_init_87 : decode cX6_init 87 = .ok (.return_, 1) := by decide +kernel
theorem kc_X6_init : Cond.instanceMethod yX6_init ∈ lw_g ∧ Cond.initialized yX6_init.cls ∈ lw_g ∧ Cond.code yX6_init cX6_init 1 none ∈ lw_g ∧ yX6_init.cls ≠ "java/lang/invoke/MethodHandle" ∧ yX6_init.cls ≠ "java/lang/invoke/VarHandle" ∧ (parseMethodDescriptor yX6_init.desc).map (fun d => d.parameters.length) = some 0 := ⟨kq4_230, kq1_5, kq4_231, by decide +kernel, by decide +kernel, by decide +kernel⟩
set_option maxRecDepth 100000 in
set_option maxHeartbeats 4000000 in
theorem c_X6_init {l : Launch} {G : Gp} {sz h0 : Nat} {N : Nat} {q : Ob} (hf : f_X6_init N = some q) : Met l yX6_init (Cond.code yX6_init cX6_init 1 none :: lw_g) ({ frames := 1, cells := 8, slots := 1246, locals := 23 } : Room) (va_Pc [.ref h0] (pw G [(h0, .inr (4, [.null, .null, .null, .null, .null, .null, .int 0, .int 0, .int 0, .null, .int 0, .int 0, .int 0, .int 0, .int 0, .int 0, .int 0, .int 0, .long 0, .long 0, .null, .int 0]))] sz)) (va_Qv (fun v : (Nat → Nat) × Ob => v.2 = q) (bw G (fun v : (Nat → Nat) × Ob => wX6 G h0 v.1 v.2) (va_A [(h0, .inr (4, [.null, .null, .null, .null, .null, .null, .int 0, .int 0, .int 0, .null, .int 0, .int 0, .int 0, .int 0, .int 0, .int 0, .int 0, .int 0, .long 0, .long 0, .null, .int 0]))] sz)) (va_A [(h0, .inr (4, [.null, .null, .null, .null, .null, .null, .int 0, .int 0, .int 0, .null, .int 0, .int 0, .int 0, .int 0, .int 0, .int 0, .int 0, .int 0, .long 0, .long 0, .null, .int 0]))] sz)) 8 1246 (va_A [(h0, .inr (4, [.null, .null, .null, .null, .null, .null, .int 0, .int 0, .int 0, .null, .int 0, .int 0, .int 0, .int 0, .int 0, .int 0, .int 0, .int 0, .long 0, .long 0, .null, .int 0]))] sz) := by
  refine mti (Qc := fun A => va_Qv (fun v : (Nat → Nat) × Ob => v.2 = q) (bw G (fun v : (Nat → Nat) × Ob => wX6 G h0 v.1 v.2) A) A) (by decide) (Nat.le_of_ble_eq_true rfl) ?_
  intro p e s m below meth c A ls hin hx hb hr hlk hml hts hown hA hP hK hD hE hS hl
  have hown : s.vm.findClass RX6 = some m.cls := hown
  have hg : ∀ w ∈ lw_g, w.before ([.ref h0] : List Value).toArray s = true := fun w h => hts w (List.mem_cons_of_mem _ h)
  have hC : CallFix p m c cX6_init 1 s ([.ref h0] : List Value).toArray (Cond.code yX6_init cX6_init 1 none :: lw_g) RX6 := ⟨hx, hb, hml, hown, hts⟩
  have hl : lv_has ls 1 [(0, .ref h0)] := hl
  refine lv_aload_n hx hb dX6_init_0 rfl (lv_at hl 0 rfl) ?_
  refine W.objInit hx hb hown (hg _ kq4_232) (hg _ kq1_28) (hg _ kq1_29) rfl (by rw [hml]; exact hl.1) rfl dX6_init_1 (Nat.le_of_ble_eq_true rfl) (Nat.le_of_ble_eq_true rfl) ?_
  refine W.eq (g2 := F0 m 4 ls []) rfl ?_
  refine lv_aload_n hx hb dX6_init_4 rfl (lv_at hl 0 rfl) ?_
  refine lv_bipush (v := (48 : Int32)) hx hb dX6_init_5 (by decide) ?_
  refine nwA (atype := .long) (t0 := 2) (a0 := (48, .inr (.inl fun _ => 0))) hx hb hg kq1_51 rfl rfl (fun _ _ => rfl) hK hP hD hS hA (arr_j 48) (by decide) (by decide) (by decide) (Nat.le_of_ble_eq_true rfl) (Nat.le_of_ble_eq_true rfl) dX6_init_7 (fun q7 H hP hD hS => ?_)
  have hP : va_P (gD G) vwCl ([(h0, .inr (4, [.null, .null, .null, .null, .null, .null, .int 0, .int 0, .int 0, .null, .int 0, .int 0, .int 0, .int 0, .int 0, .int 0, .int 0, .int 0, .long 0, .long 0, .null, .int 0])), (q7, .inl (G.2.2.1 2, 48, .inr (.inl fun _ => 0)))]) H := hP
  have hD : va_D A ([(h0, .inr (4, [.null, .null, .null, .null, .null, .null, .int 0, .int 0, .int 0, .null, .int 0, .int 0, .int 0, .int 0, .int 0, .int 0, .int 0, .int 0, .long 0, .long 0, .null, .int 0])), (q7, .inl (G.2.2.1 2, 48, .inr (.inl fun _ => 0)))]) := hD
  refine va_putF (D := gD G) (ci := 4) (v := .ref q7) (ty := .array .long) (C := RX6) (T := TX6) (N := 22) hx hb hg kl_X6 tyX6 tyX6_ok nmX6 hown hK hP hD hS 0 rfl rfl 0 (by decide) (hg _ kq5_5) (fun _ h9 => h9) rfl hin rfl (by decide +kernel) rfl rfl (Nat.le_of_ble_eq_true rfl) dX6_init_9 (fun H locs hP hD hS => ?_)
  have hP : va_P (gD G) vwCl ([(h0, .inr (4, [.ref q7, .null, .null, .null, .null, .null, .int 0, .int 0, .int 0, .null, .int 0, .int 0, .int 0, .int 0, .int 0, .int 0, .int 0, .int 0, .long 0, .long 0, .null, .int 0])), (q7, .inl (G.2.2.1 2, 48, .inr (.inl fun _ => 0)))]) H := hP
  have hD : va_D A ([(h0, .inr (4, [.ref q7, .null, .null, .null, .null, .null, .int 0, .int 0, .int 0, .null, .int 0, .int 0, .int 0, .int 0, .int 0, .int 0, .int 0, .int 0, .long 0, .long 0, .null, .int 0])), (q7, .inl (G.2.2.1 2, 48, .inr (.inl fun _ => 0)))]) := hD
  refine lv_aload_n hx hb dX6_init_12 rfl (lv_at hl 0 rfl) ?_
  refine lv_bipush (v := (48 : Int32)) hx hb dX6_init_13 (by decide) ?_
  refine nwA (atype := .long) (t0 := 2) (a0 := (48, .inr (.inl fun _ => 0))) hx hb hg kq1_51 rfl rfl (fun _ _ => rfl) hK hP hD hS hA (arr_j 48) (by decide) (by decide) (by decide) (Nat.le_of_ble_eq_true rfl) (Nat.le_of_ble_eq_true rfl) dX6_init_15 (fun q15 H hP hD hS => ?_)
  have hP : va_P (gD G) vwCl ([(h0, .inr (4, [.ref q7, .null, .null, .null, .null, .null, .int 0, .int 0, .int 0, .null, .int 0, .int 0, .int 0, .int 0, .int 0, .int 0, .int 0, .int 0, .long 0, .long 0, .null, .int 0])), (q7, .inl (G.2.2.1 2, 48, .inr (.inl fun _ => 0))), (q15, .inl (G.2.2.1 2, 48, .inr (.inl fun _ => 0)))]) H := hP
  have hD : va_D A ([(h0, .inr (4, [.ref q7, .null, .null, .null, .null, .null, .int 0, .int 0, .int 0, .null, .int 0, .int 0, .int 0, .int 0, .int 0, .int 0, .int 0, .int 0, .long 0, .long 0, .null, .int 0])), (q7, .inl (G.2.2.1 2, 48, .inr (.inl fun _ => 0))), (q15, .inl (G.2.2.1 2, 48, .inr (.inl fun _ => 0)))]) := hD
  refine va_putF (D := gD G) (ci := 4) (v := .ref q15) (ty := .array .long) (C := RX6) (T := TX6) (N := 22) hx hb hg kl_X6 tyX6 tyX6_ok nmX6 hown hK hP hD hS 0 rfl rfl 1 (by decide) (hg _ kq5_6) (fun _ h9 => h9) rfl hin rfl (by decide +kernel) rfl rfl (Nat.le_of_ble_eq_true rfl) dX6_init_17 (fun H locs hP hD hS => ?_)
  have hP : va_P (gD G) vwCl ([(h0, .inr (4, [.ref q7, .ref q15, .null, .null, .null, .null, .int 0, .int 0, .int 0, .null, .int 0, .int 0, .int 0, .int 0, .int 0, .int 0, .int 0, .int 0, .long 0, .long 0, .null, .int 0])), (q7, .inl (G.2.2.1 2, 48, .inr (.inl fun _ => 0))), (q15, .inl (G.2.2.1 2, 48, .inr (.inl fun _ => 0)))]) H := hP
  have hD : va_D A ([(h0, .inr (4, [.ref q7, .ref q15, .null, .null, .null, .null, .int 0, .int 0, .int 0, .null, .int 0, .int 0, .int 0, .int 0, .int 0, .int 0, .int 0, .int 0, .long 0, .long 0, .null, .int 0])), (q7, .inl (G.2.2.1 2, 48, .inr (.inl fun _ => 0))), (q15, .inl (G.2.2.1 2, 48, .inr (.inl fun _ => 0)))]) := hD
  refine lv_aload_n hx hb dX6_init_20 rfl (lv_at hl 0 rfl) ?_
  refine lv_bipush (v := (48 : Int32)) hx hb dX6_init_21 (by decide) ?_
  refine nwA (atype := .long) (t0 := 2) (a0 := (48, .inr (.inl fun _ => 0))) hx hb hg kq1_51 rfl rfl (fun _ _ => rfl) hK hP hD hS hA (arr_j 48) (by decide) (by decide) (by decide) (Nat.le_of_ble_eq_true rfl) (Nat.le_of_ble_eq_true rfl) dX6_init_23 (fun q23 H hP hD hS => ?_)
  have hP : va_P (gD G) vwCl ([(h0, .inr (4, [.ref q7, .ref q15, .null, .null, .null, .null, .int 0, .int 0, .int 0, .null, .int 0, .int 0, .int 0, .int 0, .int 0, .int 0, .int 0, .int 0, .long 0, .long 0, .null, .int 0])), (q7, .inl (G.2.2.1 2, 48, .inr (.inl fun _ => 0))), (q15, .inl (G.2.2.1 2, 48, .inr (.inl fun _ => 0))), (q23, .inl (G.2.2.1 2, 48, .inr (.inl fun _ => 0)))]) H := hP
  have hD : va_D A ([(h0, .inr (4, [.ref q7, .ref q15, .null, .null, .null, .null, .int 0, .int 0, .int 0, .null, .int 0, .int 0, .int 0, .int 0, .int 0, .int 0, .int 0, .int 0, .long 0, .long 0, .null, .int 0])), (q7, .inl (G.2.2.1 2, 48, .inr (.inl fun _ => 0))), (q15, .inl (G.2.2.1 2, 48, .inr (.inl fun _ => 0))), (q23, .inl (G.2.2.1 2, 48, .inr (.inl fun _ => 0)))]) := hD
  refine va_putF (D := gD G) (ci := 4) (v := .ref q23) (ty := .array .long) (C := RX6) (T := TX6) (N := 22) hx hb hg kl_X6 tyX6 tyX6_ok nmX6 hown hK hP hD hS 0 rfl rfl 2 (by decide) (hg _ kq5_7) (fun _ h9 => h9) rfl hin rfl (by decide +kernel) rfl rfl (Nat.le_of_ble_eq_true rfl) dX6_init_25 (fun H locs hP hD hS => ?_)
  have hP : va_P (gD G) vwCl ([(h0, .inr (4, [.ref q7, .ref q15, .ref q23, .null, .null, .null, .int 0, .int 0, .int 0, .null, .int 0, .int 0, .int 0, .int 0, .int 0, .int 0, .int 0, .int 0, .long 0, .long 0, .null, .int 0])), (q7, .inl (G.2.2.1 2, 48, .inr (.inl fun _ => 0))), (q15, .inl (G.2.2.1 2, 48, .inr (.inl fun _ => 0))), (q23, .inl (G.2.2.1 2, 48, .inr (.inl fun _ => 0)))]) H := hP
  have hD : va_D A ([(h0, .inr (4, [.ref q7, .ref q15, .ref q23, .null, .null, .null, .int 0, .int 0, .int 0, .null, .int 0, .int 0, .int 0, .int 0, .int 0, .int 0, .int 0, .int 0, .long 0, .long 0, .null, .int 0])), (q7, .inl (G.2.2.1 2, 48, .inr (.inl fun _ => 0))), (q15, .inl (G.2.2.1 2, 48, .inr (.inl fun _ => 0))), (q23, .inl (G.2.2.1 2, 48, .inr (.inl fun _ => 0)))]) := hD
  refine lv_aload_n hx hb dX6_init_28 rfl (lv_at hl 0 rfl) ?_
  refine lv_sipush (v := (384 : Int32)) hx hb dX6_init_29 (by decide) ?_
  refine nwA (atype := .long) (t0 := 2) (a0 := (384, .inr (.inl fun _ => 0))) hx hb hg kq1_51 rfl rfl (fun _ _ => rfl) hK hP hD hS hA (arr_j 384) (by decide) (by decide) (by decide) (Nat.le_of_ble_eq_true rfl) (Nat.le_of_ble_eq_true rfl) dX6_init_32 (fun q32 H hP hD hS => ?_)
  have hP : va_P (gD G) vwCl ([(h0, .inr (4, [.ref q7, .ref q15, .ref q23, .null, .null, .null, .int 0, .int 0, .int 0, .null, .int 0, .int 0, .int 0, .int 0, .int 0, .int 0, .int 0, .int 0, .long 0, .long 0, .null, .int 0])), (q7, .inl (G.2.2.1 2, 48, .inr (.inl fun _ => 0))), (q15, .inl (G.2.2.1 2, 48, .inr (.inl fun _ => 0))), (q23, .inl (G.2.2.1 2, 48, .inr (.inl fun _ => 0))), (q32, .inl (G.2.2.1 2, 384, .inr (.inl fun _ => 0)))]) H := hP
  have hD : va_D A ([(h0, .inr (4, [.ref q7, .ref q15, .ref q23, .null, .null, .null, .int 0, .int 0, .int 0, .null, .int 0, .int 0, .int 0, .int 0, .int 0, .int 0, .int 0, .int 0, .long 0, .long 0, .null, .int 0])), (q7, .inl (G.2.2.1 2, 48, .inr (.inl fun _ => 0))), (q15, .inl (G.2.2.1 2, 48, .inr (.inl fun _ => 0))), (q23, .inl (G.2.2.1 2, 48, .inr (.inl fun _ => 0))), (q32, .inl (G.2.2.1 2, 384, .inr (.inl fun _ => 0)))]) := hD
  refine va_putF (D := gD G) (ci := 4) (v := .ref q32) (ty := .array .long) (C := RX6) (T := TX6) (N := 22) hx hb hg kl_X6 tyX6 tyX6_ok nmX6 hown hK hP hD hS 0 rfl rfl 3 (by decide) (hg _ kq5_8) (fun _ h9 => h9) rfl hin rfl (by decide +kernel) rfl rfl (Nat.le_of_ble_eq_true rfl) dX6_init_34 (fun H locs hP hD hS => ?_)
  have hP : va_P (gD G) vwCl ([(h0, .inr (4, [.ref q7, .ref q15, .ref q23, .ref q32, .null, .null, .int 0, .int 0, .int 0, .null, .int 0, .int 0, .int 0, .int 0, .int 0, .int 0, .int 0, .int 0, .long 0, .long 0, .null, .int 0])), (q7, .inl (G.2.2.1 2, 48, .inr (.inl fun _ => 0))), (q15, .inl (G.2.2.1 2, 48, .inr (.inl fun _ => 0))), (q23, .inl (G.2.2.1 2, 48, .inr (.inl fun _ => 0))), (q32, .inl (G.2.2.1 2, 384, .inr (.inl fun _ => 0)))]) H := hP
  have hD : va_D A ([(h0, .inr (4, [.ref q7, .ref q15, .ref q23, .ref q32, .null, .null, .int 0, .int 0, .int 0, .null, .int 0, .int 0, .int 0, .int 0, .int 0, .int 0, .int 0, .int 0, .long 0, .long 0, .null, .int 0])), (q7, .inl (G.2.2.1 2, 48, .inr (.inl fun _ => 0))), (q15, .inl (G.2.2.1 2, 48, .inr (.inl fun _ => 0))), (q23, .inl (G.2.2.1 2, 48, .inr (.inl fun _ => 0))), (q32, .inl (G.2.2.1 2, 384, .inr (.inl fun _ => 0)))]) := hD
  refine lv_aload_n hx hb dX6_init_37 rfl (lv_at hl 0 rfl) ?_
  refine lv_bipush (v := (96 : Int32)) hx hb dX6_init_38 (by decide) ?_
  refine nwA (atype := .long) (t0 := 2) (a0 := (96, .inr (.inl fun _ => 0))) hx hb hg kq1_51 rfl rfl (fun _ _ => rfl) hK hP hD hS hA (arr_j 96) (by decide) (by decide) (by decide) (Nat.le_of_ble_eq_true rfl) (Nat.le_of_ble_eq_true rfl) dX6_init_40 (fun q40 H hP hD hS => ?_)
  have hP : va_P (gD G) vwCl ([(h0, .inr (4, [.ref q7, .ref q15, .ref q23, .ref q32, .null, .null, .int 0, .int 0, .int 0, .null, .int 0, .int 0, .int 0, .int 0, .int 0, .int 0, .int 0, .int 0, .long 0, .long 0, .null, .int 0])), (q7, .inl (G.2.2.1 2, 48, .inr (.inl fun _ => 0))), (q15, .inl (G.2.2.1 2, 48, .inr (.inl fun _ => 0))), (q23, .inl (G.2.2.1 2, 48, .inr (.inl fun _ => 0))), (q32, .inl (G.2.2.1 2, 384, .inr (.inl fun _ => 0))), (q40, .inl (G.2.2.1 2, 96, .inr (.inl fun _ => 0)))]) H := hP
  have hD : va_D A ([(h0, .inr (4, [.ref q7, .ref q15, .ref q23, .ref q32, .null, .null, .int 0, .int 0, .int 0, .null, .int 0, .int 0, .int 0, .int 0, .int 0, .int 0, .int 0, .int 0, .long 0, .long 0, .null, .int 0])), (q7, .inl (G.2.2.1 2, 48, .inr (.inl fun _ => 0))), (q15, .inl (G.2.2.1 2, 48, .inr (.inl fun _ => 0))), (q23, .inl (G.2.2.1 2, 48, .inr (.inl fun _ => 0))), (q32, .inl (G.2.2.1 2, 384, .inr (.inl fun _ => 0))), (q40, .inl (G.2.2.1 2, 96, .inr (.inl fun _ => 0)))]) := hD
  refine va_putF (D := gD G) (ci := 4) (v := .ref q40) (ty := .array .long) (C := RX6) (T := TX6) (N := 22) hx hb hg kl_X6 tyX6 tyX6_ok nmX6 hown hK hP hD hS 0 rfl rfl 4 (by decide) (hg _ kq5_9) (fun _ h9 => h9) rfl hin rfl (by decide +kernel) rfl rfl (Nat.le_of_ble_eq_true rfl) dX6_init_42 (fun H locs hP hD hS => ?_)
  have hP : va_P (gD G) vwCl ([(h0, .inr (4, [.ref q7, .ref q15, .ref q23, .ref q32, .ref q40, .null, .int 0, .int 0, .int 0, .null, .int 0, .int 0, .int 0, .int 0, .int 0, .int 0, .int 0, .int 0, .long 0, .long 0, .null, .int 0])), (q7, .inl (G.2.2.1 2, 48, .inr (.inl fun _ => 0))), (q15, .inl (G.2.2.1 2, 48, .inr (.inl fun _ => 0))), (q23, .inl (G.2.2.1 2, 48, .inr (.inl fun _ => 0))), (q32, .inl (G.2.2.1 2, 384, .inr (.inl fun _ => 0))), (q40, .inl (G.2.2.1 2, 96, .inr (.inl fun _ => 0)))]) H := hP
  have hD : va_D A ([(h0, .inr (4, [.ref q7, .ref q15, .ref q23, .ref q32, .ref q40, .null, .int 0, .int 0, .int 0, .null, .int 0, .int 0, .int 0, .int 0, .int 0, .int 0, .int 0, .int 0, .long 0, .long 0, .null, .int 0])), (q7, .inl (G.2.2.1 2, 48, .inr (.inl fun _ => 0))), (q15, .inl (G.2.2.1 2, 48, .inr (.inl fun _ => 0))), (q23, .inl (G.2.2.1 2, 48, .inr (.inl fun _ => 0))), (q32, .inl (G.2.2.1 2, 384, .inr (.inl fun _ => 0))), (q40, .inl (G.2.2.1 2, 96, .inr (.inl fun _ => 0)))]) := hD
  refine lv_aload_n hx hb dX6_init_45 rfl (lv_at hl 0 rfl) ?_
  refine lv_iconst (v := (2 : Int32)) hx hb dX6_init_46 (by decide) ?_
  refine nwA (atype := .boolean) (t0 := 3) (a0 := (2, .inl fun _ => 0)) hx hb hg kq1_177 rfl rfl (fun _ _ => rfl) hK hP hD hS hA (arr_z 2) (by decide) (by decide) (by decide) (Nat.le_of_ble_eq_true rfl) (Nat.le_of_ble_eq_true rfl) dX6_init_47 (fun q47 H hP hD hS => ?_)
  have hP : va_P (gD G) vwCl ([(h0, .inr (4, [.ref q7, .ref q15, .ref q23, .ref q32, .ref q40, .null, .int 0, .int 0, .int 0, .null, .int 0, .int 0, .int 0, .int 0, .int 0, .int 0, .int 0, .int 0, .long 0, .long 0, .null, .int 0])), (q7, .inl (G.2.2.1 2, 48, .inr (.inl fun _ => 0))), (q15, .inl (G.2.2.1 2, 48, .inr (.inl fun _ => 0))), (q23, .inl (G.2.2.1 2, 48, .inr (.inl fun _ => 0))), (q32, .inl (G.2.2.1 2, 384, .inr (.inl fun _ => 0))), (q40, .inl (G.2.2.1 2, 96, .inr (.inl fun _ => 0))), (q47, .inl (G.2.2.1 3, 2, .inl fun _ => 0))]) H := hP
  have hD : va_D A ([(h0, .inr (4, [.ref q7, .ref q15, .ref q23, .ref q32, .ref q40, .null, .int 0, .int 0, .int 0, .null, .int 0, .int 0, .int 0, .int 0, .int 0, .int 0, .int 0, .int 0, .long 0, .long 0, .null, .int 0])), (q7, .inl (G.2.2.1 2, 48, .inr (.inl fun _ => 0))), (q15, .inl (G.2.2.1 2, 48, .inr (.inl fun _ => 0))), (q23, .inl (G.2.2.1 2, 48, .inr (.inl fun _ => 0))), (q32, .inl (G.2.2.1 2, 384, .inr (.inl fun _ => 0))), (q40, .inl (G.2.2.1 2, 96, .inr (.inl fun _ => 0))), (q47, .inl (G.2.2.1 3, 2, .inl fun _ => 0))]) := hD
  refine va_putF (D := gD G) (ci := 4) (v := .ref q47) (ty := .array .boolean) (C := RX6) (T := TX6) (N := 22) hx hb hg kl_X6 tyX6 tyX6_ok nmX6 hown hK hP hD hS 0 rfl rfl 5 (by decide) (hg _ kq5_10) (fun _ h9 => h9) rfl hin rfl (by decide +kernel) rfl rfl (Nat.le_of_ble_eq_true rfl) dX6_init_49 (fun H locs hP hD hS => ?_)
  have hP : va_P (gD G) vwCl ([(h0, .inr (4, [.ref q7, .ref q15, .ref q23, .ref q32, .ref q40, .ref q47, .int 0, .int 0, .int 0, .null, .int 0, .int 0, .int 0, .int 0, .int 0, .int 0, .int 0, .int 0, .long 0, .long 0, .null, .int 0])), (q7, .inl (G.2.2.1 2, 48, .inr (.inl fun _ => 0))), (q15, .inl (G.2.2.1 2, 48, .inr (.inl fun _ => 0))), (q23, .inl (G.2.2.1 2, 48, .inr (.inl fun _ => 0))), (q32, .inl (G.2.2.1 2, 384, .inr (.inl fun _ => 0))), (q40, .inl (G.2.2.1 2, 96, .inr (.inl fun _ => 0))), (q47, .inl (G.2.2.1 3, 2, .inl fun _ => 0))]) H := hP
  have hD : va_D A ([(h0, .inr (4, [.ref q7, .ref q15, .ref q23, .ref q32, .ref q40, .ref q47, .int 0, .int 0, .int 0, .null, .int 0, .int 0, .int 0, .int 0, .int 0, .int 0, .int 0, .int 0, .long 0, .long 0, .null, .int 0])), (q7, .inl (G.2.2.1 2, 48, .inr (.inl fun _ => 0))), (q15, .inl (G.2.2.1 2, 48, .inr (.inl fun _ => 0))), (q23, .inl (G.2.2.1 2, 48, .inr (.inl fun _ => 0))), (q32, .inl (G.2.2.1 2, 384, .inr (.inl fun _ => 0))), (q40, .inl (G.2.2.1 2, 96, .inr (.inl fun _ => 0))), (q47, .inl (G.2.2.1 3, 2, .inl fun _ => 0))]) := hD
  refine lv_aload_n hx hb dX6_init_52 rfl (lv_at hl 0 rfl) ?_
  refine lv_sipush (v := (600 : Int32)) hx hb dX6_init_53 (by decide) ?_
  refine nwA (atype := .int) (t0 := 1) (a0 := (600, .inl fun _ => 0)) hx hb hg kq1_50 rfl rfl (fun _ _ => rfl) hK hP hD hS hA (arr_i 600) (by decide) (by decide) (by decide) (Nat.le_of_ble_eq_true rfl) (Nat.le_of_ble_eq_true rfl) dX6_init_56 (fun q56 H hP hD hS => ?_)
  have hP : va_P (gD G) vwCl ([(h0, .inr (4, [.ref q7, .ref q15, .ref q23, .ref q32, .ref q40, .ref q47, .int 0, .int 0, .int 0, .null, .int 0, .int 0, .int 0, .int 0, .int 0, .int 0, .int 0, .int 0, .long 0, .long 0, .null, .int 0])), (q7, .inl (G.2.2.1 2, 48, .inr (.inl fun _ => 0))), (q15, .inl (G.2.2.1 2, 48, .inr (.inl fun _ => 0))), (q23, .inl (G.2.2.1 2, 48, .inr (.inl fun _ => 0))), (q32, .inl (G.2.2.1 2, 384, .inr (.inl fun _ => 0))), (q40, .inl (G.2.2.1 2, 96, .inr (.inl fun _ => 0))), (q47, .inl (G.2.2.1 3, 2, .inl fun _ => 0)), (q56, .inl (G.2.2.1 1, 600, .inl fun _ => 0))]) H := hP
  have hD : va_D A ([(h0, .inr (4, [.ref q7, .ref q15, .ref q23, .ref q32, .ref q40, .ref q47, .int 0, .int 0, .int 0, .null, .int 0, .int 0, .int 0, .int 0, .int 0, .int 0, .int 0, .int 0, .long 0, .long 0, .null, .int 0])), (q7, .inl (G.2.2.1 2, 48, .inr (.inl fun _ => 0))), (q15, .inl (G.2.2.1 2, 48, .inr (.inl fun _ => 0))), (q23, .inl (G.2.2.1 2, 48, .inr (.inl fun _ => 0))), (q32, .inl (G.2.2.1 2, 384, .inr (.inl fun _ => 0))), (q40, .inl (G.2.2.1 2, 96, .inr (.inl fun _ => 0))), (q47, .inl (G.2.2.1 3, 2, .inl fun _ => 0)), (q56, .inl (G.2.2.1 1, 600, .inl fun _ => 0))]) := hD
  refine va_putF (D := gD G) (ci := 4) (v := .ref q56) (ty := .array .int) (C := RX6) (T := TX6) (N := 22) hx hb hg kl_X6 tyX6 tyX6_ok nmX6 hown hK hP hD hS 0 rfl rfl 9 (by decide) (hg _ kq5_14) (fun _ h9 => h9) rfl hin rfl (by decide +kernel) rfl rfl (Nat.le_of_ble_eq_true rfl) dX6_init_58 (fun H locs hP hD hS => ?_)
  have hP : va_P (gD G) vwCl ([(h0, .inr (4, [.ref q7, .ref q15, .ref q23, .ref q32, .ref q40, .ref q47, .int 0, .int 0, .int 0, .ref q56, .int 0, .int 0, .int 0, .int 0, .int 0, .int 0, .int 0, .int 0, .long 0, .long 0, .null, .int 0])), (q7, .inl (G.2.2.1 2, 48, .inr (.inl fun _ => 0))), (q15, .inl (G.2.2.1 2, 48, .inr (.inl fun _ => 0))), (q23, .inl (G.2.2.1 2, 48, .inr (.inl fun _ => 0))), (q32, .inl (G.2.2.1 2, 384, .inr (.inl fun _ => 0))), (q40, .inl (G.2.2.1 2, 96, .inr (.inl fun _ => 0))), (q47, .inl (G.2.2.1 3, 2, .inl fun _ => 0)), (q56, .inl (G.2.2.1 1, 600, .inl fun _ => 0))]) H := hP
  have hD : va_D A ([(h0, .inr (4, [.ref q7, .ref q15, .ref q23, .ref q32, .ref q40, .ref q47, .int 0, .int 0, .int 0, .ref q56, .int 0, .int 0, .int 0, .int 0, .int 0, .int 0, .int 0, .int 0, .long 0, .long 0, .null, .int 0])), (q7, .inl (G.2.2.1 2, 48, .inr (.inl fun _ => 0))), (q15, .inl (G.2.2.1 2, 48, .inr (.inl fun _ => 0))), (q23, .inl (G.2.2.1 2, 48, .inr (.inl fun _ => 0))), (q32, .inl (G.2.2.1 2, 384, .inr (.inl fun _ => 0))), (q40, .inl (G.2.2.1 2, 96, .inr (.inl fun _ => 0))), (q47, .inl (G.2.2.1 3, 2, .inl fun _ => 0)), (q56, .inl (G.2.2.1 1, 600, .inl fun _ => 0))]) := hD
  refine lv_aload_n hx hb dX6_init_61 rfl (lv_at hl 0 rfl) ?_
  refine lv_iconst (v := (-1 : Int32)) hx hb dX6_init_62 (by decide) ?_
  refine va_put (D := gD G) (ci := 4) (v := .int (-1 : Int32)) (ty := .int) (C := RX6) (T := TX6) (N := 22) hx hb hg kl_X6 tyX6 tyX6_ok nmX6 hown hK hP hD hS 0 rfl rfl 17 (by decide) (hg _ kq5_22) (fun _ h9 => h9) rfl (by decide +kernel) rfl rfl (Nat.le_of_ble_eq_true rfl) dX6_init_63 (fun H locs hP hD hS => ?_)
  have hP : va_P (gD G) vwCl ([(h0, .inr (4, [.ref q7, .ref q15, .ref q23, .ref q32, .ref q40, .ref q47, .int 0, .int 0, .int 0, .ref q56, .int 0, .int 0, .int 0, .int 0, .int 0, .int 0, .int 0, .int (-1 : Int32), .long 0, .long 0, .null, .int 0])), (q7, .inl (G.2.2.1 2, 48, .inr (.inl fun _ => 0))), (q15, .inl (G.2.2.1 2, 48, .inr (.inl fun _ => 0))), (q23, .inl (G.2.2.1 2, 48, .inr (.inl fun _ => 0))), (q32, .inl (G.2.2.1 2, 384, .inr (.inl fun _ => 0))), (q40, .inl (G.2.2.1 2, 96, .inr (.inl fun _ => 0))), (q47, .inl (G.2.2.1 3, 2, .inl fun _ => 0)), (q56, .inl (G.2.2.1 1, 600, .inl fun _ => 0))]) H := hP
  have hD : va_D A ([(h0, .inr (4, [.ref q7, .ref q15, .ref q23, .ref q32, .ref q40, .ref q47, .int 0, .int 0, .int 0, .ref q56, .int 0, .int 0, .int 0, .int 0, .int 0, .int 0, .int 0, .int (-1 : Int32), .long 0, .long 0, .null, .int 0])), (q7, .inl (G.2.2.1 2, 48, .inr (.inl fun _ => 0))), (q15, .inl (G.2.2.1 2, 48, .inr (.inl fun _ => 0))), (q23, .inl (G.2.2.1 2, 48, .inr (.inl fun _ => 0))), (q32, .inl (G.2.2.1 2, 384, .inr (.inl fun _ => 0))), (q40, .inl (G.2.2.1 2, 96, .inr (.inl fun _ => 0))), (q47, .inl (G.2.2.1 3, 2, .inl fun _ => 0)), (q56, .inl (G.2.2.1 1, 600, .inl fun _ => 0))]) := hD
  refine lv_aload_n hx hb dX6_init_66 rfl (lv_at hl 0 rfl) ?_
  refine lv_bipush (v := (20 : Int32)) hx hb dX6_init_67 (by decide) ?_
  refine nwA (atype := .int) (t0 := 1) (a0 := (20, .inl fun _ => 0)) hx hb hg kq1_50 rfl rfl (fun _ _ => rfl) hK hP hD hS hA (arr_i 20) (by decide) (by decide) (by decide) (Nat.le_of_ble_eq_true rfl) (Nat.le_of_ble_eq_true rfl) dX6_init_69 (fun q69 H hP hD hS => ?_)
  have hP : va_P (gD G) vwCl ([(h0, .inr (4, [.ref q7, .ref q15, .ref q23, .ref q32, .ref q40, .ref q47, .int 0, .int 0, .int 0, .ref q56, .int 0, .int 0, .int 0, .int 0, .int 0, .int 0, .int 0, .int (-1 : Int32), .long 0, .long 0, .null, .int 0])), (q7, .inl (G.2.2.1 2, 48, .inr (.inl fun _ => 0))), (q15, .inl (G.2.2.1 2, 48, .inr (.inl fun _ => 0))), (q23, .inl (G.2.2.1 2, 48, .inr (.inl fun _ => 0))), (q32, .inl (G.2.2.1 2, 384, .inr (.inl fun _ => 0))), (q40, .inl (G.2.2.1 2, 96, .inr (.inl fun _ => 0))), (q47, .inl (G.2.2.1 3, 2, .inl fun _ => 0)), (q56, .inl (G.2.2.1 1, 600, .inl fun _ => 0)), (q69, .inl (G.2.2.1 1, 20, .inl fun _ => 0))]) H := hP
  have hD : va_D A ([(h0, .inr (4, [.ref q7, .ref q15, .ref q23, .ref q32, .ref q40, .ref q47, .int 0, .int 0, .int 0, .ref q56, .int 0, .int 0, .int 0, .int 0, .int 0, .int 0, .int 0, .int (-1 : Int32), .long 0, .long 0, .null, .int 0])), (q7, .inl (G.2.2.1 2, 48, .inr (.inl fun _ => 0))), (q15, .inl (G.2.2.1 2, 48, .inr (.inl fun _ => 0))), (q23, .inl (G.2.2.1 2, 48, .inr (.inl fun _ => 0))), (q32, .inl (G.2.2.1 2, 384, .inr (.inl fun _ => 0))), (q40, .inl (G.2.2.1 2, 96, .inr (.inl fun _ => 0))), (q47, .inl (G.2.2.1 3, 2, .inl fun _ => 0)), (q56, .inl (G.2.2.1 1, 600, .inl fun _ => 0)), (q69, .inl (G.2.2.1 1, 20, .inl fun _ => 0))]) := hD
  refine va_putF (D := gD G) (ci := 4) (v := .ref q69) (ty := .array .int) (C := RX6) (T := TX6) (N := 22) hx hb hg kl_X6 tyX6 tyX6_ok nmX6 hown hK hP hD hS 0 rfl rfl 20 (by decide) (hg _ kq5_25) (fun _ h9 => h9) rfl hin rfl (by decide +kernel) rfl rfl (Nat.le_of_ble_eq_true rfl) dX6_init_71 (fun H locs hP hD hS => ?_)
  have hP : va_P (gD G) vwCl ([(h0, .inr (4, [.ref q7, .ref q15, .ref q23, .ref q32, .ref q40, .ref q47, .int 0, .int 0, .int 0, .ref q56, .int 0, .int 0, .int 0, .int 0, .int 0, .int 0, .int 0, .int (-1 : Int32), .long 0, .long 0, .ref q69, .int 0])), (q7, .inl (G.2.2.1 2, 48, .inr (.inl fun _ => 0))), (q15, .inl (G.2.2.1 2, 48, .inr (.inl fun _ => 0))), (q23, .inl (G.2.2.1 2, 48, .inr (.inl fun _ => 0))), (q32, .inl (G.2.2.1 2, 384, .inr (.inl fun _ => 0))), (q40, .inl (G.2.2.1 2, 96, .inr (.inl fun _ => 0))), (q47, .inl (G.2.2.1 3, 2, .inl fun _ => 0)), (q56, .inl (G.2.2.1 1, 600, .inl fun _ => 0)), (q69, .inl (G.2.2.1 1, 20, .inl fun _ => 0))]) H := hP
  have hD : va_D A ([(h0, .inr (4, [.ref q7, .ref q15, .ref q23, .ref q32, .ref q40, .ref q47, .int 0, .int 0, .int 0, .ref q56, .int 0, .int 0, .int 0, .int 0, .int 0, .int 0, .int 0, .int (-1 : Int32), .long 0, .long 0, .ref q69, .int 0])), (q7, .inl (G.2.2.1 2, 48, .inr (.inl fun _ => 0))), (q15, .inl (G.2.2.1 2, 48, .inr (.inl fun _ => 0))), (q23, .inl (G.2.2.1 2, 48, .inr (.inl fun _ => 0))), (q32, .inl (G.2.2.1 2, 384, .inr (.inl fun _ => 0))), (q40, .inl (G.2.2.1 2, 96, .inr (.inl fun _ => 0))), (q47, .inl (G.2.2.1 3, 2, .inl fun _ => 0)), (q56, .inl (G.2.2.1 1, 600, .inl fun _ => 0)), (q69, .inl (G.2.2.1 1, 20, .inl fun _ => 0))]) := hD
  have hP : va_P (gD G) vwCl (wX6 G h0 (fun k : Nat => if k = 0 then q7 else if k = 1 then q15 else if k = 2 then q23 else if k = 3 then q32 else if k = 4 then q40 else if k = 5 then q47 else if k = 9 then q56 else if k = 20 then q69 else 0) iX6) H := hP
  have hD : va_D A (wX6 G h0 (fun k : Nat => if k = 0 then q7 else if k = 1 then q15 else if k = 2 then q23 else if k = 3 then q32 else if k = 4 then q40 else if k = 5 then q47 else if k = 9 then q56 else if k = 20 then q69 else 0) iX6) := hD
  generalize (fun k : Nat => if k = 0 then q7 else if k = 1 then q15 else if k = 2 then q23 else if k = 3 then q32 else if k = 4 then q40 else if k = 5 then q47 else if k = 9 then q56 else if k = 20 then q69 else 0) = ad at hP hD
  rw [f_X6_init] at hf
  obtain ⟨q1, e1, hf⟩ := tbd hf
  refine lv_aload_n hx hb dX6_init_74 rfl (lv_at hl 0 rfl) ?_
  refine kVv1 (As := []) (rest := []) hC (c_X6_begins (G := G) e1) kq4_233 kc_X6_begins (by decide) 0 (ci := 4) rfl rfl hP hK hD hE hS hA hl.1 (Nat.le_of_ble_eq_true rfl) ⟨Nat.le_of_ble_eq_true rfl, Nat.le_of_ble_eq_true rfl⟩ dX6_init_75 (fun u9 H locs hw hP hD hS => ?_)
  obtain rfl := hw
  have hP : va_P (gD G) vwCl (wX6 G h0 ad q1) H := hP
  have hD : va_D A (wX6 G h0 ad q1) := hD
  refine lv_aload_n hx hb dX6_init_78 rfl (lv_at hl 0 rfl) ?_
  refine lv_aload_n hx hb dX6_init_79 rfl (lv_at hl 0 rfl) ?_
  refine va_get (D := gD G) (ci := 4) (v := .ref (ad 1)) (C := RX6) (T := TX6) (N := 22) hx hb hg kl_X6 hown hK hP 0 rfl rfl 1 (by decide) (hg _ kq5_6) (fun _ h9 => h9) rfl dX6_init_80 ?_
  refine lv_iconst (v := (0 : Int32)) hx hb dX6_init_83 (by decide) ?_
  refine kVv1 (As := [.ref (ad 1), .int (0 : Int32)]) (rest := []) hC (c_X6_becomes_1 (G := G) hf) kq5_1 kc_X6_becomes_1 (by decide) 0 (ci := 4) rfl rfl hP hK hD hE hS hA hl.1 (Nat.le_of_ble_eq_true rfl) ⟨Nat.le_of_ble_eq_true rfl, Nat.le_of_ble_eq_true rfl⟩ dX6_init_84 (fun u9 H locs hw hP hD hS => ?_)
  obtain rfl := hw
  have hP : va_P (gD G) vwCl (wX6 G h0 ad q) H := hP
  have hD : va_D A (wX6 G h0 ad q) := hD
  refine W.widen (k := 8) (n := 1246) (by decide) (by decide) ?_
  exact e_v (wf := fun v : (Nat → Nat) × Ob => wX6 G h0 v.1 v.2) hx hb hr hlk (ad, q) rfl hP hK hD hS dX6_init_87
