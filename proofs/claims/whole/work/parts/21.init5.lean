theorem dX5_init_0 : decode cX5_init 0 = .ok (.aload_n 0, 1) := by decide +kernel
theorem dX5_init_1 : decode cX5_init 1 = .ok (.invokespecial 1, 3) := by decide +kernel
theorem dX5_init_4 : decode cX5_init 4 = .ok (.aload_n 0, 1) := by decide +kernel
theorem dX5_init_5 : decode cX5_init 5 = .ok (.new 7, 3) := by decide +kernel
theorem dX5_init_8 : decode cX5_init 8 = .ok (.dup, 1) := by decide +kernel
theorem dX5_init_9 : decode cX5_init 9 = .ok (.invokespecial 9, 3) := by decide +kernel
theorem dX5_init_12 : decode cX5_init 12 = .ok (.putfield 10, 3) := by decide +kernel
theorem dX5_init_15 : decode cX5_init 15 = .ok (.aload_n 0, 1) := by decide +kernel
theorem dX5_init_16 : decode cX5_init 16 = .ok (.new 7, 3) := by decide +kernel
theorem dX5_init_19 : decode cX5_init 19 = .ok (.dup, 1) := by decide +kernel
theorem dX5_init_20 : decode cX5_init 20 = .ok (.invokespecial 9, 3) := by decide +kernel
theorem dX5_init_23 : decode cX5_init 23 = .ok (.putfield 16, 3) := by decide +kernel
theorem dX5_init_26 : decode cX5_init 26 = .ok (.aload_n 0, 1) := by decide +kernel
theorem dX5_init_27 : decode cX5_init 27 = .ok (.new 7, 3) := by decide +kernel
theorem dX5_init_30 : decode cX5_init 30 = .ok (.dup, 1) := by decide +kernel
theorem dX5_init_31 : decode cX5_init 31 = .ok (.invokespecial 9, 3) := by decide +kernel
theorem dX5_init_34 : decode cX5_init 34 = .ok (.putfield 19, 3) := by decide +kernel
theorem dX5_init_37 : decode cX5_init 37 = .ok (.aload_n 0, 1) := by decide +kernel
theorem dX5_init_38 : decode cX5_init 38 = .ok (.bipush 8, 2) := by decide +kernel
theorem dX5_init_40 : decode cX5_init 40 = .ok (.anewarray 7, 3) := by decide +kernel
theorem dX5_init_43 : decode cX5_init 43 = .ok (.putfield 22, 3) := by decide +kernel
theorem dX5_init_46 : decode cX5_init 46 = .ok (.aload_n 0, 1) := by decide +kernel
theorem dX5_init_47 : decode cX5_init 47 = .ok (.iconst 2, 1) := by decide +kernel
theorem dX5_init_48 : decode cX5_init 48 = .ok (.anewarray 7, 3) := by decide +kernel
theorem dX5_init_51 : decode cX5_init 51 = .ok (.putfield 26, 3) := by decide +kernel
theorem dX5_init_54 : decode cX5_init 54 = .ok (.aload_n 0, 1) := by decide +kernel
theorem dX5_init_55 : decode cX5_init 55 = .ok (.iconst 2, 1) := by decide +kernel
theorem dX5_init_56 : decode cX5_init 56 = .ok (.newarray .boolean, 2) := by decide +kernel
theorem dX5_init_58 : decode cX5_init 58 = .ok (.putfield 29, 3) := by decide +kernel
theorem dX5_init_61 : decode cX5_init 61 = .ok (.aload_n 0, 1) := by decide +kernel
theorem dX5_init_62 : decode cX5_init 62 = .ok (.new 33, 3) := by decide +kernel
theorem dX5_init_65 : decode cX5_init 65 = .ok (.dup, 1) := by decide +kernel
theorem dX5_init_66 : decode cX5_init 66 = .ok (.invokespecial 35, 3) := by decide +kernel
theorem dX5_init_69 : decode cX5_init 69 = .ok (.putfield 36, 3) := by decide +kernel
theorem dX5_init_72 : decode cX5_init 72 = .ok (.aload_n 0, 1) := by decide +kernel
theorem dX5_init_73 : decode cX5_init 73 = .ok (.bipush 18, 2) := by decide +kernel
theorem dX5_init_75 : decode cX5_init 75 = .ok (.newarray .byte, 2) := by decide +kernel
theorem dX5_init_77 : decode cX5_init 77 = .ok (.putfield 40, 3) := by decide +kernel
theorem dX5_init_80 : decode cX5_init 80 = .ok (.iconst 0, 1) := by decide +kernel
theorem dX5_init_81 : decode cX5_init 81 = .ok (.istore_n 1, 1) := by decide +kernel
theorem dX5_init_82 : decode cX5_init 82 = .ok (.iload_n 1, 1) := by decide +kernel
theorem dX5_init_83 : decode cX5_init 83 = .ok (.bipush 8, 2) := by decide +kernel
theorem dX5_init_85 : decode cX5_init 85 = .ok (.if_icmp .ge 22, 3) := by decide +kernel
theorem dX5_init_88 : decode cX5_init 88 = .ok (.aload_n 0, 1) := by decide +kernel
theorem dX5_init_89 : decode cX5_init 89 = .ok (.getfield 22, 3) := by decide +kernel
theorem dX5_init_92 : decode cX5_init 92 = .ok (.iload_n 1, 1) := by decide +kernel
theorem dX5_init_93 : decode cX5_init 93 = .ok (.new 7, 3) := by decide +kernel
theorem dX5_init_96 : decode cX5_init 96 = .ok (.dup, 1) := by decide +kernel
theorem dX5_init_97 : decode cX5_init 97 = .ok (.invokespecial 9, 3) := by decide +kernel
theorem dX5_init_100 : decode cX5_init 100 = .ok (.aastore, 1) := by decide +kernel
theorem dX5_init_101 : decode cX5_init 101 = .ok (.iinc 1 1, 3) := by decide +kernel
theorem dX5_init_104 : decode cX5_init 104 = .ok (.goto (-22), 3) := by decide +kernel
theorem dX5_init_107 : decode cX5_init 107 = .ok (.iconst 0, 1) := by decide +kernel
theorem dX5_init_108 : decode cX5_init 108 = .ok (.istore_n 1, 1) := by decide +kernel
theorem dX5_init_109 : decode cX5_init 109 = .ok (.iload_n 1, 1) := by decide +kernel
theorem dX5_init_110 : decode cX5_init 110 = .ok (.iconst 2, 1) := by decide +kernel
theorem dX5_init_111 : decode cX5_init 111 = .ok (.if_icmp .ge 22, 3) := by decide +kernel
theorem dX5_init_114 : decode cX5_init 114 = .ok (.aload_n 0, 1) := by decide +kernel
theorem dX5_init_115 : decode cX5_init 115 = .ok (.getfield 26, 3) := by decide +kernel
theorem dX5_init_118 : decode cX5_init 118 = .ok (.iload_n 1, 1) := by decide +kernel
theorem dX5_init_119 : decode cX5_init 119 = .ok (.new 7, 3) := by decide +kernel
theorem dX5_init_122 : decode cX5_init 122 = .ok (.dup, 1) := by decide +kernel
theorem dX5_init_123 : decode cX5_init 123 = .ok (.invokespecial 9, 3) := by decide +kernel
theorem dX5_init_126 : decode cX5_init 126 = .ok (.aastore, 1) := by decide +kernel
theorem dX5_init_127 : decode cX5_init 127 = .ok (.iinc 1 1, 3) := by decide +kernel
theorem dX5_init_130 : decode cX5_init 130 = .ok (.goto (-21), 3) := by decide +kernel
theorem dX5_init_133 : decode cX5_init 133 = .ok (.return_, 1) := by decide +kernel
theorem kc_X5_init : Cond.instanceMethod yX5_init ∈ lw_g ∧ Cond.initialized yX5_init.cls ∈ lw_g ∧ Cond.code yX5_init cX5_init 2 none ∈ lw_g ∧ yX5_init.cls ≠ "java/lang/invoke/MethodHandle" ∧ yX5_init.cls ≠ "java/lang/invoke/VarHandle" ∧ (parseMethodDescriptor yX5_init.desc).map (fun d => d.parameters.length) = some 0 := ⟨kq1_25, kq1_1, kq1_26, by decide +kernel, by decide +kernel, by decide +kernel⟩
def iX5 : Ob := zz
def rqW (G : Gp) (q : Nat) (a b : Nat → Nat) : va_W := wX4 G q a iX4 ++ wX0 G (a 17) b iX0
def Bn (G : Gp) (n : Nat) (qa : Nat → Nat) (ra rb : Nat → Nat → Nat) : va_W := (List.range n).flatMap fun i => rqW G (qa i) (ra i) (rb i)
theorem Bn_succ {G : Gp} {n : Nat} {qa : Nat → Nat} {ra rb : Nat → Nat → Nat} (q : Nat) (a b : Nat → Nat) : Bn G n qa ra rb ++ rqW G q a b = Bn G (n + 1) (va_up qa n q) (va_up ra n a) (va_up rb n b) := by
  unfold Bn
  rw [List.range_succ, List.flatMap_append, List.flatMap_cons, List.flatMap_nil, List.append_nil, va_up_self, va_up_self, va_up_self]
  congr 1
  refine fm_congr _ fun j hj => ?_
  have hj := List.mem_range.mp hj
  rw [va_up_ne _ _ (by omega), va_up_ne _ _ (by omega), va_up_ne _ _ (by omega)]
theorem pmA {α : Type} (A B C : List α) : ((A ++ B) ++ C).Perm ((A ++ C) ++ B) := by
  rw [List.append_assoc, List.append_assoc]
  exact List.perm_append_comm.append_left A
theorem va_P_cons {D : va_G} {cl : List vw_C} {x : Nat × va_E} {ws : va_W} {H : Heap} : va_P D cl (x :: ws) H ↔ va_at D cl x H ∧ va_P D cl ws H :=
  ⟨fun h => ⟨h 0 x rfl, fun k q hk => h (k + 1) q hk⟩, fun h k q hk => by
    cases k with
    | zero => cases hk; exact h.1
    | succ k => exact h.2 k q hk⟩
theorem va_D_congr {A : Nat → Prop} {ws ws' : va_W} (h : va_D A ws) (e : ws.map Prod.fst = ws'.map Prod.fst) : va_D A ws' := nd_va_D (e ▸ va_D_nd h) fun q hq => by
  have h1 : q.1 ∈ ws.map Prod.fst := by rw [e]; exact List.mem_map.mpr ⟨q, hq, rfl⟩
  obtain ⟨q', hq', e'⟩ := List.mem_map.mp h1
  obtain ⟨i, hi⟩ := List.getElem?_of_mem hq'
  rw [← e']
  exact h.2 i q' hi
theorem cellq (cA : ClassId) (n : Nat) (f g : Nat → Option Nat) (h : ∀ j, j < n → f j = g j) : vp_cell cA (n, .inr (.inr (.inr (.inr f)))) = vp_cell cA (n, .inr (.inr (.inr (.inr g)))) := by
  simp only [vp_cell]
  unfold arrV
  congr 1
  apply Array.ext
  · simp
  · intro i h1 h2
    simp at h1
    simp [h i h1]
section I5
variable {p : Program} {l : Launch} {e : Env} {R : Room} {s : State} {m : MethodId} {args : Array Value} {below : List Frame} {meth : Method} {c : Code} {H : Heap} {locs : List Loc} {cells slots : Nat} {Q : State → Prop}
variable {pc : Nat} {ls : Array Slot} {rest : List Value} {A : Nat → Prop} {G : Gp}
/-- a new row of references to receivers -/
theorem nwQ {cc : ByteArray} (hx : p.tables.exec = Jvm.exec) (hb : c.code = cc) {own : String} {index : Nat} (hown : s.vm.findClass own = some m.cls) (hclink : (Cond.classLink own index RX4).before args s = true) (hover : va_AO RX4 s)
    {ws : va_W} (hK : va_K (gD G) vwCl (gT G) s) (hP : va_P (gD G) vwCl ws H) (hD : va_D A ws) (hS : va_S A s.heap H locs) (hA : ∀ q, s.heap.size ≤ q → A q)
    {n : Int32} {N' : Nat} (hn : ¬ n < 0) (hN : n.toNatClampNeg = N') (hbytes : N' * 4 ≤ 536870912) (hcells : cells + 1 ≤ R.cells) (hslots : slots + N' ≤ R.slots) (hdg : decode cc pc = .ok (.anewarray index, 3))
    (kk : ∀ (q : Nat) (H1 : Heap), va_P (gD G) vwCl (ws ++ [(q, .inl (G.2.2.1 4, N', .inr (.inr (.inr (.inr (fun _ => none))))))]) H1 → va_D A (ws ++ [(q, .inl (G.2.2.1 4, N', .inr (.inr (.inr (.inr (fun _ => none))))))]) → va_S A s.heap H1 locs → W p l e R s m args below meth c H1 locs (cells + 1) (slots + N') Q (F0 m (pc + 3) ls (.ref q :: rest))) :
    W p l e R s m args below meth c H locs cells slots Q (F0 m pc ls (.int n :: rest)) := by
  refine va_newq hx hb hown hclink hover hK hP hD hS hA hn hN hbytes hcells hslots hdg (fun q cA H1 hK1 hP1 hD1 hS1 => ?_)
  obtain ⟨kA, comp, -, -, -, h1⟩ := (hK1.2 (gT G).length (cA, .object RX4) (by simp)).2
  obtain ⟨kA2, comp2, -, -, -, h2⟩ := (hK.2 4 (G.2.2.1 4, .object RX4) rfl).2
  have e : cA = G.2.2.1 4 := Option.some.inj (h1.symm.trans h2)
  subst e
  exact kk q H1 hP1 hD1 hS1
/-- new Receiver(): new, dup, invokespecial -/
theorem newR {av : List Value} (hC : CallFix p m c cX5_init 2 s args (Cond.code yX5_init cX5_init 2 none :: lw_g) RX5) {A0 : va_W} {n : Nat} {qa : Nat → Nat} {ra rb : Nat → Nat → Nat}
    (hP : va_P (gD G) vwCl (A0 ++ Bn G n qa ra rb) H) (hK : va_K (gD G) vwCl (gT G) s) (hD : va_D A (A0 ++ Bn G n qa ra rb)) (hE : Ev (gE G) A s) (hS : va_S A s.heap H locs) (hA : ∀ q : Nat, s.heap.size ≤ q → A q) (hls : ls.size = 2) (hW : (rest.map fun v => v.category).sum ≤ 7) (hcs : cells + 9 ≤ R.cells ∧ slots + 73 ≤ R.slots) (hR : 3 ≤ R.frames ∧ 60 ≤ R.locals)
    (d0 : decode cX5_init pc = .ok (.new 7, 3)) (d3 : decode cX5_init (pc + 3) = .ok (.dup, 1)) (d4 : decode cX5_init (pc + 4) = .ok (.invokespecial 9, 3))
    (kk : ∀ (q : Nat) (a b : Nat → Nat) (H1 : Heap) (locs1 : List Loc), va_P (gD G) vwCl (A0 ++ Bn G (n + 1) (va_up qa n q) (va_up ra n a) (va_up rb n b)) H1 → va_D A (A0 ++ Bn G (n + 1) (va_up qa n q) (va_up ra n a) (va_up rb n b)) → va_S A s.heap H1 locs1 → (∃ (k : Nat) (vs : List Value), (A0 ++ Bn G (n + 1) (va_up qa n q) (va_up ra n a) (va_up rb n b))[k]? = some (q, .inr (2, vs))) → W p l e R s m args below meth c H1 locs1 (cells + 9) (slots + 73) Q (F0 m (pc + 7) ls (.ref q :: rest))) :
    W p l e R s m args below meth c H locs cells slots Q (F0 m pc ls rest) := by
  obtain ⟨hx, hb, hml, hown, hts⟩ := id hC
  have hg : ∀ w ∈ lw_g, w.before args s = true := fun w h => hts _ (List.mem_cons_of_mem _ h)
  refine va_new (ci := 2) (fs := [.null, .int 0, .int 0, .int 0, .int 0, .int 0, .long 0, .long 0, .null, .null, .null, .int 0, .int 0, .int 0, .null, .null, .int 0, .null]) (C := RX4) (T := TX4) (N := 18) hx hb hg kl_X4 tyX4 tyX4_ok hown (hg _ kq1_30) (hg _ kq1_31) (hg _ kq1_2) hK hP hD hS hA rfl (by decide +kernel) (by have := hcs.1; omega) (by have := hcs.2; omega) d0 (fun q H hP hD hS => ?_)
  refine lv_dup hx hb d3 rfl ?_
  refine kIn (As := []) (rest := .ref q :: rest) hC (c_X4_init (G := G)) (hE.2.2.2.1 (RX5, 9, yX4_init) (by decide +kernel)) kc_X4_init rfl ⟨rfl, rfl, by have := hR.1; show 2 + 1 ≤ _; omega, by have := hR.2; show 8 + (1 + 11) + 33 ≤ _; omega⟩ hP hK hD hE hS hA (out := fun v => (A0 ++ Bn G n qa ra rb) ++ (wX4 G q v.1 v.2.2.1 ++ wX0 G (v.1 17) v.2.1 v.2.2.2)) List.perm_append_comm (fun _ => List.perm_append_comm) hls (by rw [List.map_cons, List.sum_cons]; show 1 + _ ≤ 8; omega) ⟨by have := hcs.1; show cells + 1 + 8 ≤ _; omega, by have := hcs.2; show slots + 18 + 55 ≤ _; omega⟩ d4 (fun u9 H locs hw hP hD hS => ?_)
  obtain ⟨a9, b9, u9⟩ := u9
  obtain rfl : u9 = (iX4, iX0) := hw
  have he : (A0 ++ Bn G n qa ra rb) ++ (wX4 G q a9 iX4 ++ wX0 G (a9 17) b9 iX0) = A0 ++ Bn G (n + 1) (va_up qa n q) (va_up ra n a9) (va_up rb n b9) := by
    rw [List.append_assoc]
    exact congrArg (fun l => A0 ++ l) (Bn_succ q a9 b9)
  have hP : va_P (gD G) vwCl (A0 ++ Bn G (n + 1) (va_up qa n q) (va_up ra n a9) (va_up rb n b9)) H := he ▸ hP
  have hD : va_D A (A0 ++ Bn G (n + 1) (va_up qa n q) (va_up ra n a9) (va_up rb n b9)) := he ▸ hD
  refine kk q a9 b9 H locs hP hD hS ?_
  rw [← he]
  have hm : ∃ vs, (q, Sum.inr (2, vs)) ∈ (A0 ++ Bn G n qa ra rb) ++ (wX4 G q a9 iX4 ++ wX0 G (a9 17) b9 iX0) := ⟨_, List.mem_append_right _ (List.mem_append_left _ List.mem_cons_self)⟩
  obtain ⟨vs, hm⟩ := hm
  obtain ⟨k, hk⟩ := List.getElem?_of_mem hm
  exact ⟨k, vs, hk⟩
end I5
set_option maxRecDepth 100000 in
set_option maxHeartbeats 8000000 in
theorem c_X5_init {l : Launch} {G : Gp} {sz h0 : Nat} : Met l yX5_init (Cond.code yX5_init cX5_init 2 none :: lw_g) ({ frames := 3, cells := 123, slots := 1591, locals := 60 } : Room) (va_Pc [.ref h0] (pw G [(h0, .inr (3, [.null, .null, .null, .null, .int 0, .int 0, .null, .null, .null, .null, .int 0]))] sz)) (va_Qv (fun _ : (Nat → Nat) × (Nat → Nat) × (Nat → Nat → Nat) × (Nat → Nat → Nat) => True) (bw G (fun v : (Nat → Nat) × (Nat → Nat) × (Nat → Nat → Nat) × (Nat → Nat → Nat) => wAll G h0 v.1 iX5 v.2.1 iX3 v.2.2.1 v.2.2.2 (fun _ => iX4) (fun _ => iX0)) (va_A [(h0, .inr (3, [.null, .null, .null, .null, .int 0, .int 0, .null, .null, .null, .null, .int 0]))] sz)) (va_A [(h0, .inr (3, [.null, .null, .null, .null, .int 0, .int 0, .null, .null, .null, .null, .int 0]))] sz)) 123 1591 (va_A [(h0, .inr (3, [.null, .null, .null, .null, .int 0, .int 0, .null, .null, .null, .null, .int 0]))] sz) := by
  refine mti (Qc := fun A => va_Qv (fun _ : (Nat → Nat) × (Nat → Nat) × (Nat → Nat → Nat) × (Nat → Nat → Nat) => True) (bw G (fun v : (Nat → Nat) × (Nat → Nat) × (Nat → Nat → Nat) × (Nat → Nat → Nat) => wAll G h0 v.1 iX5 v.2.1 iX3 v.2.2.1 v.2.2.2 (fun _ => iX4) (fun _ => iX0)) A) A) (by decide) (Nat.le_of_ble_eq_true rfl) ?_
  intro p e s m below meth c A ls hin hx hb hr hlk hml hts hown hA hP hK hD hE hS hl
  have hown : s.vm.findClass RX5 = some m.cls := hown
  have hg : ∀ w ∈ lw_g, w.before ([.ref h0] : List Value).toArray s = true := fun w h => hts w (List.mem_cons_of_mem _ h)
  have hC : CallFix p m c cX5_init 2 s ([.ref h0] : List Value).toArray (Cond.code yX5_init cX5_init 2 none :: lw_g) RX5 := ⟨hx, hb, hml, hown, hts⟩
  have hl : lv_has ls 2 [(0, .ref h0)] := hl
  refine lv_aload_n hx hb dX5_init_0 rfl (lv_at hl 0 rfl) ?_
  refine W.objInit hx hb hown (hg _ kq1_27) (hg _ kq1_28) (hg _ kq1_29) rfl (by rw [hml]; exact hl.1) rfl dX5_init_1 (Nat.le_of_ble_eq_true rfl) (Nat.le_of_ble_eq_true rfl) ?_
  refine W.eq (g2 := F0 m 4 ls []) rfl ?_
  have hP : va_P (gD G) vwCl ([(h0, .inr (3, [.null, .null, .null, .null, .int 0, .int 0, .null, .null, .null, .null, .int 0]))] ++ Bn G 0 (fun _ => 0) (fun _ _ => 0) (fun _ _ => 0)) s.heap := hP
  have hD : va_D A ([(h0, .inr (3, [.null, .null, .null, .null, .int 0, .int 0, .null, .null, .null, .null, .int 0]))] ++ Bn G 0 (fun _ => 0) (fun _ _ => 0) (fun _ _ => 0)) := hD
  refine lv_aload_n hx hb dX5_init_4 rfl (lv_at hl 0 rfl) ?_
  refine newR (av := []) hC hP hK hD hE hS hA hl.1 (Nat.le_of_ble_eq_true rfl) ⟨Nat.le_of_ble_eq_true rfl, Nat.le_of_ble_eq_true rfl⟩ ⟨Nat.le_of_ble_eq_true rfl, Nat.le_of_ble_eq_true rfl⟩ dX5_init_5 dX5_init_8 dX5_init_9 (fun p0 a0 b0 H locs hP hD hS hm => ?_)
  refine va_putF (D := gD G) (ci := 3) (v := .ref p0) (ty := .object "RadioClock$Receiver") (C := RX5) (T := TX5) (N := 11) hx hb hg kl_X5 tyX5 tyX5_ok nmX5 hown hK hP hD hS 0 rfl rfl 0 (by decide) (hg _ kq1_179) (fun _ h9 => h9) rfl hin rfl (by decide +kernel) rfl rfl (Nat.le_of_ble_eq_true rfl) dX5_init_12 (fun H locs hP hD hS => ?_)
  have hP : va_P (gD G) vwCl ([(h0, .inr (3, [.ref p0, .null, .null, .null, .int 0, .int 0, .null, .null, .null, .null, .int 0]))] ++ Bn G 1 (va_up (fun _ => 0) 0 p0) (va_up (fun _ _ => 0) 0 a0) (va_up (fun _ _ => 0) 0 b0)) H := hP
  have hD : va_D A ([(h0, .inr (3, [.ref p0, .null, .null, .null, .int 0, .int 0, .null, .null, .null, .null, .int 0]))] ++ Bn G 1 (va_up (fun _ => 0) 0 p0) (va_up (fun _ _ => 0) 0 a0) (va_up (fun _ _ => 0) 0 b0)) := hD
  refine lv_aload_n hx hb dX5_init_15 rfl (lv_at hl 0 rfl) ?_
  refine newR (av := []) hC hP hK hD hE hS hA hl.1 (Nat.le_of_ble_eq_true rfl) ⟨Nat.le_of_ble_eq_true rfl, Nat.le_of_ble_eq_true rfl⟩ ⟨Nat.le_of_ble_eq_true rfl, Nat.le_of_ble_eq_true rfl⟩ dX5_init_16 dX5_init_19 dX5_init_20 (fun p1 a1 b1 H locs hP hD hS hm => ?_)
  refine va_putF (D := gD G) (ci := 3) (v := .ref p1) (ty := .object "RadioClock$Receiver") (C := RX5) (T := TX5) (N := 11) hx hb hg kl_X5 tyX5 tyX5_ok nmX5 hown hK hP hD hS 0 rfl rfl 1 (by decide) (hg _ kq1_180) (fun _ h9 => h9) rfl hin rfl (by decide +kernel) rfl rfl (Nat.le_of_ble_eq_true rfl) dX5_init_23 (fun H locs hP hD hS => ?_)
  have hP : va_P (gD G) vwCl ([(h0, .inr (3, [.ref p0, .ref p1, .null, .null, .int 0, .int 0, .null, .null, .null, .null, .int 0]))] ++ Bn G 2 (va_up (va_up (fun _ => 0) 0 p0) 1 p1) (va_up (va_up (fun _ _ => 0) 0 a0) 1 a1) (va_up (va_up (fun _ _ => 0) 0 b0) 1 b1)) H := hP
  have hD : va_D A ([(h0, .inr (3, [.ref p0, .ref p1, .null, .null, .int 0, .int 0, .null, .null, .null, .null, .int 0]))] ++ Bn G 2 (va_up (va_up (fun _ => 0) 0 p0) 1 p1) (va_up (va_up (fun _ _ => 0) 0 a0) 1 a1) (va_up (va_up (fun _ _ => 0) 0 b0) 1 b1)) := hD
  refine lv_aload_n hx hb dX5_init_26 rfl (lv_at hl 0 rfl) ?_
  refine newR (av := []) hC hP hK hD hE hS hA hl.1 (Nat.le_of_ble_eq_true rfl) ⟨Nat.le_of_ble_eq_true rfl, Nat.le_of_ble_eq_true rfl⟩ ⟨Nat.le_of_ble_eq_true rfl, Nat.le_of_ble_eq_true rfl⟩ dX5_init_27 dX5_init_30 dX5_init_31 (fun p2 a2 b2 H locs hP hD hS hm => ?_)
  refine va_putF (D := gD G) (ci := 3) (v := .ref p2) (ty := .object "RadioClock$Receiver") (C := RX5) (T := TX5) (N := 11) hx hb hg kl_X5 tyX5 tyX5_ok nmX5 hown hK hP hD hS 0 rfl rfl 2 (by decide) (hg _ kq1_181) (fun _ h9 => h9) rfl hin rfl (by decide +kernel) rfl rfl (Nat.le_of_ble_eq_true rfl) dX5_init_34 (fun H locs hP hD hS => ?_)
  have hP : va_P (gD G) vwCl ([(h0, .inr (3, [.ref p0, .ref p1, .ref p2, .null, .int 0, .int 0, .null, .null, .null, .null, .int 0]))] ++ Bn G 3 (va_up (va_up (va_up (fun _ => 0) 0 p0) 1 p1) 2 p2) (va_up (va_up (va_up (fun _ _ => 0) 0 a0) 1 a1) 2 a2) (va_up (va_up (va_up (fun _ _ => 0) 0 b0) 1 b1) 2 b2)) H := hP
  have hD : va_D A ([(h0, .inr (3, [.ref p0, .ref p1, .ref p2, .null, .int 0, .int 0, .null, .null, .null, .null, .int 0]))] ++ Bn G 3 (va_up (va_up (va_up (fun _ => 0) 0 p0) 1 p1) 2 p2) (va_up (va_up (va_up (fun _ _ => 0) 0 a0) 1 a1) 2 a2) (va_up (va_up (va_up (fun _ _ => 0) 0 b0) 1 b1) 2 b2)) := hD
  obtain ⟨qa, hqa⟩ : ∃ z, z = (va_up (va_up (va_up (fun _ => 0) 0 p0) 1 p1) 2 p2) := ⟨_, rfl⟩
  have hq0 : qa 0 = p0 := by rw [hqa]; rfl
  have hq1 : qa 1 = p1 := by rw [hqa]; rfl
  have hq2 : qa 2 = p2 := by rw [hqa]; rfl
  generalize (va_up (va_up (va_up (fun _ _ => 0) 0 a0) 1 a1) 2 a2) = ra at hP hD
  generalize (va_up (va_up (va_up (fun _ _ => 0) 0 b0) 1 b1) 2 b2) = rb at hP hD
  rw [← hqa] at hP hD
  clear hqa
  refine lv_aload_n hx hb dX5_init_37 rfl (lv_at hl 0 rfl) ?_
  refine lv_bipush (v := (8 : Int32)) hx hb dX5_init_38 (by decide) ?_
  refine nwQ (N' := 8) hx hb hown (hg _ kq1_30) hE.2.2.2.2.2.2.2.1 hK hP hD hS hA (by decide) (by decide) (by decide) (Nat.le_of_ble_eq_true rfl) (Nat.le_of_ble_eq_true rfl) dX5_init_40 (fun qp H hP hD hS => ?_)
  have hP : va_P (gD G) vwCl ([(h0, .inr (3, [.ref p0, .ref p1, .ref p2, .null, .int 0, .int 0, .null, .null, .null, .null, .int 0])), (qp, .inl (G.2.2.1 4, 8, .inr (.inr (.inr (.inr (fun _ => none))))))] ++ Bn G 3 qa ra rb) H := va_P_perm hP (pmA _ _ _)
  have hD : va_D A ([(h0, .inr (3, [.ref p0, .ref p1, .ref p2, .null, .int 0, .int 0, .null, .null, .null, .null, .int 0])), (qp, .inl (G.2.2.1 4, 8, .inr (.inr (.inr (.inr (fun _ => none))))))] ++ Bn G 3 qa ra rb) := va_D_perm hD (pmA _ _ _)
  refine va_putF (D := gD G) (ci := 3) (v := .ref qp) (ty := .array (.object "RadioClock$Receiver")) (C := RX5) (T := TX5) (N := 11) hx hb hg kl_X5 tyX5 tyX5_ok nmX5 hown hK hP hD hS 0 rfl rfl 3 (by decide) (hg _ kq1_182) (fun _ h9 => h9) rfl hin rfl (by decide +kernel) rfl rfl (Nat.le_of_ble_eq_true rfl) dX5_init_43 (fun H locs hP hD hS => ?_)
  have hP : va_P (gD G) vwCl ([(h0, .inr (3, [.ref p0, .ref p1, .ref p2, .ref qp, .int 0, .int 0, .null, .null, .null, .null, .int 0])), (qp, .inl (G.2.2.1 4, 8, .inr (.inr (.inr (.inr (fun _ => none))))))] ++ Bn G 3 qa ra rb) H := hP
  have hD : va_D A ([(h0, .inr (3, [.ref p0, .ref p1, .ref p2, .ref qp, .int 0, .int 0, .null, .null, .null, .null, .int 0])), (qp, .inl (G.2.2.1 4, 8, .inr (.inr (.inr (.inr (fun _ => none))))))] ++ Bn G 3 qa ra rb) := hD
  refine lv_aload_n hx hb dX5_init_46 rfl (lv_at hl 0 rfl) ?_
  refine lv_iconst (v := (2 : Int32)) hx hb dX5_init_47 (by decide) ?_
  refine nwQ (N' := 2) hx hb hown (hg _ kq1_30) hE.2.2.2.2.2.2.2.1 hK hP hD hS hA (by decide) (by decide) (by decide) (Nat.le_of_ble_eq_true rfl) (Nat.le_of_ble_eq_true rfl) dX5_init_48 (fun qs H hP hD hS => ?_)
  have hP : va_P (gD G) vwCl ([(h0, .inr (3, [.ref p0, .ref p1, .ref p2, .ref qp, .int 0, .int 0, .null, .null, .null, .null, .int 0])), (qp, .inl (G.2.2.1 4, 8, .inr (.inr (.inr (.inr (fun _ => none)))))), (qs, .inl (G.2.2.1 4, 2, .inr (.inr (.inr (.inr (fun _ => none))))))] ++ Bn G 3 qa ra rb) H := va_P_perm hP (pmA _ _ _)
  have hD : va_D A ([(h0, .inr (3, [.ref p0, .ref p1, .ref p2, .ref qp, .int 0, .int 0, .null, .null, .null, .null, .int 0])), (qp, .inl (G.2.2.1 4, 8, .inr (.inr (.inr (.inr (fun _ => none)))))), (qs, .inl (G.2.2.1 4, 2, .inr (.inr (.inr (.inr (fun _ => none))))))] ++ Bn G 3 qa ra rb) := va_D_perm hD (pmA _ _ _)
  refine va_putF (D := gD G) (ci := 3) (v := .ref qs) (ty := .array (.object "RadioClock$Receiver")) (C := RX5) (T := TX5) (N := 11) hx hb hg kl_X5 tyX5 tyX5_ok nmX5 hown hK hP hD hS 0 rfl rfl 6 (by decide) (hg _ kq1_185) (fun _ h9 => h9) rfl hin rfl (by decide +kernel) rfl rfl (Nat.le_of_ble_eq_true rfl) dX5_init_51 (fun H locs hP hD hS => ?_)
  have hP : va_P (gD G) vwCl ([(h0, .inr (3, [.ref p0, .ref p1, .ref p2, .ref qp, .int 0, .int 0, .ref qs, .null, .null, .null, .int 0])), (qp, .inl (G.2.2.1 4, 8, .inr (.inr (.inr (.inr (fun _ => none)))))), (qs, .inl (G.2.2.1 4, 2, .inr (.inr (.inr (.inr (fun _ => none))))))] ++ Bn G 3 qa ra rb) H := hP
  have hD : va_D A ([(h0, .inr (3, [.ref p0, .ref p1, .ref p2, .ref qp, .int 0, .int 0, .ref qs, .null, .null, .null, .int 0])), (qp, .inl (G.2.2.1 4, 8, .inr (.inr (.inr (.inr (fun _ => none)))))), (qs, .inl (G.2.2.1 4, 2, .inr (.inr (.inr (.inr (fun _ => none))))))] ++ Bn G 3 qa ra rb) := hD
  refine lv_aload_n hx hb dX5_init_54 rfl (lv_at hl 0 rfl) ?_
  refine lv_iconst (v := (2 : Int32)) hx hb dX5_init_55 (by decide) ?_
  refine nwA (atype := .boolean) (t0 := 3) (a0 := (2, .inl fun _ => 0)) hx hb hg kq1_177 rfl rfl (fun _ _ => rfl) hK hP hD hS hA (arr_z 2) (by decide) (by decide) (by decide) (Nat.le_of_ble_eq_true rfl) (Nat.le_of_ble_eq_true rfl) dX5_init_56 (fun qz H hP hD hS => ?_)
  have hP : va_P (gD G) vwCl ([(h0, .inr (3, [.ref p0, .ref p1, .ref p2, .ref qp, .int 0, .int 0, .ref qs, .null, .null, .null, .int 0])), (qp, .inl (G.2.2.1 4, 8, .inr (.inr (.inr (.inr (fun _ => none)))))), (qs, .inl (G.2.2.1 4, 2, .inr (.inr (.inr (.inr (fun _ => none)))))), (qz, .inl (G.2.2.1 3, 2, .inl fun _ => 0))] ++ Bn G 3 qa ra rb) H := va_P_perm hP (pmA _ _ _)
  have hD : va_D A ([(h0, .inr (3, [.ref p0, .ref p1, .ref p2, .ref qp, .int 0, .int 0, .ref qs, .null, .null, .null, .int 0])), (qp, .inl (G.2.2.1 4, 8, .inr (.inr (.inr (.inr (fun _ => none)))))), (qs, .inl (G.2.2.1 4, 2, .inr (.inr (.inr (.inr (fun _ => none)))))), (qz, .inl (G.2.2.1 3, 2, .inl fun _ => 0))] ++ Bn G 3 qa ra rb) := va_D_perm hD (pmA _ _ _)
  refine va_putF (D := gD G) (ci := 3) (v := .ref qz) (ty := .array .boolean) (C := RX5) (T := TX5) (N := 11) hx hb hg kl_X5 tyX5 tyX5_ok nmX5 hown hK hP hD hS 0 rfl rfl 7 (by decide) (hg _ kq1_186) (fun _ h9 => h9) rfl hin rfl (by decide +kernel) rfl rfl (Nat.le_of_ble_eq_true rfl) dX5_init_58 (fun H locs hP hD hS => ?_)
  have hP : va_P (gD G) vwCl ([(h0, .inr (3, [.ref p0, .ref p1, .ref p2, .ref qp, .int 0, .int 0, .ref qs, .ref qz, .null, .null, .int 0])), (qp, .inl (G.2.2.1 4, 8, .inr (.inr (.inr (.inr (fun _ => none)))))), (qs, .inl (G.2.2.1 4, 2, .inr (.inr (.inr (.inr (fun _ => none)))))), (qz, .inl (G.2.2.1 3, 2, .inl fun _ => 0))] ++ Bn G 3 qa ra rb) H := hP
  have hD : va_D A ([(h0, .inr (3, [.ref p0, .ref p1, .ref p2, .ref qp, .int 0, .int 0, .ref qs, .ref qz, .null, .null, .int 0])), (qp, .inl (G.2.2.1 4, 8, .inr (.inr (.inr (.inr (fun _ => none)))))), (qs, .inl (G.2.2.1 4, 2, .inr (.inr (.inr (.inr (fun _ => none)))))), (qz, .inl (G.2.2.1 3, 2, .inl fun _ => 0))] ++ Bn G 3 qa ra rb) := hD
  refine lv_aload_n hx hb dX5_init_61 rfl (lv_at hl 0 rfl) ?_
  refine va_new (ci := 1) (fs := [.null, .int 0, .int 0, .int 0, .int 0, .int 0, .int 0, .int 0, .int 0, .int 0, .int 0, .long 0]) (C := RX3) (T := TX3) (N := 12) hx hb hg kl_X3 tyX3 tyX3_ok hown (hg _ kq1_126) (hg _ kq1_127) (hg _ kq1_4) hK hP hD hS hA rfl (by decide +kernel) (Nat.le_of_ble_eq_true rfl) (Nat.le_of_ble_eq_true rfl) dX5_init_62 (fun qr H hP hD hS => ?_)
  refine lv_dup hx hb dX5_init_65 rfl ?_
  refine kIn (As := []) (rest := [.ref qr, .ref h0]) hC (c_X3_init (G := G)) (hE.2.2.2.1 (RX5, 35, yX3_init) (by decide +kernel)) kc_X3_init rfl (by decide) hP hK hD hE hS hA (out := fun v => ([(h0, .inr (3, [.ref p0, .ref p1, .ref p2, .ref qp, .int 0, .int 0, .ref qs, .ref qz, .null, .null, .int 0])), (qp, .inl (G.2.2.1 4, 8, .inr (.inr (.inr (.inr (fun _ => none)))))), (qs, .inl (G.2.2.1 4, 2, .inr (.inr (.inr (.inr (fun _ => none)))))), (qz, .inl (G.2.2.1 3, 2, .inl fun _ => 0))] ++ Bn G 3 qa ra rb) ++ wX3 G qr v.1 v.2) List.perm_append_comm (fun _ => List.perm_append_comm) hl.1 (Nat.le_of_ble_eq_true rfl) ⟨Nat.le_of_ble_eq_true rfl, Nat.le_of_ble_eq_true rfl⟩ dX5_init_66 (fun u9 H locs hw hP hD hS => ?_)
  obtain ⟨a1, u9⟩ := u9
  obtain rfl : u9 = iX3 := hw
  have hP : va_P (gD G) vwCl ([(h0, .inr (3, [.ref p0, .ref p1, .ref p2, .ref qp, .int 0, .int 0, .ref qs, .ref qz, .null, .null, .int 0])), (qp, .inl (G.2.2.1 4, 8, .inr (.inr (.inr (.inr (fun _ => none)))))), (qs, .inl (G.2.2.1 4, 2, .inr (.inr (.inr (.inr (fun _ => none)))))), (qz, .inl (G.2.2.1 3, 2, .inl fun _ => 0)), (qr, .inr (1, [.ref (a1 0), .int (iX3.1 1), .int (iX3.1 2), .int (iX3.1 3), .int (iX3.1 4), .int (iX3.1 5), .int (iX3.1 6), .int (iX3.1 7), .int (iX3.1 8), .int (iX3.1 9), .int (iX3.1 10), .long (iX3.2.1 11)])), (a1 0, .inl (G.2.2.1 0, 600, .inl (iX3.2.2.1 0)))] ++ Bn G 3 qa ra rb) H := va_P_perm hP (pmA _ _ _)
  have hD : va_D A ([(h0, .inr (3, [.ref p0, .ref p1, .ref p2, .ref qp, .int 0, .int 0, .ref qs, .ref qz, .null, .null, .int 0])), (qp, .inl (G.2.2.1 4, 8, .inr (.inr (.inr (.inr (fun _ => none)))))), (qs, .inl (G.2.2.1 4, 2, .inr (.inr (.inr (.inr (fun _ => none)))))), (qz, .inl (G.2.2.1 3, 2, .inl fun _ => 0)), (qr, .inr (1, [.ref (a1 0), .int (iX3.1 1), .int (iX3.1 2), .int (iX3.1 3), .int (iX3.1 4), .int (iX3.1 5), .int (iX3.1 6), .int (iX3.1 7), .int (iX3.1 8), .int (iX3.1 9), .int (iX3.1 10), .long (iX3.2.1 11)])), (a1 0, .inl (G.2.2.1 0, 600, .inl (iX3.2.2.1 0)))] ++ Bn G 3 qa ra rb) := va_D_perm hD (pmA _ _ _)
  refine va_putF (D := gD G) (ci := 3) (v := .ref qr) (ty := .object "RadioClock$Reader") (C := RX5) (T := TX5) (N := 11) hx hb hg kl_X5 tyX5 tyX5_ok nmX5 hown hK hP hD hS 0 rfl rfl 8 (by decide) (hg _ kq1_187) (fun _ h9 => h9) rfl hin rfl (by decide +kernel) rfl rfl (Nat.le_of_ble_eq_true rfl) dX5_init_69 (fun H locs hP hD hS => ?_)
  have hP : va_P (gD G) vwCl ([(h0, .inr (3, [.ref p0, .ref p1, .ref p2, .ref qp, .int 0, .int 0, .ref qs, .ref qz, .ref qr, .null, .int 0])), (qp, .inl (G.2.2.1 4, 8, .inr (.inr (.inr (.inr (fun _ => none)))))), (qs, .inl (G.2.2.1 4, 2, .inr (.inr (.inr (.inr (fun _ => none)))))), (qz, .inl (G.2.2.1 3, 2, .inl fun _ => 0)), (qr, .inr (1, [.ref (a1 0), .int (iX3.1 1), .int (iX3.1 2), .int (iX3.1 3), .int (iX3.1 4), .int (iX3.1 5), .int (iX3.1 6), .int (iX3.1 7), .int (iX3.1 8), .int (iX3.1 9), .int (iX3.1 10), .long (iX3.2.1 11)])), (a1 0, .inl (G.2.2.1 0, 600, .inl (iX3.2.2.1 0)))] ++ Bn G 3 qa ra rb) H := hP
  have hD : va_D A ([(h0, .inr (3, [.ref p0, .ref p1, .ref p2, .ref qp, .int 0, .int 0, .ref qs, .ref qz, .ref qr, .null, .int 0])), (qp, .inl (G.2.2.1 4, 8, .inr (.inr (.inr (.inr (fun _ => none)))))), (qs, .inl (G.2.2.1 4, 2, .inr (.inr (.inr (.inr (fun _ => none)))))), (qz, .inl (G.2.2.1 3, 2, .inl fun _ => 0)), (qr, .inr (1, [.ref (a1 0), .int (iX3.1 1), .int (iX3.1 2), .int (iX3.1 3), .int (iX3.1 4), .int (iX3.1 5), .int (iX3.1 6), .int (iX3.1 7), .int (iX3.1 8), .int (iX3.1 9), .int (iX3.1 10), .long (iX3.2.1 11)])), (a1 0, .inl (G.2.2.1 0, 600, .inl (iX3.2.2.1 0)))] ++ Bn G 3 qa ra rb) := hD
  refine lv_aload_n hx hb dX5_init_72 rfl (lv_at hl 0 rfl) ?_
  refine lv_bipush (v := (18 : Int32)) hx hb dX5_init_73 (by decide) ?_
  refine nwA (atype := .byte) (t0 := 0) (a0 := (18, .inl fun _ => 0)) hx hb hg kq1_178 rfl rfl (fun _ _ => rfl) hK hP hD hS hA (arr_b 18) (by decide) (by decide) (by decide) (Nat.le_of_ble_eq_true rfl) (Nat.le_of_ble_eq_true rfl) dX5_init_75 (fun qw H hP hD hS => ?_)
  have hP : va_P (gD G) vwCl ([(h0, .inr (3, [.ref p0, .ref p1, .ref p2, .ref qp, .int 0, .int 0, .ref qs, .ref qz, .ref qr, .null, .int 0])), (qp, .inl (G.2.2.1 4, 8, .inr (.inr (.inr (.inr (fun _ => none)))))), (qs, .inl (G.2.2.1 4, 2, .inr (.inr (.inr (.inr (fun _ => none)))))), (qz, .inl (G.2.2.1 3, 2, .inl fun _ => 0)), (qr, .inr (1, [.ref (a1 0), .int (iX3.1 1), .int (iX3.1 2), .int (iX3.1 3), .int (iX3.1 4), .int (iX3.1 5), .int (iX3.1 6), .int (iX3.1 7), .int (iX3.1 8), .int (iX3.1 9), .int (iX3.1 10), .long (iX3.2.1 11)])), (a1 0, .inl (G.2.2.1 0, 600, .inl (iX3.2.2.1 0))), (qw, .inl (G.2.2.1 0, 18, .inl fun _ => 0))] ++ Bn G 3 qa ra rb) H := va_P_perm hP (pmA _ _ _)
  have hD : va_D A ([(h0, .inr (3, [.ref p0, .ref p1, .ref p2, .ref qp, .int 0, .int 0, .ref qs, .ref qz, .ref qr, .null, .int 0])), (qp, .inl (G.2.2.1 4, 8, .inr (.inr (.inr (.inr (fun _ => none)))))), (qs, .inl (G.2.2.1 4, 2, .inr (.inr (.inr (.inr (fun _ => none)))))), (qz, .inl (G.2.2.1 3, 2, .inl fun _ => 0)), (qr, .inr (1, [.ref (a1 0), .int (iX3.1 1), .int (iX3.1 2), .int (iX3.1 3), .int (iX3.1 4), .int (iX3.1 5), .int (iX3.1 6), .int (iX3.1 7), .int (iX3.1 8), .int (iX3.1 9), .int (iX3.1 10), .long (iX3.2.1 11)])), (a1 0, .inl (G.2.2.1 0, 600, .inl (iX3.2.2.1 0))), (qw, .inl (G.2.2.1 0, 18, .inl fun _ => 0))] ++ Bn G 3 qa ra rb) := va_D_perm hD (pmA _ _ _)
  refine va_putF (D := gD G) (ci := 3) (v := .ref qw) (ty := .array .byte) (C := RX5) (T := TX5) (N := 11) hx hb hg kl_X5 tyX5 tyX5_ok nmX5 hown hK hP hD hS 0 rfl rfl 9 (by decide) (hg _ kq1_188) (fun _ h9 => h9) rfl hin rfl (by decide +kernel) rfl rfl (Nat.le_of_ble_eq_true rfl) dX5_init_77 (fun H locs hP hD hS => ?_)
  have hP : va_P (gD G) vwCl ([(h0, .inr (3, [.ref p0, .ref p1, .ref p2, .ref qp, .int 0, .int 0, .ref qs, .ref qz, .ref qr, .ref qw, .int 0])), (qp, .inl (G.2.2.1 4, 8, .inr (.inr (.inr (.inr (fun _ => none)))))), (qs, .inl (G.2.2.1 4, 2, .inr (.inr (.inr (.inr (fun _ => none)))))), (qz, .inl (G.2.2.1 3, 2, .inl fun _ => 0)), (qr, .inr (1, [.ref (a1 0), .int (iX3.1 1), .int (iX3.1 2), .int (iX3.1 3), .int (iX3.1 4), .int (iX3.1 5), .int (iX3.1 6), .int (iX3.1 7), .int (iX3.1 8), .int (iX3.1 9), .int (iX3.1 10), .long (iX3.2.1 11)])), (a1 0, .inl (G.2.2.1 0, 600, .inl (iX3.2.2.1 0))), (qw, .inl (G.2.2.1 0, 18, .inl fun _ => 0))] ++ Bn G 3 qa ra rb) H := hP
  have hD : va_D A ([(h0, .inr (3, [.ref p0, .ref p1, .ref p2, .ref qp, .int 0, .int 0, .ref qs, .ref qz, .ref qr, .ref qw, .int 0])), (qp, .inl (G.2.2.1 4, 8, .inr (.inr (.inr (.inr (fun _ => none)))))), (qs, .inl (G.2.2.1 4, 2, .inr (.inr (.inr (.inr (fun _ => none)))))), (qz, .inl (G.2.2.1 3, 2, .inl fun _ => 0)), (qr, .inr (1, [.ref (a1 0), .int (iX3.1 1), .int (iX3.1 2), .int (iX3.1 3), .int (iX3.1 4), .int (iX3.1 5), .int (iX3.1 6), .int (iX3.1 7), .int (iX3.1 8), .int (iX3.1 9), .int (iX3.1 10), .long (iX3.2.1 11)])), (a1 0, .inl (G.2.2.1 0, 600, .inl (iX3.2.2.1 0))), (qw, .inl (G.2.2.1 0, 18, .inl fun _ => 0))] ++ Bn G 3 qa ra rb) := hD
  refine W.widen (k := 33) (n := 861) (by decide) (by decide) ?_
  refine lv_iconst (v := (0 : Int32)) hx hb dX5_init_80 (by decide) ?_
  refine lv_istore_n (lv' := [(1, .int (0 : Int32)), (0, .ref h0)]) hx hb dX5_init_81 rfl hl (by decide) rfl (fun ls hl => ?_)
  have z1 : (fun _ : Nat => (none : Option Nat)) = fun j => if j < 0 then some (qa (3 + j)) else none := by funext j; rw [if_neg (Nat.not_lt_zero j)]
  have z2 : (fun _ : Nat => (none : Option Nat)) = fun j => if j < 0 then some (qa (11 + j)) else none := by funext j; rw [if_neg (Nat.not_lt_zero j)]
  have hP : va_P (gD G) vwCl ([(h0, .inr (3, [.ref p0, .ref p1, .ref p2, .ref qp, .int 0, .int 0, .ref qs, .ref qz, .ref qr, .ref qw, .int 0])), (qp, .inl (G.2.2.1 4, 8, .inr (.inr (.inr (.inr fun j => if j < 0 then some (qa (3 + j)) else none))))), (qs, .inl (G.2.2.1 4, 2, .inr (.inr (.inr (.inr fun j => if j < 0 then some (qa (11 + j)) else none))))), (qz, .inl (G.2.2.1 3, 2, .inl fun _ => 0)), (qr, .inr (1, [.ref (a1 0), .int (iX3.1 1), .int (iX3.1 2), .int (iX3.1 3), .int (iX3.1 4), .int (iX3.1 5), .int (iX3.1 6), .int (iX3.1 7), .int (iX3.1 8), .int (iX3.1 9), .int (iX3.1 10), .long (iX3.2.1 11)])), (a1 0, .inl (G.2.2.1 0, 600, .inl (iX3.2.2.1 0))), (qw, .inl (G.2.2.1 0, 18, .inl fun _ => 0))] ++ Bn G (3 + 0) qa ra rb) H := by rw [← z1, ← z2]; exact hP
  have hD : va_D A ([(h0, .inr (3, [.ref p0, .ref p1, .ref p2, .ref qp, .int 0, .int 0, .ref qs, .ref qz, .ref qr, .ref qw, .int 0])), (qp, .inl (G.2.2.1 4, 8, .inr (.inr (.inr (.inr fun j => if j < 0 then some (qa (3 + j)) else none))))), (qs, .inl (G.2.2.1 4, 2, .inr (.inr (.inr (.inr fun j => if j < 0 then some (qa (11 + j)) else none))))), (qz, .inl (G.2.2.1 3, 2, .inl fun _ => 0)), (qr, .inr (1, [.ref (a1 0), .int (iX3.1 1), .int (iX3.1 2), .int (iX3.1 3), .int (iX3.1 4), .int (iX3.1 5), .int (iX3.1 6), .int (iX3.1 7), .int (iX3.1 8), .int (iX3.1 9), .int (iX3.1 10), .long (iX3.2.1 11)])), (a1 0, .inl (G.2.2.1 0, 600, .inl (iX3.2.2.1 0))), (qw, .inl (G.2.2.1 0, 18, .inl fun _ => 0))] ++ Bn G (3 + 0) qa ra rb) := by rw [← z1, ← z2]; exact hD
  have lp2 : ∀ (n i : Nat) (x1 : Int32) (qa : Nat → Nat) (ra rb : Nat → Nat → Nat) (H : Heap) (locs : List Loc) (ls : Array Slot), i ≤ 2 → 2 < i + n → x1 = nI i → qa 0 = p0 → qa 1 = p1 → qa 2 = p2 → va_P (gD G) vwCl ([(h0, .inr (3, [.ref p0, .ref p1, .ref p2, .ref qp, .int 0, .int 0, .ref qs, .ref qz, .ref qr, .ref qw, .int 0])), (qp, .inl (G.2.2.1 4, 8, .inr (.inr (.inr (.inr fun j => if j < 8 then some (qa (3 + j)) else none))))), (qs, .inl (G.2.2.1 4, 2, .inr (.inr (.inr (.inr fun j => if j < i then some (qa (11 + j)) else none))))), (qz, .inl (G.2.2.1 3, 2, .inl fun _ => 0)), (qr, .inr (1, [.ref (a1 0), .int (iX3.1 1), .int (iX3.1 2), .int (iX3.1 3), .int (iX3.1 4), .int (iX3.1 5), .int (iX3.1 6), .int (iX3.1 7), .int (iX3.1 8), .int (iX3.1 9), .int (iX3.1 10), .long (iX3.2.1 11)])), (a1 0, .inl (G.2.2.1 0, 600, .inl (iX3.2.2.1 0))), (qw, .inl (G.2.2.1 0, 18, .inl fun _ => 0))] ++ Bn G (11 + i) qa ra rb) H → va_D A ([(h0, .inr (3, [.ref p0, .ref p1, .ref p2, .ref qp, .int 0, .int 0, .ref qs, .ref qz, .ref qr, .ref qw, .int 0])), (qp, .inl (G.2.2.1 4, 8, .inr (.inr (.inr (.inr fun j => if j < 8 then some (qa (3 + j)) else none))))), (qs, .inl (G.2.2.1 4, 2, .inr (.inr (.inr (.inr fun j => if j < i then some (qa (11 + j)) else none))))), (qz, .inl (G.2.2.1 3, 2, .inl fun _ => 0)), (qr, .inr (1, [.ref (a1 0), .int (iX3.1 1), .int (iX3.1 2), .int (iX3.1 3), .int (iX3.1 4), .int (iX3.1 5), .int (iX3.1 6), .int (iX3.1 7), .int (iX3.1 8), .int (iX3.1 9), .int (iX3.1 10), .long (iX3.2.1 11)])), (a1 0, .inl (G.2.2.1 0, 600, .inl (iX3.2.2.1 0))), (qw, .inl (G.2.2.1 0, 18, .inl fun _ => 0))] ++ Bn G (11 + i) qa ra rb) → va_S A s.heap H locs → lv_has ls 2 [(0, .ref h0), (1, .int x1)] → W p l e ({ frames := 3, cells := 123, slots := 1591, locals := 60 } : Room) s m ([.ref h0] : List Value).toArray below meth c H locs (105 + 9 * i) (1445 + 73 * i) (MQ below (va_Qv (fun _ : (Nat → Nat) × (Nat → Nat) × (Nat → Nat → Nat) × (Nat → Nat → Nat) => True) (bw G (fun v : (Nat → Nat) × (Nat → Nat) × (Nat → Nat → Nat) × (Nat → Nat → Nat) => wAll G h0 v.1 iX5 v.2.1 iX3 v.2.2.1 v.2.2.2 (fun _ => iX4) (fun _ => iX0)) A) A) ([.ref h0] : List Value).toArray s 123 1591 A) (F0 m 109 ls []) := by
    intro n
    induction n with
    | zero => intro i x1 qa ra rb H locs ls h1 h2; exact absurd h2 (by omega)
    | succ n ih =>
      intro i x1 qa ra rb H locs ls h1 h2 ex hq0 hq1 hq2 hP hD hS hl
      refine lv_iload_n hx hb dX5_init_109 rfl (lv_at hl 1 rfl) ?_
      refine lv_iconst (v := (2 : Int32)) hx hb dX5_init_110 (by decide) ?_
      refine lv_icmp_ge (tgt := 133) hx hb dX5_init_111 (by decide) (fun c1 => ?_) (fun c1 => ?_)
      · have hi : i = 2 := by
          rw [ex] at c1
          have h3 : ¬ i < 2 := fun h => absurd c1 (nI_ge h (by decide))
          omega
        subst hi
        subst hq0 hq1 hq2
        have e1 : ∀ j, j < 8 → (if j < 8 then some (qa (3 + j)) else none) = some (qa (20 + (3 + j) - 20)) := fun j hj => by rw [if_pos hj, Nat.add_sub_cancel_left]
        have e2 : ∀ j, j < 2 → (if j < 2 then some (qa (11 + j)) else none) = some (qa (20 + (11 + j) - 20)) := fun j hj => by rw [if_pos hj, Nat.add_sub_cancel_left]
        have g1 : (fun j => some ((fun k : Nat => if 20 ≤ k then qa (k - 20) else if k = 3 then qp else if k = 6 then qs else if k = 7 then qz else if k = 8 then qr else qw) (20 + (3 + j)))) = fun j => some (qa (20 + (3 + j) - 20)) := by funext j; simp only []; rw [if_pos (by omega)]
        have g2 : (fun j => some ((fun k : Nat => if 20 ≤ k then qa (k - 20) else if k = 3 then qp else if k = 6 then qs else if k = 7 then qz else if k = 8 then qr else qw) (20 + (11 + j)))) = fun j => some (qa (20 + (11 + j) - 20)) := by funext j; simp only []; rw [if_pos (by omega)]
        have g3 : Bn G (11 + 2) qa ra rb = wRs G (fun k : Nat => if 20 ≤ k then qa (k - 20) else if k = 3 then qp else if k = 6 then qs else if k = 7 then qz else if k = 8 then qr else qw) ra rb (fun _ => iX4) (fun _ => iX0) := fm_congr _ fun j _ => by
          show rqW G (qa j) (ra j) (rb j) = wX4 G (if 20 ≤ 20 + j then qa (20 + j - 20) else _) (ra j) iX4 ++ wX0 G (ra j 17) (rb j) iX0
          rw [if_pos (by omega), Nat.add_sub_cancel_left]
          rfl
        rw [g3] at hP hD
        have hfin : ([(h0, .inr (3, [.ref (qa 0), .ref (qa 1), .ref (qa 2), .ref qp, .int 0, .int 0, .ref qs, .ref qz, .ref qr, .ref qw, .int 0])), (qp, .inl (G.2.2.1 4, 8, .inr (.inr (.inr (.inr fun j => some (qa (20 + (3 + j) - 20))))))), (qs, .inl (G.2.2.1 4, 2, .inr (.inr (.inr (.inr fun j => some (qa (20 + (11 + j) - 20))))))), (qz, .inl (G.2.2.1 3, 2, .inl fun _ => 0)), (qw, .inl (G.2.2.1 0, 18, .inl fun _ => 0))] : va_W) ++ (wX3 G qr a1 iX3 ++ wRs G (fun k : Nat => if 20 ≤ k then qa (k - 20) else if k = 3 then qp else if k = 6 then qs else if k = 7 then qz else if k = 8 then qr else qw) ra rb (fun _ => iX4) (fun _ => iX0)) = wAll G h0 (fun k : Nat => if 20 ≤ k then qa (k - 20) else if k = 3 then qp else if k = 6 then qs else if k = 7 then qz else if k = 8 then qr else qw) iX5 a1 iX3 ra rb (fun _ => iX4) (fun _ => iX0) := by
          unfold wAll wX5
          rw [g1, g2]
          rfl
        have hP : va_P (gD G) vwCl ([(h0, .inr (3, [.ref (qa 0), .ref (qa 1), .ref (qa 2), .ref qp, .int 0, .int 0, .ref qs, .ref qz, .ref qr, .ref qw, .int 0])), (qp, .inl (G.2.2.1 4, 8, .inr (.inr (.inr (.inr fun j => some (qa (20 + (3 + j) - 20))))))), (qs, .inl (G.2.2.1 4, 2, .inr (.inr (.inr (.inr fun j => some (qa (20 + (11 + j) - 20))))))), (qz, .inl (G.2.2.1 3, 2, .inl fun _ => 0)), (qr, .inr (1, [.ref (a1 0), .int (iX3.1 1), .int (iX3.1 2), .int (iX3.1 3), .int (iX3.1 4), .int (iX3.1 5), .int (iX3.1 6), .int (iX3.1 7), .int (iX3.1 8), .int (iX3.1 9), .int (iX3.1 10), .long (iX3.2.1 11)])), (a1 0, .inl (G.2.2.1 0, 600, .inl (iX3.2.2.1 0))), (qw, .inl (G.2.2.1 0, 18, .inl fun _ => 0))] ++ wRs G (fun k : Nat => if 20 ≤ k then qa (k - 20) else if k = 3 then qp else if k = 6 then qs else if k = 7 then qz else if k = 8 then qr else qw) ra rb (fun _ => iX4) (fun _ => iX0)) H := by
          obtain ⟨h1, hP⟩ := va_P_cons.mp hP
          obtain ⟨h2, hP⟩ := va_P_cons.mp hP
          obtain ⟨h3, hP⟩ := va_P_cons.mp hP
          exact va_P_cons.mpr ⟨h1, va_P_cons.mpr ⟨h2.trans (congrArg some (cellq _ _ _ _ e1)), va_P_cons.mpr ⟨h3.trans (congrArg some (cellq _ _ _ _ e2)), hP⟩⟩⟩
        have hD : va_D A ([(h0, .inr (3, [.ref (qa 0), .ref (qa 1), .ref (qa 2), .ref qp, .int 0, .int 0, .ref qs, .ref qz, .ref qr, .ref qw, .int 0])), (qp, .inl (G.2.2.1 4, 8, .inr (.inr (.inr (.inr fun j => some (qa (20 + (3 + j) - 20))))))), (qs, .inl (G.2.2.1 4, 2, .inr (.inr (.inr (.inr fun j => some (qa (20 + (11 + j) - 20))))))), (qz, .inl (G.2.2.1 3, 2, .inl fun _ => 0)), (qr, .inr (1, [.ref (a1 0), .int (iX3.1 1), .int (iX3.1 2), .int (iX3.1 3), .int (iX3.1 4), .int (iX3.1 5), .int (iX3.1 6), .int (iX3.1 7), .int (iX3.1 8), .int (iX3.1 9), .int (iX3.1 10), .long (iX3.2.1 11)])), (a1 0, .inl (G.2.2.1 0, 600, .inl (iX3.2.2.1 0))), (qw, .inl (G.2.2.1 0, 18, .inl fun _ => 0))] ++ wRs G (fun k : Nat => if 20 ≤ k then qa (k - 20) else if k = 3 then qp else if k = 6 then qs else if k = 7 then qz else if k = 8 then qr else qw) ra rb (fun _ => iX4) (fun _ => iX0)) := va_D_congr hD rfl
        have hpm : (([(h0, .inr (3, [.ref (qa 0), .ref (qa 1), .ref (qa 2), .ref qp, .int 0, .int 0, .ref qs, .ref qz, .ref qr, .ref qw, .int 0])), (qp, .inl (G.2.2.1 4, 8, .inr (.inr (.inr (.inr fun j => some (qa (20 + (3 + j) - 20))))))), (qs, .inl (G.2.2.1 4, 2, .inr (.inr (.inr (.inr fun j => some (qa (20 + (11 + j) - 20))))))), (qz, .inl (G.2.2.1 3, 2, .inl fun _ => 0)), (qr, .inr (1, [.ref (a1 0), .int (iX3.1 1), .int (iX3.1 2), .int (iX3.1 3), .int (iX3.1 4), .int (iX3.1 5), .int (iX3.1 6), .int (iX3.1 7), .int (iX3.1 8), .int (iX3.1 9), .int (iX3.1 10), .long (iX3.2.1 11)])), (a1 0, .inl (G.2.2.1 0, 600, .inl (iX3.2.2.1 0))), (qw, .inl (G.2.2.1 0, 18, .inl fun _ => 0))] : va_W) ++ wRs G (fun k : Nat => if 20 ≤ k then qa (k - 20) else if k = 3 then qp else if k = 6 then qs else if k = 7 then qz else if k = 8 then qr else qw) ra rb (fun _ => iX4) (fun _ => iX0)).Perm (wAll G h0 (fun k : Nat => if 20 ≤ k then qa (k - 20) else if k = 3 then qp else if k = 6 then qs else if k = 7 then qz else if k = 8 then qr else qw) iX5 a1 iX3 ra rb (fun _ => iX4) (fun _ => iX0)) := by
          rw [← hfin]
          refine List.Perm.cons _ (List.Perm.cons _ (List.Perm.cons _ (List.Perm.cons _ ?_)))
          exact (List.perm_append_comm_assoc [(qr, _), (a1 0, _)] [(qw, _)] _)
        refine W.widen (k := 123) (n := 1591) (by decide) (by decide) ?_
        exact e_v (wf := (fun v : (Nat → Nat) × (Nat → Nat) × (Nat → Nat → Nat) × (Nat → Nat → Nat) => wAll G h0 v.1 iX5 v.2.1 iX3 v.2.2.1 v.2.2.2 (fun _ => iX4) (fun _ => iX0))) hx hb hr hlk ((fun k : Nat => if 20 ≤ k then qa (k - 20) else if k = 3 then qp else if k = 6 then qs else if k = 7 then qz else if k = 8 then qr else qw), a1, ra, rb) trivial (va_P_perm hP hpm) hK (va_D_perm hD hpm) hS dX5_init_133
      · have hi : i < 2 := by
          rcases Nat.lt_or_ge i 2 with h | h
          · exact h
          · exact absurd (by rw [ex]; exact nI_le h (by omega)) c1
        have hcl : x1.toNatClampNeg = i := by rw [ex]; exact nI_clamp (by omega)
        refine lv_aload_n hx hb dX5_init_114 rfl (lv_at hl 0 rfl) ?_
        refine va_get (D := gD G) (ci := 3) (v := .ref qs) (C := RX5) (T := TX5) (N := 11) hx hb hg kl_X5 hown hK hP 0 rfl rfl 6 (by decide) (hg _ kq1_185) (fun _ h9 => h9) rfl dX5_init_115 ?_
        refine lv_iload_n hx hb dX5_init_118 rfl (lv_at hl 1 rfl) ?_
        refine newR (av := []) hC hP hK hD hE hS hA hl.1 (Nat.le_of_ble_eq_true rfl) ⟨by show 105 + 9 * i + 9 ≤ 123; omega, by show 1445 + 73 * i + 73 ≤ 1591; omega⟩ ⟨Nat.le_of_ble_eq_true rfl, Nat.le_of_ble_eq_true rfl⟩ dX5_init_119 dX5_init_122 dX5_init_123 (fun q a9 b9 H locs hP hD hS hm => ?_)
        obtain ⟨k9, vs9, hk9⟩ := hm
        refine va_astq hx hb hK hP hD hS 2 4 k9 2 rfl rfl hk9 rfl (vin (by rw [ex]; exact nI_in hi (by decide))) dX5_init_126 (fun H locs hP hD hS => ?_)
        have hf : va_up (fun j => if j < i then some (qa (11 + j)) else none) x1.toNatClampNeg (some q) = fun j => if j < i + 1 then some (va_up qa (11 + i) q (11 + j)) else none := by
          funext j
          rw [hcl]
          simp only [va_up]
          by_cases hj : j = i
          · subst hj; simp
          · by_cases hj2 : j < i
            · rw [if_neg hj, if_pos hj2, if_pos (by omega), if_neg (by omega)]
            · rw [if_neg hj, if_neg hj2, if_neg (by omega)]
        have hf2 : (fun j => if j < 8 then some (qa (3 + j)) else none) = fun j => if j < 8 then some (va_up qa (11 + i) q (3 + j)) else none := by
          funext j
          by_cases hj : j < 8
          · rw [if_pos hj, if_pos hj, va_up_ne _ _ (by omega)]
          · rw [if_neg hj, if_neg hj]
        have hP : va_P (gD G) vwCl ([(h0, .inr (3, [.ref p0, .ref p1, .ref p2, .ref qp, .int 0, .int 0, .ref qs, .ref qz, .ref qr, .ref qw, .int 0])), (qp, .inl (G.2.2.1 4, 8, .inr (.inr (.inr (.inr fun j => if j < 8 then some (qa (3 + j)) else none))))), (qs, .inl (G.2.2.1 4, 2, .inr (.inr (.inr (.inr (va_up (fun j => if j < i then some (qa (11 + j)) else none) x1.toNatClampNeg (some q))))))), (qz, .inl (G.2.2.1 3, 2, .inl fun _ => 0)), (qr, .inr (1, [.ref (a1 0), .int (iX3.1 1), .int (iX3.1 2), .int (iX3.1 3), .int (iX3.1 4), .int (iX3.1 5), .int (iX3.1 6), .int (iX3.1 7), .int (iX3.1 8), .int (iX3.1 9), .int (iX3.1 10), .long (iX3.2.1 11)])), (a1 0, .inl (G.2.2.1 0, 600, .inl (iX3.2.2.1 0))), (qw, .inl (G.2.2.1 0, 18, .inl fun _ => 0))] ++ Bn G (11 + i + 1) (va_up qa (11 + i) q) (va_up ra (11 + i) a9) (va_up rb (11 + i) b9)) H := hP
        have hD : va_D A ([(h0, .inr (3, [.ref p0, .ref p1, .ref p2, .ref qp, .int 0, .int 0, .ref qs, .ref qz, .ref qr, .ref qw, .int 0])), (qp, .inl (G.2.2.1 4, 8, .inr (.inr (.inr (.inr fun j => if j < 8 then some (qa (3 + j)) else none))))), (qs, .inl (G.2.2.1 4, 2, .inr (.inr (.inr (.inr (va_up (fun j => if j < i then some (qa (11 + j)) else none) x1.toNatClampNeg (some q))))))), (qz, .inl (G.2.2.1 3, 2, .inl fun _ => 0)), (qr, .inr (1, [.ref (a1 0), .int (iX3.1 1), .int (iX3.1 2), .int (iX3.1 3), .int (iX3.1 4), .int (iX3.1 5), .int (iX3.1 6), .int (iX3.1 7), .int (iX3.1 8), .int (iX3.1 9), .int (iX3.1 10), .long (iX3.2.1 11)])), (a1 0, .inl (G.2.2.1 0, 600, .inl (iX3.2.2.1 0))), (qw, .inl (G.2.2.1 0, 18, .inl fun _ => 0))] ++ Bn G (11 + i + 1) (va_up qa (11 + i) q) (va_up ra (11 + i) a9) (va_up rb (11 + i) b9)) := hD
        rw [hf, hf2] at hP hD
        refine lv_iinc (v := (x1 + (1 : Int32))) (lv' := [(1, .int (x1 + (1 : Int32))), (0, .ref h0)]) hx hb dX5_init_127 hl (k := 1) rfl rfl (by decide) rfl (fun ls hl => ?_)
        refine lv_goto (tgt := 109) hx hb dX5_init_130 (by decide) ?_
        exact ih (i + 1) _ _ _ _ _ _ _ hi (by omega) (by rw [ex]; exact nI_1 i) (by rw [va_up_ne _ _ (by omega)]; exact hq0) (by rw [va_up_ne _ _ (by omega)]; exact hq1) (by rw [va_up_ne _ _ (by omega)]; exact hq2) hP hD hS (lv_sub hl [1, 0] rfl)
  have lp1 : ∀ (n i : Nat) (x1 : Int32) (qa : Nat → Nat) (ra rb : Nat → Nat → Nat) (H : Heap) (locs : List Loc) (ls : Array Slot), i ≤ 8 → 8 < i + n → x1 = nI i → qa 0 = p0 → qa 1 = p1 → qa 2 = p2 → va_P (gD G) vwCl ([(h0, .inr (3, [.ref p0, .ref p1, .ref p2, .ref qp, .int 0, .int 0, .ref qs, .ref qz, .ref qr, .ref qw, .int 0])), (qp, .inl (G.2.2.1 4, 8, .inr (.inr (.inr (.inr fun j => if j < i then some (qa (3 + j)) else none))))), (qs, .inl (G.2.2.1 4, 2, .inr (.inr (.inr (.inr fun j => if j < 0 then some (qa (11 + j)) else none))))), (qz, .inl (G.2.2.1 3, 2, .inl fun _ => 0)), (qr, .inr (1, [.ref (a1 0), .int (iX3.1 1), .int (iX3.1 2), .int (iX3.1 3), .int (iX3.1 4), .int (iX3.1 5), .int (iX3.1 6), .int (iX3.1 7), .int (iX3.1 8), .int (iX3.1 9), .int (iX3.1 10), .long (iX3.2.1 11)])), (a1 0, .inl (G.2.2.1 0, 600, .inl (iX3.2.2.1 0))), (qw, .inl (G.2.2.1 0, 18, .inl fun _ => 0))] ++ Bn G (3 + i) qa ra rb) H → va_D A ([(h0, .inr (3, [.ref p0, .ref p1, .ref p2, .ref qp, .int 0, .int 0, .ref qs, .ref qz, .ref qr, .ref qw, .int 0])), (qp, .inl (G.2.2.1 4, 8, .inr (.inr (.inr (.inr fun j => if j < i then some (qa (3 + j)) else none))))), (qs, .inl (G.2.2.1 4, 2, .inr (.inr (.inr (.inr fun j => if j < 0 then some (qa (11 + j)) else none))))), (qz, .inl (G.2.2.1 3, 2, .inl fun _ => 0)), (qr, .inr (1, [.ref (a1 0), .int (iX3.1 1), .int (iX3.1 2), .int (iX3.1 3), .int (iX3.1 4), .int (iX3.1 5), .int (iX3.1 6), .int (iX3.1 7), .int (iX3.1 8), .int (iX3.1 9), .int (iX3.1 10), .long (iX3.2.1 11)])), (a1 0, .inl (G.2.2.1 0, 600, .inl (iX3.2.2.1 0))), (qw, .inl (G.2.2.1 0, 18, .inl fun _ => 0))] ++ Bn G (3 + i) qa ra rb) → va_S A s.heap H locs → lv_has ls 2 [(0, .ref h0), (1, .int x1)] → W p l e ({ frames := 3, cells := 123, slots := 1591, locals := 60 } : Room) s m ([.ref h0] : List Value).toArray below meth c H locs (33 + 9 * i) (861 + 73 * i) (MQ below (va_Qv (fun _ : (Nat → Nat) × (Nat → Nat) × (Nat → Nat → Nat) × (Nat → Nat → Nat) => True) (bw G (fun v : (Nat → Nat) × (Nat → Nat) × (Nat → Nat → Nat) × (Nat → Nat → Nat) => wAll G h0 v.1 iX5 v.2.1 iX3 v.2.2.1 v.2.2.2 (fun _ => iX4) (fun _ => iX0)) A) A) ([.ref h0] : List Value).toArray s 123 1591 A) (F0 m 82 ls []) := by
    intro n
    induction n with
    | zero => intro i x1 qa ra rb H locs ls h1 h2; exact absurd h2 (by omega)
    | succ n ih =>
      intro i x1 qa ra rb H locs ls h1 h2 ex hq0 hq1 hq2 hP hD hS hl
      refine lv_iload_n hx hb dX5_init_82 rfl (lv_at hl 1 rfl) ?_
      refine lv_bipush (v := (8 : Int32)) hx hb dX5_init_83 (by decide) ?_
      refine lv_icmp_ge (tgt := 107) hx hb dX5_init_85 (by decide) (fun c1 => ?_) (fun c1 => ?_)
      · have hi : i = 8 := by
          rw [ex] at c1
          have h3 : ¬ i < 8 := fun h => absurd c1 (nI_ge h (by decide))
          omega
        subst hi
        refine lv_iconst (v := (0 : Int32)) hx hb dX5_init_107 (by decide) ?_
        refine lv_istore_n (lv' := [(1, .int (0 : Int32)), (0, .ref h0)]) hx hb dX5_init_108 rfl hl (by decide) rfl (fun ls hl => ?_)
        exact lp2 3 0 _ qa ra rb _ _ _ (by decide) (by decide) rfl hq0 hq1 hq2 hP hD hS (lv_sub hl [1, 0] rfl)
      · have hi : i < 8 := by
          rcases Nat.lt_or_ge i 8 with h | h
          · exact h
          · exact absurd (by rw [ex]; exact nI_le h (by omega)) c1
        have hcl : x1.toNatClampNeg = i := by rw [ex]; exact nI_clamp (by omega)
        refine lv_aload_n hx hb dX5_init_88 rfl (lv_at hl 0 rfl) ?_
        refine va_get (D := gD G) (ci := 3) (v := .ref qp) (C := RX5) (T := TX5) (N := 11) hx hb hg kl_X5 hown hK hP 0 rfl rfl 3 (by decide) (hg _ kq1_182) (fun _ h9 => h9) rfl dX5_init_89 ?_
        refine lv_iload_n hx hb dX5_init_92 rfl (lv_at hl 1 rfl) ?_
        refine newR (av := []) hC hP hK hD hE hS hA hl.1 (Nat.le_of_ble_eq_true rfl) ⟨by show 33 + 9 * i + 9 ≤ 123; omega, by show 861 + 73 * i + 73 ≤ 1591; omega⟩ ⟨Nat.le_of_ble_eq_true rfl, Nat.le_of_ble_eq_true rfl⟩ dX5_init_93 dX5_init_96 dX5_init_97 (fun q a9 b9 H locs hP hD hS hm => ?_)
        obtain ⟨k9, vs9, hk9⟩ := hm
        refine va_astq hx hb hK hP hD hS 1 4 k9 2 rfl rfl hk9 rfl (vin (by rw [ex]; exact nI_in hi (by decide))) dX5_init_100 (fun H locs hP hD hS => ?_)
        have hf : va_up (fun j => if j < i then some (qa (3 + j)) else none) x1.toNatClampNeg (some q) = fun j => if j < i + 1 then some (va_up qa (3 + i) q (3 + j)) else none := by
          funext j
          rw [hcl]
          simp only [va_up]
          by_cases hj : j = i
          · subst hj; simp
          · by_cases hj2 : j < i
            · rw [if_neg hj, if_pos hj2, if_pos (by omega), if_neg (by omega)]
            · rw [if_neg hj, if_neg hj2, if_neg (by omega)]
        have hP : va_P (gD G) vwCl ([(h0, .inr (3, [.ref p0, .ref p1, .ref p2, .ref qp, .int 0, .int 0, .ref qs, .ref qz, .ref qr, .ref qw, .int 0])), (qp, .inl (G.2.2.1 4, 8, .inr (.inr (.inr (.inr (va_up (fun j => if j < i then some (qa (3 + j)) else none) x1.toNatClampNeg (some q))))))), (qs, .inl (G.2.2.1 4, 2, .inr (.inr (.inr (.inr fun j => if j < 0 then some (qa (11 + j)) else none))))), (qz, .inl (G.2.2.1 3, 2, .inl fun _ => 0)), (qr, .inr (1, [.ref (a1 0), .int (iX3.1 1), .int (iX3.1 2), .int (iX3.1 3), .int (iX3.1 4), .int (iX3.1 5), .int (iX3.1 6), .int (iX3.1 7), .int (iX3.1 8), .int (iX3.1 9), .int (iX3.1 10), .long (iX3.2.1 11)])), (a1 0, .inl (G.2.2.1 0, 600, .inl (iX3.2.2.1 0))), (qw, .inl (G.2.2.1 0, 18, .inl fun _ => 0))] ++ Bn G (3 + i + 1) (va_up qa (3 + i) q) (va_up ra (3 + i) a9) (va_up rb (3 + i) b9)) H := hP
        have hD : va_D A ([(h0, .inr (3, [.ref p0, .ref p1, .ref p2, .ref qp, .int 0, .int 0, .ref qs, .ref qz, .ref qr, .ref qw, .int 0])), (qp, .inl (G.2.2.1 4, 8, .inr (.inr (.inr (.inr (va_up (fun j => if j < i then some (qa (3 + j)) else none) x1.toNatClampNeg (some q))))))), (qs, .inl (G.2.2.1 4, 2, .inr (.inr (.inr (.inr fun j => if j < 0 then some (qa (11 + j)) else none))))), (qz, .inl (G.2.2.1 3, 2, .inl fun _ => 0)), (qr, .inr (1, [.ref (a1 0), .int (iX3.1 1), .int (iX3.1 2), .int (iX3.1 3), .int (iX3.1 4), .int (iX3.1 5), .int (iX3.1 6), .int (iX3.1 7), .int (iX3.1 8), .int (iX3.1 9), .int (iX3.1 10), .long (iX3.2.1 11)])), (a1 0, .inl (G.2.2.1 0, 600, .inl (iX3.2.2.1 0))), (qw, .inl (G.2.2.1 0, 18, .inl fun _ => 0))] ++ Bn G (3 + i + 1) (va_up qa (3 + i) q) (va_up ra (3 + i) a9) (va_up rb (3 + i) b9)) := hD
        rw [hf] at hP hD
        refine lv_iinc (v := (x1 + (1 : Int32))) (lv' := [(1, .int (x1 + (1 : Int32))), (0, .ref h0)]) hx hb dX5_init_101 hl (k := 1) rfl rfl (by decide) rfl (fun ls hl => ?_)
        refine lv_goto (tgt := 82) hx hb dX5_init_104 (by decide) ?_
        exact ih (i + 1) _ _ _ _ _ _ _ hi (by omega) (by rw [ex]; exact nI_1 i) (by rw [va_up_ne _ _ (by omega)]; exact hq0) (by rw [va_up_ne _ _ (by omega)]; exact hq1) (by rw [va_up_ne _ _ (by omega)]; exact hq2) hP hD hS (lv_sub hl [1, 0] rfl)
  exact lp1 9 0 _ qa ra rb _ _ _ (by decide) (by decide) rfl hq0 hq1 hq2 hP hD hS (lv_sub hl [1, 0] rfl)
