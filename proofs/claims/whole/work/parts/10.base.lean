/-! what the walks rest on: the record of a state, the start and the end of a contract, calls -/
abbrev Ob : Type := (Nat → Int32) × (Nat → Int64) × (Nat → Nat → Int32) × (Nat → Nat → Int64)
def oi (u : Ob) (k : Nat) (x : Int32) : Ob := (va_up u.1 k x, u.2)
def ol (u : Ob) (k : Nat) (x : Int64) : Ob := (u.1, va_up u.2.1 k x, u.2.2)
def oa (u : Ob) (k : Nat) (f : Nat → Int32) : Ob := (u.1, u.2.1, va_up u.2.2.1 k f, u.2.2.2)
def oj (u : Ob) (k : Nat) (f : Nat → Int64) : Ob := (u.1, u.2.1, u.2.2.1, va_up u.2.2.2 k f)
def bI (b : Bool) : Int32 := if b = true then 1 else 0
abbrev Gp : Type := (Nat → ClassId) × (Nat → Nat → Nat) × (Nat → ClassId) × (Nat → Nat)
abbrev tyL (cy : Nat → ClassId) : List (ClassId × FieldType) := [(cy 0, .byte), (cy 1, .int), (cy 2, .long), (cy 3, .boolean), (cy 4, .object RX4), (cy 5, .double)]
abbrev gD (G : Gp) : va_G := (G.1, G.2.1)
abbrev gT (G : Gp) : List (ClassId × FieldType) := tyL G.2.2.1
abbrev gE (G : Gp) : Nat → Nat := G.2.2.2
theorem tp {c : Prop} [Decidable c] {α : Type} {x y v : α} (h : (if c then x else y) = v) (hc : c) : x = v := by rwa [if_pos hc] at h
theorem tn {c : Prop} [Decidable c] {α : Type} {x y v : α} (h : (if c then x else y) = v) (hc : ¬ c) : y = v := by rwa [if_neg hc] at h
theorem tno {c : Prop} [Decidable c] {α : Type} {y : Option α} {v : α} (h : (if c then none else y) = some v) : ¬ c ∧ y = some v := by
  by_cases hc : c
  · rw [if_pos hc] at h; cases h
  · rw [if_neg hc] at h; exact ⟨hc, h⟩
theorem tbd {α β : Type} {x : Option α} {k : α → Option β} {v : β} (h : x.bind k = some v) : ∃ q, x = some q ∧ k q = some v := by
  cases x with
  | none => cases h
  | some q => exact ⟨q, rfl, h⟩
theorem bI_nar (b : Bool) : narrow .boolean (.int (bI b)) = .int (bI b) := by cases b <;> rfl
theorem bI_0 {b : Bool} : bI b = 0 ↔ b = false := by cases b <;> decide
theorem bI_n0 {b : Bool} : ¬ bI b = 0 ↔ b = true := by cases b <;> decide

def aEn (j : Nat) : Int32 := match j with
  | 0 => 28
  | 1 => 35
  | _ => 58
def aSt (j : Nat) : Int32 := match j with
  | 0 => 21
  | 1 => 29
  | _ => 36
def aDy (j : Nat) : Int32 := match j with
  | 0 => 0
  | 1 => 31
  | 2 => 59
  | 3 => 90
  | 4 => 120
  | 5 => 151
  | 6 => 181
  | 7 => 212
  | 8 => 243
  | 9 => 273
  | 10 => 304
  | 11 => 334
  | _ => 365
def aLe (j : Nat) : Int32 := match j with
  | 0 => 10
  | 1 => 2
  | 2 => 3
  | 3 => 0
  | _ => -500
def aGr (j : Nat) : Int32 := match j with
  | 0 => 200
  | 1 => 5
  | 2 => 8
  | 3 => 3
  | _ => 500
def lenS : List Nat := [9, 6, 6, 4, 5, 5, 4, 4, 4]
def bytS : List (List Int32) := [[116, 111, 108, 101, 114, 97, 110, 99, 101], [113, 117, 111, 114, 117, 109], [119, 105, 110, 100, 111, 119], [109, 101, 110, 100], [100, 114, 105, 102, 116], [112, 117, 108, 115, 101], [104, 101, 97, 114], [108, 101, 97, 112], [108, 111, 115, 101]]
def strW : List (String × Nat × String × Nat) := [(RX3, 81, "tolerance", 0), (RX3, 87, "quorum", 1), (RX3, 89, "window", 2), (RX3, 91, "mend", 3), (RX3, 93, "drift", 4), (RX3, 95, "pulse", 5), (RX3, 97, "hear", 6), (RX3, 127, "leap", 7), (RX3, 128, "lose", 8), (RX6, 206, "tolerance", 0), (RX6, 212, "quorum", 1), (RX6, 214, "window", 2), (RX6, 216, "mend", 3), (RX6, 218, "drift", 4), (RX6, 265, "pulse", 5), (RX6, 270, "hear", 6), (RX6, 249, "leap", 7), (RX6, 251, "lose", 8)]
def strM : List (String × Nat × String) := [(RX5, 50, "the text buffer is full"), (RX5, 61, "the buffer has no such length"), (RX5, 148, "no such number of the receiver"), (RX5, 156, "no such minute"), (RX5, 171, "no such part"), (RX5, 173, "no such year"), (RX5, 179, "no such day"), (RX5, 181, "no such time of the day"), (RX5, 196, "no such time for a pulse"), (RX5, 198, "no such length of a pulse"), (RX5, 203, "the minute would end too late"), (RX5, 207, "no such second in the present minute"), (RX5, 223, "no such frame"), (RX5, 247, "no such number of a frame"), (RX5, 249, "no such second in a frame"), (RX5, 268, "there are no votes"), (RX5, 271, "no such block"), (RX5, 279, "no time can be assembled"), (RX5, 287, "no such fix"), (RX5, 295, "no such part of a fix"), (RX5, 297, "no such time"), (RX5, 299, "no fix by that time"), (RX5, 305, "fewer than two fixes"), (RX5, 324, "no such setting"), (RX5, 332, "no such value of the setting"), (RX5, 334, "no drift can be as large"), (RX5, 349, "no such byte"), (RX5, 354, "there is no change to undo"), (RX5, 359, "no such slot"), (RX5, 361, "nothing was saved there")]
/-- what the code reads that it never writes: static rows, texts, what a throw asks -/
def EvH (ev : Nat → Nat) (A : Nat → Prop) (U : State) (H : Heap) : Prop := va_Z "RadioClock$Code" "BLOCK_ENDS" "[I" (.ref (ev 0)) A U H ∧ va_T .int (ev 0) 3 (fun j => .int (aEn j)) A U H ∧ va_Z "RadioClock$Code" "BLOCK_STARTS" "[I" (.ref (ev 1)) A U H ∧ va_T .int (ev 1) 3 (fun j => .int (aSt j)) A U H ∧ va_Z "RadioClock$Calendar" "DAYS_AHEAD_OF_MONTH" "[I" (.ref (ev 2)) A U H ∧ va_T .int (ev 2) 13 (fun j => .int (aDy j)) A U H ∧ va_Z "RadioClock" "LEAST_SETTINGS" "[I" (.ref (ev 3)) A U H ∧ va_T .int (ev 3) 5 (fun j => .int (aLe j)) A U H ∧ va_Z "RadioClock" "GREATEST_SETTINGS" "[I" (.ref (ev 4)) A U H ∧ va_T .int (ev 4) 5 (fun j => .int (aGr j)) A U H ∧ va_Z "java/lang/String" "COMPACT_STRINGS" "Z" (.int 1) A U H ∧ vk_S 9 lenS bytS (fun i => ev (10 + 2 * i)) (fun i => ev (11 + 2 * i)) A U H ∧ vx_Zq Bundle.tN "UNASSIGNED_STACK" Bundle.steD A U H ∧ vx_Zq Bundle.tN "SUPPRESSED_SENTINEL" Bundle.listD A U H ∧ va_Zq "jdk/internal/util/Preconditions" "SIOOBE_FORMATTER" "Ljava/util/function/BiFunction;" A U H
def nstM : List (String × Nat × MethodName) := [(RX5, 9, yX4_init), (RX4, 49, yX0_init), (RX5, 35, yX3_init)]
def nstF : List (String × Nat × String) := [(RX3, 99, "LEAST_SETTINGS"), (RX3, 103, "GREATEST_SETTINGS"), (RX2, 76, "GREATEST_SETTINGS")]
def exL : List String := ["java/lang/IllegalStateException", "java/lang/IllegalArgumentException", "java/lang/IndexOutOfBoundsException", "java/util/NoSuchElementException"]
def dcL : List String := ["java/lang/RuntimeException", "java/lang/Exception", "java/lang/Throwable"]
def EvR (ev : Nat → Nat) (U : State) : Prop := (∀ q ∈ strW, vk_R q.1 q.2.1 q.2.2.1 (ev (10 + 2 * q.2.2.2)) U) ∧ (∀ q ∈ strM, ∃ a : Nat, vk_R q.1 q.2.1 q.2.2 a U) ∧ (∀ q ∈ nstM, va_Nw (.methodLinkNest q.1 q.2.1 q.2.2 "RadioClock") U) ∧ (∀ q ∈ nstF, va_Nw (.fieldLinkNest q.1 q.2.1 "RadioClock" q.2.2 "[I" "RadioClock") U) ∧ (∀ E ∈ exL, va_Nw (.castable E E) U) ∧ (∀ E ∈ exL, ∀ F ∈ exL, E ≠ F → va_Nc E F U) ∧ va_AO RX4 U ∧ (∀ n ∈ dcL, va_Nw (.declares ⟨n, "<init>", "(Ljava/lang/String;)V"⟩) U)
theorem EvH.moved {ev : Nat → Nat} {A : Nat → Prop} {u U : State} {H : Heap} (hvm : u.vm.Alike U.vm) (h : EvH ev A u H) : EvH ev A U H := by
  obtain ⟨h0, h1, h2, h3, h4, h5, h6, h7, h8, h9, h10, h11, h12, h13, h14⟩ := h
  exact ⟨va_Z.moved hvm h0, va_T.moved hvm h1, va_Z.moved hvm h2, va_T.moved hvm h3, va_Z.moved hvm h4, va_T.moved hvm h5, va_Z.moved hvm h6, va_T.moved hvm h7, va_Z.moved hvm h8, va_T.moved hvm h9, va_Z.moved hvm h10, vk_S.moved hvm h11, vx_Zq.moved hvm h12, vx_Zq.moved hvm h13, va_Zq.moved hvm h14⟩
theorem EvH.kept {ev : Nat → Nat} {A : Nat → Prop} {U : State} {H H1 : Heap} (h : EvH ev A U H) (hq : ∀ a : Nat, a < H.size → ¬ A a → H1[a]? = H[a]?) : EvH ev A U H1 := by
  obtain ⟨h0, h1, h2, h3, h4, h5, h6, h7, h8, h9, h10, h11, h12, h13, h14⟩ := h
  exact ⟨h0.kept hq, h1.kept hq, h2.kept hq, h3.kept hq, h4.kept hq, h5.kept hq, h6.kept hq, h7.kept hq, h8.kept hq, h9.kept hq, h10.kept hq, h11.kept hq, h12.kept hq, h13.kept hq, h14.kept hq⟩
theorem EvH.narrow {ev : Nat → Nat} {A B : Nat → Prop} {U : State} {H : Heap} (h : EvH ev A U H) (hq : ∀ q, B q → A q) : EvH ev B U H := by
  obtain ⟨h0, h1, h2, h3, h4, h5, h6, h7, h8, h9, h10, h11, h12, h13, h14⟩ := h
  exact ⟨h0.narrow hq, h1.narrow hq, h2.narrow hq, h3.narrow hq, h4.narrow hq, h5.narrow hq, h6.narrow hq, h7.narrow hq, h8.narrow hq, h9.narrow hq, h10.narrow hq, h11.narrow hq, h12.narrow hq, h13.narrow hq, h14.narrow hq⟩
theorem EvR.warm {ev : Nat → Nat} {s U : State} (hW : s.WarmedH U.vm) (h : EvR ev s) : EvR ev U := ⟨fun q hq => (h.1 q hq).warm hW, fun q hq => (h.2.1 q hq).imp fun _ h => h.warm hW, fun q hq => (h.2.2.1 q hq).warmM hW, fun q hq => (h.2.2.2.1 q hq).warmF hW, fun E hE => (h.2.2.2.2.1 E hE).warmC hW, fun E hE F hF n => (h.2.2.2.2.2.1 E hE F hF n).moved hW.alike, h.2.2.2.2.2.2.1.moved hW.alike, fun n hn => (h.2.2.2.2.2.2.2 n hn).warmD hW⟩
theorem EvR.same {ev : Nat → Nat} {u U : State} (hv : U.vm = u.vm) (h : EvR ev u) : EvR ev U := ⟨fun q hq => (h.1 q hq).same hv, fun q hq => (h.2.1 q hq).imp fun _ h => h.same hv, fun q hq => (h.2.2.1 q hq).same rfl hv.symm, fun q hq => (h.2.2.2.1 q hq).same rfl hv.symm, fun E hE => (h.2.2.2.2.1 E hE).same rfl hv.symm, fun E hE F hF n => (h.2.2.2.2.2.1 E hE F hF n).moved (by rw [hv]; exact Vm.Alike.refl _), h.2.2.2.2.2.2.1.moved (by rw [hv]; exact Vm.Alike.refl _), fun n hn => (h.2.2.2.2.2.2.2 n hn).same rfl hv.symm⟩
def Ev (ev : Nat → Nat) (A : Nat → Prop) (U : State) : Prop := EvH ev A U U.heap ∧ EvR ev U
theorem Ev.call {ev : Nat → Nat} {A B : Nat → Prop} {s U : State} {H : Heap} {locs : List Loc} (h : Ev ev A s) (hS : va_S A s.heap H locs) (hAB : ∀ q, B q → A q) (hU : U.heap = H) (hW : s.WarmedH U.vm) : Ev ev B U := by
  refine ⟨?_, h.2.warm hW⟩
  rw [hU]
  exact ((h.1.kept hS.2.1).narrow hAB).moved hW.alike
theorem Ev.blind {ev : Nat → Nat} {A : Nat → Prop} {U : State} {g : JFrame} {mk : MethodId} {a : Array Value} (h : Ev ev A U) : Ev ev A (U.calling g mk a) := ⟨EvH.moved (u := U) (U := U.calling g mk a) (Vm.Alike.refl U.vm) h.1, EvR.same (u := U) (U := U.calling g mk a) rfl h.2⟩
def pw (G : Gp) (w : va_W) (sz : Nat) : State → Prop := fun U => U.heap.size = sz ∧ va_P (gD G) vwCl w U.heap ∧ va_K (gD G) vwCl (gT G) U ∧ va_D (fun _ => True) w ∧ Ev (gE G) (va_A w sz) U
def bw {S : Type} (G : Gp) (wf : S → va_W) (A : Nat → Prop) : S → State → Prop := fun u t => va_P (gD G) vwCl (wf u) t.heap ∧ va_K (gD G) vwCl (gT G) t ∧ va_D A (wf u)
theorem pw_blind {G : Gp} {w : va_W} {sz : Nat} {av : List Value} : FrameBlind (va_Pc av (pw G w sz)) := fun a U g mk h => by
  obtain ⟨h1, h2, h3, h4, h5, h6⟩ := h
  exact ⟨h1, h2, h3, va_K.moved (u := U) (U := U.calling g mk a) (Vm.Alike.refl U.vm) h4, h5, h6.blind⟩
theorem pw_pre {G : Gp} {w ws : va_W} {s U : State} {H : Heap} {locs : List Loc} {A : Nat → Prop} {av : List Value} (hPc : va_P (gD G) vwCl w H) (hDc : va_D A w) (hK : va_K (gD G) vwCl (gT G) s) (hE : Ev (gE G) A s) (hS : va_S A s.heap H locs) (hF : ∀ q, va_A w H.size q → A q) (hU : U.heap = H) (hW : s.WarmedH U.vm) : va_Pc av (pw G w H.size) av.toArray U :=
  ⟨rfl, by rw [hU], by rw [hU]; exact hPc, va_K.moved hW.alike hK, hDc.weaken (fun _ _ _ _ => trivial), hE.call hS hF hU hW⟩
theorem mt {l : Launch} {y : MethodName} {rm : Room} {cc : ByteArray} {maxL : Nat} {ret : Option FieldType} {av : List Value} {G : Gp} {w : va_W} {sz : Nat} {Qc : (Nat → Prop) → Array Value → State → Outcome → State → Prop} {mc ms : Nat}
    (hy : plainName y.cls = true) (hn : (lg_sl av).length ≤ maxL)
    (body : ∀ (p : Program) (e : Env) (s : State) (m : MethodId) (below : List Frame) (meth : Method) (c : Code) (A : Nat → Prop) (ls : Array Slot), p.tables.exec = Jvm.exec → c.code = cc → meth.sig.returnType = ret → meth.locks = false → c.maxLocals = maxL → (∀ w ∈ Cond.code y cc maxL ret :: lw_g, w.before av.toArray s = true) → s.vm.findClass y.cls = some m.cls → (∀ q : Nat, s.heap.size ≤ q → A q) → va_P (gD G) vwCl w s.heap → va_K (gD G) vwCl (gT G) s → va_D A w → Ev (gE G) A s → va_S A s.heap s.heap [] → lv_has ls maxL (lv_args 0 av) →
      W p l e rm s m av.toArray below meth c s.heap [] 0 0 (MQ below (Qc A) av.toArray s mc ms A) (F0 m 0 ls [])) :
    Met l y (Cond.code y cc maxL ret :: lw_g) rm (va_Pc av (pw G w sz)) (Qc (va_A w sz)) mc ms (va_A w sz) := by
  refine Met.ofW (cc := cc) (maxL := maxL) (ret := ret) hy rfl ?_
  intro p e s m args below meth c s₁ B hml hv
  obtain ⟨rfl, hsz, hP, hK, hD0, hE⟩ := hv
  subst hsz
  have hD := hD0.self (sz := s.heap.size)
  have hts := atoms_spec (ws := Cond.code y cc maxL ret :: lw_g) B.pre
  rw [lg_entry_eq]
  exact body p e s m below meth c (va_A w s.heap.size) _ B.exec B.bytes B.returns B.notSynchronized hml hts (findClass_of_methodNamed B.named) (fun q h => Or.inr h) hP hK hD hE va_S.rf (lv_entry av hn)
section EW
variable {p : Program} {l : Launch} {e : Env} {R : Room} {s : State} {m : MethodId} {args : Array Value} {below : List Frame} {meth : Method} {c : Code} {H : Heap} {locs : List Loc} {cells slots : Nat} {Q : State → Prop}
variable {cc : ByteArray} {pc : Nat} {ls : Array Slot} {rest : List Value} {A : Nat → Prop} {G : Gp}
theorem e_i {S : Type} {post : Int32 → S → Prop} {wf : S → va_W} (hx : p.tables.exec = Jvm.exec) (hb : c.code = cc) (hr : meth.sig.returnType = some .int) (hlk : meth.locks = false) (u : S) {v : Int32} (hq : post v u) (hP : va_P (gD G) vwCl (wf u) H) (hK : va_K (gD G) vwCl (gT G) s) (hD : va_D A (wf u)) (hS : va_S A s.heap H locs) (hdg : decode cc pc = .ok (.ireturn, 1)) :
    W p l e R s m args below meth c H locs cells slots (MQ below (va_Qi post (bw G wf A) A) args s cells slots A) (F0 m pc ls [.int v]) :=
  W.iret (v := v) hx hb hr (fun t ht hW => ⟨⟨v, u, rfl, hq, by rw [ht]; exact hP, va_K.moved hW.alike hK, hD⟩, hS.F ht⟩) hS.2.2 hdg hlk
theorem e_z {S : Type} {post : Int32 → S → Prop} {wf : S → va_W} {ty : FieldType} (hx : p.tables.exec = Jvm.exec) (hb : c.code = cc) (hr : meth.sig.returnType = some ty) (hlk : meth.locks = false) (u : S) {v : Int32} (hn : narrow ty (.int v) = .int v) (hq : post v u) (hP : va_P (gD G) vwCl (wf u) H) (hK : va_K (gD G) vwCl (gT G) s) (hD : va_D A (wf u)) (hS : va_S A s.heap H locs) (hdg : decode cc pc = .ok (.ireturn, 1)) :
    W p l e R s m args below meth c H locs cells slots (MQ below (va_Qi post (bw G wf A) A) args s cells slots A) (F0 m pc ls [.int v]) :=
  W.zret (v := v) hx hb hr hn (fun t ht hW => ⟨⟨v, u, rfl, hq, by rw [ht]; exact hP, va_K.moved hW.alike hK, hD⟩, hS.F ht⟩) hS.2.2 hdg hlk
theorem e_l {S : Type} {post : Int64 → S → Prop} {wf : S → va_W} (hx : p.tables.exec = Jvm.exec) (hb : c.code = cc) (hr : meth.sig.returnType = some .long) (hlk : meth.locks = false) (u : S) {v : Int64} (hq : post v u) (hP : va_P (gD G) vwCl (wf u) H) (hK : va_K (gD G) vwCl (gT G) s) (hD : va_D A (wf u)) (hS : va_S A s.heap H locs) (hdg : decode cc pc = .ok (.lreturn, 1)) :
    W p l e R s m args below meth c H locs cells slots (MQ below (va_Ql post (bw G wf A) A) args s cells slots A) (F0 m pc ls [.long v]) :=
  W.lret (v := v) hx hb hr (fun t ht hW => ⟨⟨v, u, rfl, hq, by rw [ht]; exact hP, va_K.moved hW.alike hK, hD⟩, hS.F ht⟩) hS.2.2 hdg hlk
theorem e_v {S : Type} {post : S → Prop} {wf : S → va_W} (hx : p.tables.exec = Jvm.exec) (hb : c.code = cc) (hr : meth.sig.returnType = none) (hlk : meth.locks = false) (u : S) (hq : post u) (hP : va_P (gD G) vwCl (wf u) H) (hK : va_K (gD G) vwCl (gT G) s) (hD : va_D A (wf u)) (hS : va_S A s.heap H locs) (hdg : decode cc pc = .ok (.return_, 1)) :
    W p l e R s m args below meth c H locs cells slots (MQ below (va_Qv post (bw G wf A) A) args s cells slots A) (F0 m pc ls []) :=
  W.vret hx hb hr (fun t ht hW => ⟨⟨u, rfl, hq, by rw [ht]; exact hP, va_K.moved hW.alike hK, hD⟩, hS.F ht⟩) hS.2.2 hdg hlk

theorem lg_i1 (x y : Int64) : (lg_cmp x y < 0) ↔ x < y := by
  unfold lg_cmp
  simp only [gt_iff_lt, Int64.lt_iff_toInt_lt, ← Int64.toInt_inj]
  split
  · constructor
    · intro h; exact absurd h (by decide)
    · intro h; omega
  · split
    · constructor
      · intro h; exact absurd h (by decide)
      · intro h; omega
    · constructor
      · intro h; omega
      · intro h; decide
theorem lg_i2 (x y : Int64) : (0 < lg_cmp x y) ↔ y < x := by
  unfold lg_cmp
  simp only [gt_iff_lt, Int64.lt_iff_toInt_lt, ← Int64.toInt_inj]
  split
  · constructor
    · intro h; assumption
    · intro h; decide
  · split
    · constructor
      · intro h; exact absurd h (by decide)
      · intro h; omega
    · constructor
      · intro h; exact absurd h (by decide)
      · intro h; omega
theorem lg_i3 (x y : Int64) : (lg_cmp x y = 0) ↔ x = y := by
  unfold lg_cmp
  simp only [gt_iff_lt, Int64.lt_iff_toInt_lt, ← Int64.toInt_inj]
  split
  · constructor
    · intro h; exact absurd h (by decide)
    · intro h; omega
  · split
    · constructor
      · intro h; assumption
      · intro h; rfl
    · constructor
      · intro h; exact absurd h (by decide)
      · intro h; omega
theorem lg_i4 (x y : Int64) : (0 ≤ lg_cmp x y) ↔ y ≤ x := by
  rw [← Int32.not_lt, lg_i1, Int64.not_lt]
theorem lg_i5 (x y : Int64) : (lg_cmp x y ≤ 0) ↔ x ≤ y := by
  rw [← Int32.not_lt, lg_i2, Int64.not_lt]
theorem lc_lt (hexec : p.tables.exec = Jvm.exec) (hb : c.code = cc) {x y : Int64} {off : Int} {tgt : Nat} (hd0 : decode cc pc = .ok (.lcmp, 1)) (hdg : decode cc (pc + 1) = .ok (.ifCond .lt off, 3)) (ht : ((pc + 1 : Nat) : Int) + off = (tgt : Int)) (kt : x < y → W p l e R s m args below meth c H locs cells slots Q (F0 m tgt ls rest)) (kf : ¬ x < y → W p l e R s m args below meth c H locs cells slots Q (F0 m (pc + 1 + 3) ls rest)) :
    W p l e R s m args below meth c H locs cells slots Q (F0 m pc ls (.long y :: .long x :: rest)) :=
  W.lcmp hexec hb hd0 (lv_if_lt hexec hb hdg ht (fun h => kt ((lg_i1 x y).mp h)) (fun h => kf ((not_congr (lg_i1 x y)).mp h)))
theorem lc_ge (hexec : p.tables.exec = Jvm.exec) (hb : c.code = cc) {x y : Int64} {off : Int} {tgt : Nat} (hd0 : decode cc pc = .ok (.lcmp, 1)) (hdg : decode cc (pc + 1) = .ok (.ifCond .ge off, 3)) (ht : ((pc + 1 : Nat) : Int) + off = (tgt : Int)) (kt : y ≤ x → W p l e R s m args below meth c H locs cells slots Q (F0 m tgt ls rest)) (kf : ¬ y ≤ x → W p l e R s m args below meth c H locs cells slots Q (F0 m (pc + 1 + 3) ls rest)) :
    W p l e R s m args below meth c H locs cells slots Q (F0 m pc ls (.long y :: .long x :: rest)) :=
  W.lcmp hexec hb hd0 (lv_if_ge hexec hb hdg ht (fun h => kt ((lg_i4 x y).mp h)) (fun h => kf ((not_congr (lg_i4 x y)).mp h)))
theorem lc_gt (hexec : p.tables.exec = Jvm.exec) (hb : c.code = cc) {x y : Int64} {off : Int} {tgt : Nat} (hd0 : decode cc pc = .ok (.lcmp, 1)) (hdg : decode cc (pc + 1) = .ok (.ifCond .gt off, 3)) (ht : ((pc + 1 : Nat) : Int) + off = (tgt : Int)) (kt : y < x → W p l e R s m args below meth c H locs cells slots Q (F0 m tgt ls rest)) (kf : ¬ y < x → W p l e R s m args below meth c H locs cells slots Q (F0 m (pc + 1 + 3) ls rest)) :
    W p l e R s m args below meth c H locs cells slots Q (F0 m pc ls (.long y :: .long x :: rest)) :=
  W.lcmp hexec hb hd0 (lv_if_gt hexec hb hdg ht (fun h => kt ((lg_i2 x y).mp h)) (fun h => kf ((not_congr (lg_i2 x y)).mp h)))
theorem lc_le (hexec : p.tables.exec = Jvm.exec) (hb : c.code = cc) {x y : Int64} {off : Int} {tgt : Nat} (hd0 : decode cc pc = .ok (.lcmp, 1)) (hdg : decode cc (pc + 1) = .ok (.ifCond .le off, 3)) (ht : ((pc + 1 : Nat) : Int) + off = (tgt : Int)) (kt : x ≤ y → W p l e R s m args below meth c H locs cells slots Q (F0 m tgt ls rest)) (kf : ¬ x ≤ y → W p l e R s m args below meth c H locs cells slots Q (F0 m (pc + 1 + 3) ls rest)) :
    W p l e R s m args below meth c H locs cells slots Q (F0 m pc ls (.long y :: .long x :: rest)) :=
  W.lcmp hexec hb hd0 (lv_if_le hexec hb hdg ht (fun h => kt ((lg_i5 x y).mp h)) (fun h => kf ((not_congr (lg_i5 x y)).mp h)))
theorem lc_eq (hexec : p.tables.exec = Jvm.exec) (hb : c.code = cc) {x y : Int64} {off : Int} {tgt : Nat} (hd0 : decode cc pc = .ok (.lcmp, 1)) (hdg : decode cc (pc + 1) = .ok (.ifCond .eq off, 3)) (ht : ((pc + 1 : Nat) : Int) + off = (tgt : Int)) (kt : x = y → W p l e R s m args below meth c H locs cells slots Q (F0 m tgt ls rest)) (kf : ¬ x = y → W p l e R s m args below meth c H locs cells slots Q (F0 m (pc + 1 + 3) ls rest)) :
    W p l e R s m args below meth c H locs cells slots Q (F0 m pc ls (.long y :: .long x :: rest)) :=
  W.lcmp hexec hb hd0 (lv_if_eq hexec hb hdg ht (fun h => kt ((lg_i3 x y).mp h)) (fun h => kf ((not_congr (lg_i3 x y)).mp h)))
theorem lc_ne (hexec : p.tables.exec = Jvm.exec) (hb : c.code = cc) {x y : Int64} {off : Int} {tgt : Nat} (hd0 : decode cc pc = .ok (.lcmp, 1)) (hdg : decode cc (pc + 1) = .ok (.ifCond .ne off, 3)) (ht : ((pc + 1 : Nat) : Int) + off = (tgt : Int)) (kt : ¬ x = y → W p l e R s m args below meth c H locs cells slots Q (F0 m tgt ls rest)) (kf : x = y → W p l e R s m args below meth c H locs cells slots Q (F0 m (pc + 1 + 3) ls rest)) :
    W p l e R s m args below meth c H locs cells slots Q (F0 m pc ls (.long y :: .long x :: rest)) :=
  W.lcmp hexec hb hd0 (lv_if_ne hexec hb hdg ht (fun h => kt ((not_congr (lg_i3 x y)).mp h)) (fun h => kf ((lg_i3 x y).mp h)))
theorem bz_eq (hexec : p.tables.exec = Jvm.exec) (hb : c.code = cc) {b : Bool} {off : Int} {tgt : Nat} (hdg : decode cc pc = .ok (.ifCond .eq off, 3)) (ht : (pc : Int) + off = (tgt : Int)) (kt : ¬ b = true → W p l e R s m args below meth c H locs cells slots Q (F0 m tgt ls rest)) (kf : b = true → W p l e R s m args below meth c H locs cells slots Q (F0 m (pc + 3) ls rest)) : W p l e R s m args below meth c H locs cells slots Q (F0 m pc ls (.int (bI b) :: rest)) :=
  lv_if_eq hexec hb hdg ht (fun h => kt (by rw [bI_0.mp h]; decide)) (fun h => kf (bI_n0.mp h))
theorem bz_ne (hexec : p.tables.exec = Jvm.exec) (hb : c.code = cc) {b : Bool} {off : Int} {tgt : Nat} (hdg : decode cc pc = .ok (.ifCond .ne off, 3)) (ht : (pc : Int) + off = (tgt : Int)) (kt : b = true → W p l e R s m args below meth c H locs cells slots Q (F0 m tgt ls rest)) (kf : ¬ b = true → W p l e R s m args below meth c H locs cells slots Q (F0 m (pc + 3) ls rest)) : W p l e R s m args below meth c H locs cells slots Q (F0 m pc ls (.int (bI b) :: rest)) :=
  lv_if_ne hexec hb hdg ht (fun h => kt (bI_n0.mp h)) (fun h => kf (by rw [bI_0.mp h]; decide))
theorem hC_sub {ws wc : va_W} {isC : List Nat} (hC : isC.map (fun i => ws[i]?) = wc.map some) : isC.filterMap (fun i => ws[i]?) = wc := by
  have h : isC.filterMap (fun i => ws[i]?) = (isC.map (fun i => ws[i]?)).filterMap id := by rw [List.filterMap_map]; rfl
  rw [h, hC, List.filterMap_map]
  simp
theorem va_D_nil {A : Nat → Prop} : va_D A [] := ⟨fun i j p q h => by simp at h, fun k q h => by simp at h⟩
theorem va_P_nil {D : va_G} {cl : List vw_C} {H : Heap} : va_P D cl [] H := fun k q h => by simp at h
theorem jn0 {D : va_G} {cl : List vw_C} {ws : va_W} {H H1 : Heap} (hP : va_P D cl ws H) (hk : ∀ q : Nat, q < H.size → ¬ va_A [] H.size q → H1[q]? = H[q]?) : va_P D cl ws H1 := hP.kept fun k q hq => by
  have hlt := (hP k q hq).lt
  exact hk q.1 hlt fun h => by
    rcases h with ⟨k, e, h⟩ | h
    · simp at h
    · omega
theorem kSi0 {S : Type} {post : Int32 → S → Prop} {ret2 : Option FieldType}{wf : S → va_W} {y y2 : MethodName} {c2 : ByteArray} {n2 nL idx : Nat} {ret : Option FieldType} {own : String} {rm : Room} {ws : va_W} {As : List Value} (hS0 : CallFix p m c cc nL s args (Cond.code y cc nL ret :: lw_g) own)
    (hM : Met l y2 (Cond.code y2 c2 n2 ret2 :: lw_g) rm (va_Pc As (pw G [] H.size)) (va_Qi post (bw G wf (va_A [] H.size)) (va_A [] H.size)) 0 0 (va_A [] H.size))
    (kl : Cond.methodLink own idx y2 ∈ lw_g) (kc : Cond.static y2 ∈ lw_g ∧ Cond.initialized y2.cls ∈ lw_g ∧ Cond.code y2 c2 n2 ret2 ∈ lw_g ∧ y2.cls ≠ "java/lang/invoke/MethodHandle" ∧ y2.cls ≠ "java/lang/invoke/VarHandle" ∧ (parseMethodDescriptor y2.desc).map (fun d => d.parameters.length) = some As.length) (hrm : rm.cells = 0 ∧ rm.slots = 0 ∧ rm.frames + 1 ≤ R.frames ∧ 8 + (n2 + 11) + rm.locals ≤ R.locals)
    (hP : va_P (gD G) vwCl ws H) (hK : va_K (gD G) vwCl (gT G) s) (hD : va_D A ws) (hE : Ev (gE G) A s) (hS : va_S A s.heap H locs) (hA : ∀ q : Nat, s.heap.size ≤ q → A q) (hls : ls.size = nL) (hW : (rest.map fun v => v.category).sum ≤ 8) (hcs : cells ≤ R.cells ∧ slots ≤ R.slots) (hdg : decode cc pc = .ok (.invokestatic idx, 3))
    (kk : ∀ (r : Int32) (u : S) (H1 : Heap) (locs1 : List Loc), post r u → va_P (gD G) vwCl ws H1 → va_D A ws → va_S A s.heap H1 locs1 → W p l e R s m args below meth c H1 locs1 cells slots Q (F0 m (pc + 3) ls (.int r :: rest))) :
    W p l e R s m args below meth c H locs cells slots Q (F0 m pc ls (As.reverse ++ rest)) := by
  have hPc : va_P (gD G) vwCl [] H := va_P_nil
  have hDc : va_D A [] := va_D_nil
  have hF : ∀ q, va_A [] H.size q → A q := fun q h => h.elim (fun ⟨k, e, h⟩ => by simp at h) (fun h => hA q (Nat.le_trans hS.1 h))
  refine va_calli (va_runS (As := As) (rest := rest) hS0 hM ⟨callB_of As.length hS0.2.2.2.2 (kgg kc.2.2.1) rfl hrm.1 hrm.2.1 (hS0.2.2.2.2 _ (List.mem_cons_of_mem _ kc.2.1)) (hS0.2.2.2.2 _ (List.mem_cons_of_mem _ kl)) kc.2.2.2 hrm.2.2, hS0.2.2.2.2 _ (List.mem_cons_of_mem _ kc.1)⟩ ⟨pw_blind, fun U hU hW => pw_pre (ws := ws) hPc hDc hK hE hS hF hU hW⟩ rfl rfl hls rfl (lv_room hW) hdg hcs) hS (fun q _ h => hF q h) hF (fun r u t H1 locs1 ht hvm hw hB hz1 hk1 hS1 => ?_)
  obtain ⟨hP1, hK1, hD1⟩ := hB
  rw [ht] at hP1
  exact kk r u H1 locs1 hw (jn0 hP hk1) hD hS1
theorem kSi1 {S : Type} {post : Int32 → S → Prop} {ret2 : Option FieldType}{wf : S → va_W} {y y2 : MethodName} {c2 : ByteArray} {n2 nL idx : Nat} {ret : Option FieldType} {own : String} {rm : Room} {ws : va_W} {As : List Value} (hS0 : CallFix p m c cc nL s args (Cond.code y cc nL ret :: lw_g) own)
    (hM : Met l y2 (Cond.code y2 c2 n2 ret2 :: lw_g) rm (va_Pc As (pw G ws H.size)) (va_Qi post (bw G wf (va_A ws H.size)) (va_A ws H.size)) 0 0 (va_A ws H.size))
    (kl : Cond.methodLink own idx y2 ∈ lw_g) (kc : Cond.static y2 ∈ lw_g ∧ Cond.initialized y2.cls ∈ lw_g ∧ Cond.code y2 c2 n2 ret2 ∈ lw_g ∧ y2.cls ≠ "java/lang/invoke/MethodHandle" ∧ y2.cls ≠ "java/lang/invoke/VarHandle" ∧ (parseMethodDescriptor y2.desc).map (fun d => d.parameters.length) = some As.length) (hrm : rm.cells = 0 ∧ rm.slots = 0 ∧ rm.frames + 1 ≤ R.frames ∧ 8 + (n2 + 11) + rm.locals ≤ R.locals)
    (hP : va_P (gD G) vwCl ws H) (hK : va_K (gD G) vwCl (gT G) s) (hD : va_D A ws) (hE : Ev (gE G) A s) (hS : va_S A s.heap H locs) (hA : ∀ q : Nat, s.heap.size ≤ q → A q) (hls : ls.size = nL) (hW : (rest.map fun v => v.category).sum ≤ 8) (hcs : cells ≤ R.cells ∧ slots ≤ R.slots) (hdg : decode cc pc = .ok (.invokestatic idx, 3))
    (kk : ∀ (r : Int32) (u : S) (H1 : Heap) (locs1 : List Loc), post r u → va_P (gD G) vwCl (wf u) H1 → va_D A (wf u) → va_S A s.heap H1 locs1 → W p l e R s m args below meth c H1 locs1 cells slots Q (F0 m (pc + 3) ls (.int r :: rest))) :
    W p l e R s m args below meth c H locs cells slots Q (F0 m pc ls (As.reverse ++ rest)) := by
  have hPc := hP
  have hDc := hD
  have hF : ∀ q, va_A ws H.size q → A q := fun q h => h.elim (fun ⟨k, e, h⟩ => hD.2 k (q, e) h) (fun h => hA q (Nat.le_trans hS.1 h))
  refine va_calli (va_runS (As := As) (rest := rest) hS0 hM ⟨callB_of As.length hS0.2.2.2.2 (kgg kc.2.2.1) rfl hrm.1 hrm.2.1 (hS0.2.2.2.2 _ (List.mem_cons_of_mem _ kc.2.1)) (hS0.2.2.2.2 _ (List.mem_cons_of_mem _ kl)) kc.2.2.2 hrm.2.2, hS0.2.2.2.2 _ (List.mem_cons_of_mem _ kc.1)⟩ ⟨pw_blind, fun U hU hW => pw_pre (ws := ws) hPc hDc hK hE hS hF hU hW⟩ rfl rfl hls rfl (lv_room hW) hdg hcs) hS (fun q _ h => hF q h) hF (fun r u t H1 locs1 ht hvm hw hB hz1 hk1 hS1 => ?_)
  obtain ⟨hP1, hK1, hD1⟩ := hB
  rw [ht] at hP1
  exact kk r u H1 locs1 hw hP1 (hD1.weaken fun k q hq h => hF _ h) hS1
theorem kSi2 {S : Type} {post : Int32 → S → Prop} {ret2 : Option FieldType}{wc : va_W} {wf : S → va_W} {y y2 : MethodName} {c2 : ByteArray} {n2 nL idx : Nat} {ret : Option FieldType} {own : String} {rm : Room} {ws : va_W} {As : List Value} (hS0 : CallFix p m c cc nL s args (Cond.code y cc nL ret :: lw_g) own)
    (hM : Met l y2 (Cond.code y2 c2 n2 ret2 :: lw_g) rm (va_Pc As (pw G wc H.size)) (va_Qi post (bw G wf (va_A wc H.size)) (va_A wc H.size)) 0 0 (va_A wc H.size))
    (kl : Cond.methodLink own idx y2 ∈ lw_g) (kc : Cond.static y2 ∈ lw_g ∧ Cond.initialized y2.cls ∈ lw_g ∧ Cond.code y2 c2 n2 ret2 ∈ lw_g ∧ y2.cls ≠ "java/lang/invoke/MethodHandle" ∧ y2.cls ≠ "java/lang/invoke/VarHandle" ∧ (parseMethodDescriptor y2.desc).map (fun d => d.parameters.length) = some As.length) (hrm : rm.cells = 0 ∧ rm.slots = 0 ∧ rm.frames + 1 ≤ R.frames ∧ 8 + (n2 + 11) + rm.locals ≤ R.locals)
    (hP : va_P (gD G) vwCl ws H) (hK : va_K (gD G) vwCl (gT G) s) (hD : va_D A ws) (hE : Ev (gE G) A s) (hS : va_S A s.heap H locs) (hA : ∀ q : Nat, s.heap.size ≤ q → A q) {wr : va_W} (isC isR : List Nat) (hC : isC.map (fun i => ws[i]?) = wc.map some) (hR : isR.map (fun i => ws[i]?) = wr.map some) (hnc : va_nd isC = true) (hn : va_nd isR = true) (hdis : ∀ i ∈ isR, i ∉ isC) (hls : ls.size = nL) (hW : (rest.map fun v => v.category).sum ≤ 8) (hcs : cells ≤ R.cells ∧ slots ≤ R.slots) (hdg : decode cc pc = .ok (.invokestatic idx, 3))
    (kk : ∀ (r : Int32) (u : S) (H1 : Heap) (locs1 : List Loc), post r u → va_P (gD G) vwCl (wr ++ wf u) H1 → va_D A (wr ++ wf u) → va_S A s.heap H1 locs1 → W p l e R s m args below meth c H1 locs1 cells slots Q (F0 m (pc + 3) ls (.int r :: rest))) :
    W p l e R s m args below meth c H locs cells slots Q (F0 m pc ls (As.reverse ++ rest)) := by
  have hPc := hP.sub isC (hC_sub hC)
  have hDc := hD.sub isC hnc hC
  have hF := va_free (wc := wc) hD hS hA isC hC
  refine va_calli (va_runS (As := As) (rest := rest) hS0 hM ⟨callB_of As.length hS0.2.2.2.2 (kgg kc.2.2.1) rfl hrm.1 hrm.2.1 (hS0.2.2.2.2 _ (List.mem_cons_of_mem _ kc.2.1)) (hS0.2.2.2.2 _ (List.mem_cons_of_mem _ kl)) kc.2.2.2 hrm.2.2, hS0.2.2.2.2 _ (List.mem_cons_of_mem _ kc.1)⟩ ⟨pw_blind, fun U hU hW => pw_pre (ws := ws) hPc hDc hK hE hS hF hU hW⟩ rfl rfl hls rfl (lv_room hW) hdg hcs) hS (fun q _ h => hF q h) hF (fun r u t H1 locs1 ht hvm hw hB hz1 hk1 hS1 => ?_)
  obtain ⟨hP1, hK1, hD1⟩ := hB
  rw [ht] at hP1
  obtain ⟨hP2, hD2⟩ := va_join hP hD isC isR hC hR hn hdis hk1 hF hP1 hD1
  exact kk r u H1 locs1 hw hP2 hD2 hS1
theorem kSl0 {S : Type} {post : Int64 → S → Prop} {wf : S → va_W} {y y2 : MethodName} {c2 : ByteArray} {n2 nL idx : Nat} {ret : Option FieldType} {own : String} {rm : Room} {ws : va_W} {As : List Value} (hS0 : CallFix p m c cc nL s args (Cond.code y cc nL ret :: lw_g) own)
    (hM : Met l y2 (Cond.code y2 c2 n2 (some .long) :: lw_g) rm (va_Pc As (pw G [] H.size)) (va_Ql post (bw G wf (va_A [] H.size)) (va_A [] H.size)) 0 0 (va_A [] H.size))
    (kl : Cond.methodLink own idx y2 ∈ lw_g) (kc : Cond.static y2 ∈ lw_g ∧ Cond.initialized y2.cls ∈ lw_g ∧ Cond.code y2 c2 n2 (some .long) ∈ lw_g ∧ y2.cls ≠ "java/lang/invoke/MethodHandle" ∧ y2.cls ≠ "java/lang/invoke/VarHandle" ∧ (parseMethodDescriptor y2.desc).map (fun d => d.parameters.length) = some As.length) (hrm : rm.cells = 0 ∧ rm.slots = 0 ∧ rm.frames + 1 ≤ R.frames ∧ 8 + (n2 + 11) + rm.locals ≤ R.locals)
    (hP : va_P (gD G) vwCl ws H) (hK : va_K (gD G) vwCl (gT G) s) (hD : va_D A ws) (hE : Ev (gE G) A s) (hS : va_S A s.heap H locs) (hA : ∀ q : Nat, s.heap.size ≤ q → A q) (hls : ls.size = nL) (hW : (rest.map fun v => v.category).sum ≤ 8) (hcs : cells ≤ R.cells ∧ slots ≤ R.slots) (hdg : decode cc pc = .ok (.invokestatic idx, 3))
    (kk : ∀ (r : Int64) (u : S) (H1 : Heap) (locs1 : List Loc), post r u → va_P (gD G) vwCl ws H1 → va_D A ws → va_S A s.heap H1 locs1 → W p l e R s m args below meth c H1 locs1 cells slots Q (F0 m (pc + 3) ls (.long r :: rest))) :
    W p l e R s m args below meth c H locs cells slots Q (F0 m pc ls (As.reverse ++ rest)) := by
  have hPc : va_P (gD G) vwCl [] H := va_P_nil
  have hDc : va_D A [] := va_D_nil
  have hF : ∀ q, va_A [] H.size q → A q := fun q h => h.elim (fun ⟨k, e, h⟩ => by simp at h) (fun h => hA q (Nat.le_trans hS.1 h))
  refine va_calll (va_runS (As := As) (rest := rest) hS0 hM ⟨callB_of As.length hS0.2.2.2.2 (kgg kc.2.2.1) rfl hrm.1 hrm.2.1 (hS0.2.2.2.2 _ (List.mem_cons_of_mem _ kc.2.1)) (hS0.2.2.2.2 _ (List.mem_cons_of_mem _ kl)) kc.2.2.2 hrm.2.2, hS0.2.2.2.2 _ (List.mem_cons_of_mem _ kc.1)⟩ ⟨pw_blind, fun U hU hW => pw_pre (ws := ws) hPc hDc hK hE hS hF hU hW⟩ rfl rfl hls rfl (lv_room hW) hdg hcs) hS (fun q _ h => hF q h) hF (fun r u t H1 locs1 ht hvm hw hB hz1 hk1 hS1 => ?_)
  obtain ⟨hP1, hK1, hD1⟩ := hB
  rw [ht] at hP1
  exact kk r u H1 locs1 hw (jn0 hP hk1) hD hS1
theorem kSl1 {S : Type} {post : Int64 → S → Prop} {wf : S → va_W} {y y2 : MethodName} {c2 : ByteArray} {n2 nL idx : Nat} {ret : Option FieldType} {own : String} {rm : Room} {ws : va_W} {As : List Value} (hS0 : CallFix p m c cc nL s args (Cond.code y cc nL ret :: lw_g) own)
    (hM : Met l y2 (Cond.code y2 c2 n2 (some .long) :: lw_g) rm (va_Pc As (pw G ws H.size)) (va_Ql post (bw G wf (va_A ws H.size)) (va_A ws H.size)) 0 0 (va_A ws H.size))
    (kl : Cond.methodLink own idx y2 ∈ lw_g) (kc : Cond.static y2 ∈ lw_g ∧ Cond.initialized y2.cls ∈ lw_g ∧ Cond.code y2 c2 n2 (some .long) ∈ lw_g ∧ y2.cls ≠ "java/lang/invoke/MethodHandle" ∧ y2.cls ≠ "java/lang/invoke/VarHandle" ∧ (parseMethodDescriptor y2.desc).map (fun d => d.parameters.length) = some As.length) (hrm : rm.cells = 0 ∧ rm.slots = 0 ∧ rm.frames + 1 ≤ R.frames ∧ 8 + (n2 + 11) + rm.locals ≤ R.locals)
    (hP : va_P (gD G) vwCl ws H) (hK : va_K (gD G) vwCl (gT G) s) (hD : va_D A ws) (hE : Ev (gE G) A s) (hS : va_S A s.heap H locs) (hA : ∀ q : Nat, s.heap.size ≤ q → A q) (hls : ls.size = nL) (hW : (rest.map fun v => v.category).sum ≤ 8) (hcs : cells ≤ R.cells ∧ slots ≤ R.slots) (hdg : decode cc pc = .ok (.invokestatic idx, 3))
    (kk : ∀ (r : Int64) (u : S) (H1 : Heap) (locs1 : List Loc), post r u → va_P (gD G) vwCl (wf u) H1 → va_D A (wf u) → va_S A s.heap H1 locs1 → W p l e R s m args below meth c H1 locs1 cells slots Q (F0 m (pc + 3) ls (.long r :: rest))) :
    W p l e R s m args below meth c H locs cells slots Q (F0 m pc ls (As.reverse ++ rest)) := by
  have hPc := hP
  have hDc := hD
  have hF : ∀ q, va_A ws H.size q → A q := fun q h => h.elim (fun ⟨k, e, h⟩ => hD.2 k (q, e) h) (fun h => hA q (Nat.le_trans hS.1 h))
  refine va_calll (va_runS (As := As) (rest := rest) hS0 hM ⟨callB_of As.length hS0.2.2.2.2 (kgg kc.2.2.1) rfl hrm.1 hrm.2.1 (hS0.2.2.2.2 _ (List.mem_cons_of_mem _ kc.2.1)) (hS0.2.2.2.2 _ (List.mem_cons_of_mem _ kl)) kc.2.2.2 hrm.2.2, hS0.2.2.2.2 _ (List.mem_cons_of_mem _ kc.1)⟩ ⟨pw_blind, fun U hU hW => pw_pre (ws := ws) hPc hDc hK hE hS hF hU hW⟩ rfl rfl hls rfl (lv_room hW) hdg hcs) hS (fun q _ h => hF q h) hF (fun r u t H1 locs1 ht hvm hw hB hz1 hk1 hS1 => ?_)
  obtain ⟨hP1, hK1, hD1⟩ := hB
  rw [ht] at hP1
  exact kk r u H1 locs1 hw hP1 (hD1.weaken fun k q hq h => hF _ h) hS1
theorem kSl2 {S : Type} {post : Int64 → S → Prop} {wc : va_W} {wf : S → va_W} {y y2 : MethodName} {c2 : ByteArray} {n2 nL idx : Nat} {ret : Option FieldType} {own : String} {rm : Room} {ws : va_W} {As : List Value} (hS0 : CallFix p m c cc nL s args (Cond.code y cc nL ret :: lw_g) own)
    (hM : Met l y2 (Cond.code y2 c2 n2 (some .long) :: lw_g) rm (va_Pc As (pw G wc H.size)) (va_Ql post (bw G wf (va_A wc H.size)) (va_A wc H.size)) 0 0 (va_A wc H.size))
    (kl : Cond.methodLink own idx y2 ∈ lw_g) (kc : Cond.static y2 ∈ lw_g ∧ Cond.initialized y2.cls ∈ lw_g ∧ Cond.code y2 c2 n2 (some .long) ∈ lw_g ∧ y2.cls ≠ "java/lang/invoke/MethodHandle" ∧ y2.cls ≠ "java/lang/invoke/VarHandle" ∧ (parseMethodDescriptor y2.desc).map (fun d => d.parameters.length) = some As.length) (hrm : rm.cells = 0 ∧ rm.slots = 0 ∧ rm.frames + 1 ≤ R.frames ∧ 8 + (n2 + 11) + rm.locals ≤ R.locals)
    (hP : va_P (gD G) vwCl ws H) (hK : va_K (gD G) vwCl (gT G) s) (hD : va_D A ws) (hE : Ev (gE G) A s) (hS : va_S A s.heap H locs) (hA : ∀ q : Nat, s.heap.size ≤ q → A q) {wr : va_W} (isC isR : List Nat) (hC : isC.map (fun i => ws[i]?) = wc.map some) (hR : isR.map (fun i => ws[i]?) = wr.map some) (hnc : va_nd isC = true) (hn : va_nd isR = true) (hdis : ∀ i ∈ isR, i ∉ isC) (hls : ls.size = nL) (hW : (rest.map fun v => v.category).sum ≤ 8) (hcs : cells ≤ R.cells ∧ slots ≤ R.slots) (hdg : decode cc pc = .ok (.invokestatic idx, 3))
    (kk : ∀ (r : Int64) (u : S) (H1 : Heap) (locs1 : List Loc), post r u → va_P (gD G) vwCl (wr ++ wf u) H1 → va_D A (wr ++ wf u) → va_S A s.heap H1 locs1 → W p l e R s m args below meth c H1 locs1 cells slots Q (F0 m (pc + 3) ls (.long r :: rest))) :
    W p l e R s m args below meth c H locs cells slots Q (F0 m pc ls (As.reverse ++ rest)) := by
  have hPc := hP.sub isC (hC_sub hC)
  have hDc := hD.sub isC hnc hC
  have hF := va_free (wc := wc) hD hS hA isC hC
  refine va_calll (va_runS (As := As) (rest := rest) hS0 hM ⟨callB_of As.length hS0.2.2.2.2 (kgg kc.2.2.1) rfl hrm.1 hrm.2.1 (hS0.2.2.2.2 _ (List.mem_cons_of_mem _ kc.2.1)) (hS0.2.2.2.2 _ (List.mem_cons_of_mem _ kl)) kc.2.2.2 hrm.2.2, hS0.2.2.2.2 _ (List.mem_cons_of_mem _ kc.1)⟩ ⟨pw_blind, fun U hU hW => pw_pre (ws := ws) hPc hDc hK hE hS hF hU hW⟩ rfl rfl hls rfl (lv_room hW) hdg hcs) hS (fun q _ h => hF q h) hF (fun r u t H1 locs1 ht hvm hw hB hz1 hk1 hS1 => ?_)
  obtain ⟨hP1, hK1, hD1⟩ := hB
  rw [ht] at hP1
  obtain ⟨hP2, hD2⟩ := va_join hP hD isC isR hC hR hn hdis hk1 hF hP1 hD1
  exact kk r u H1 locs1 hw hP2 hD2 hS1
theorem kSv0 {S : Type} {post : S → Prop} {wf : S → va_W} {y y2 : MethodName} {c2 : ByteArray} {n2 nL idx : Nat} {ret : Option FieldType} {own : String} {rm : Room} {ws : va_W} {As : List Value} (hS0 : CallFix p m c cc nL s args (Cond.code y cc nL ret :: lw_g) own)
    (hM : Met l y2 (Cond.code y2 c2 n2 none :: lw_g) rm (va_Pc As (pw G [] H.size)) (va_Qv post (bw G wf (va_A [] H.size)) (va_A [] H.size)) 0 0 (va_A [] H.size))
    (kl : Cond.methodLink own idx y2 ∈ lw_g) (kc : Cond.static y2 ∈ lw_g ∧ Cond.initialized y2.cls ∈ lw_g ∧ Cond.code y2 c2 n2 none ∈ lw_g ∧ y2.cls ≠ "java/lang/invoke/MethodHandle" ∧ y2.cls ≠ "java/lang/invoke/VarHandle" ∧ (parseMethodDescriptor y2.desc).map (fun d => d.parameters.length) = some As.length) (hrm : rm.cells = 0 ∧ rm.slots = 0 ∧ rm.frames + 1 ≤ R.frames ∧ 8 + (n2 + 11) + rm.locals ≤ R.locals)
    (hP : va_P (gD G) vwCl ws H) (hK : va_K (gD G) vwCl (gT G) s) (hD : va_D A ws) (hE : Ev (gE G) A s) (hS : va_S A s.heap H locs) (hA : ∀ q : Nat, s.heap.size ≤ q → A q) (hls : ls.size = nL) (hW : (rest.map fun v => v.category).sum ≤ 8) (hcs : cells ≤ R.cells ∧ slots ≤ R.slots) (hdg : decode cc pc = .ok (.invokestatic idx, 3))
    (kk : ∀ (u : S) (H1 : Heap) (locs1 : List Loc), post u → va_P (gD G) vwCl ws H1 → va_D A ws → va_S A s.heap H1 locs1 → W p l e R s m args below meth c H1 locs1 cells slots Q (F0 m (pc + 3) ls (rest))) :
    W p l e R s m args below meth c H locs cells slots Q (F0 m pc ls (As.reverse ++ rest)) := by
  have hPc : va_P (gD G) vwCl [] H := va_P_nil
  have hDc : va_D A [] := va_D_nil
  have hF : ∀ q, va_A [] H.size q → A q := fun q h => h.elim (fun ⟨k, e, h⟩ => by simp at h) (fun h => hA q (Nat.le_trans hS.1 h))
  refine va_callv (va_runS (As := As) (rest := rest) hS0 hM ⟨callB_of As.length hS0.2.2.2.2 (kgg kc.2.2.1) rfl hrm.1 hrm.2.1 (hS0.2.2.2.2 _ (List.mem_cons_of_mem _ kc.2.1)) (hS0.2.2.2.2 _ (List.mem_cons_of_mem _ kl)) kc.2.2.2 hrm.2.2, hS0.2.2.2.2 _ (List.mem_cons_of_mem _ kc.1)⟩ ⟨pw_blind, fun U hU hW => pw_pre (ws := ws) hPc hDc hK hE hS hF hU hW⟩ rfl rfl hls rfl (lv_room hW) hdg hcs) hS (fun q _ h => hF q h) hF (fun u t H1 locs1 ht hvm hw hB hz1 hk1 hS1 => ?_)
  obtain ⟨hP1, hK1, hD1⟩ := hB
  rw [ht] at hP1
  exact kk u H1 locs1 hw (jn0 hP hk1) hD hS1
theorem kSv1 {S : Type} {post : S → Prop} {wf : S → va_W} {y y2 : MethodName} {c2 : ByteArray} {n2 nL idx : Nat} {ret : Option FieldType} {own : String} {rm : Room} {ws : va_W} {As : List Value} (hS0 : CallFix p m c cc nL s args (Cond.code y cc nL ret :: lw_g) own)
    (hM : Met l y2 (Cond.code y2 c2 n2 none :: lw_g) rm (va_Pc As (pw G ws H.size)) (va_Qv post (bw G wf (va_A ws H.size)) (va_A ws H.size)) 0 0 (va_A ws H.size))
    (kl : Cond.methodLink own idx y2 ∈ lw_g) (kc : Cond.static y2 ∈ lw_g ∧ Cond.initialized y2.cls ∈ lw_g ∧ Cond.code y2 c2 n2 none ∈ lw_g ∧ y2.cls ≠ "java/lang/invoke/MethodHandle" ∧ y2.cls ≠ "java/lang/invoke/VarHandle" ∧ (parseMethodDescriptor y2.desc).map (fun d => d.parameters.length) = some As.length) (hrm : rm.cells = 0 ∧ rm.slots = 0 ∧ rm.frames + 1 ≤ R.frames ∧ 8 + (n2 + 11) + rm.locals ≤ R.locals)
    (hP : va_P (gD G) vwCl ws H) (hK : va_K (gD G) vwCl (gT G) s) (hD : va_D A ws) (hE : Ev (gE G) A s) (hS : va_S A s.heap H locs) (hA : ∀ q : Nat, s.heap.size ≤ q → A q) (hls : ls.size = nL) (hW : (rest.map fun v => v.category).sum ≤ 8) (hcs : cells ≤ R.cells ∧ slots ≤ R.slots) (hdg : decode cc pc = .ok (.invokestatic idx, 3))
    (kk : ∀ (u : S) (H1 : Heap) (locs1 : List Loc), post u → va_P (gD G) vwCl (wf u) H1 → va_D A (wf u) → va_S A s.heap H1 locs1 → W p l e R s m args below meth c H1 locs1 cells slots Q (F0 m (pc + 3) ls (rest))) :
    W p l e R s m args below meth c H locs cells slots Q (F0 m pc ls (As.reverse ++ rest)) := by
  have hPc := hP
  have hDc := hD
  have hF : ∀ q, va_A ws H.size q → A q := fun q h => h.elim (fun ⟨k, e, h⟩ => hD.2 k (q, e) h) (fun h => hA q (Nat.le_trans hS.1 h))
  refine va_callv (va_runS (As := As) (rest := rest) hS0 hM ⟨callB_of As.length hS0.2.2.2.2 (kgg kc.2.2.1) rfl hrm.1 hrm.2.1 (hS0.2.2.2.2 _ (List.mem_cons_of_mem _ kc.2.1)) (hS0.2.2.2.2 _ (List.mem_cons_of_mem _ kl)) kc.2.2.2 hrm.2.2, hS0.2.2.2.2 _ (List.mem_cons_of_mem _ kc.1)⟩ ⟨pw_blind, fun U hU hW => pw_pre (ws := ws) hPc hDc hK hE hS hF hU hW⟩ rfl rfl hls rfl (lv_room hW) hdg hcs) hS (fun q _ h => hF q h) hF (fun u t H1 locs1 ht hvm hw hB hz1 hk1 hS1 => ?_)
  obtain ⟨hP1, hK1, hD1⟩ := hB
  rw [ht] at hP1
  exact kk u H1 locs1 hw hP1 (hD1.weaken fun k q hq h => hF _ h) hS1
theorem kSv2 {S : Type} {post : S → Prop} {wc : va_W} {wf : S → va_W} {y y2 : MethodName} {c2 : ByteArray} {n2 nL idx : Nat} {ret : Option FieldType} {own : String} {rm : Room} {ws : va_W} {As : List Value} (hS0 : CallFix p m c cc nL s args (Cond.code y cc nL ret :: lw_g) own)
    (hM : Met l y2 (Cond.code y2 c2 n2 none :: lw_g) rm (va_Pc As (pw G wc H.size)) (va_Qv post (bw G wf (va_A wc H.size)) (va_A wc H.size)) 0 0 (va_A wc H.size))
    (kl : Cond.methodLink own idx y2 ∈ lw_g) (kc : Cond.static y2 ∈ lw_g ∧ Cond.initialized y2.cls ∈ lw_g ∧ Cond.code y2 c2 n2 none ∈ lw_g ∧ y2.cls ≠ "java/lang/invoke/MethodHandle" ∧ y2.cls ≠ "java/lang/invoke/VarHandle" ∧ (parseMethodDescriptor y2.desc).map (fun d => d.parameters.length) = some As.length) (hrm : rm.cells = 0 ∧ rm.slots = 0 ∧ rm.frames + 1 ≤ R.frames ∧ 8 + (n2 + 11) + rm.locals ≤ R.locals)
    (hP : va_P (gD G) vwCl ws H) (hK : va_K (gD G) vwCl (gT G) s) (hD : va_D A ws) (hE : Ev (gE G) A s) (hS : va_S A s.heap H locs) (hA : ∀ q : Nat, s.heap.size ≤ q → A q) {wr : va_W} (isC isR : List Nat) (hC : isC.map (fun i => ws[i]?) = wc.map some) (hR : isR.map (fun i => ws[i]?) = wr.map some) (hnc : va_nd isC = true) (hn : va_nd isR = true) (hdis : ∀ i ∈ isR, i ∉ isC) (hls : ls.size = nL) (hW : (rest.map fun v => v.category).sum ≤ 8) (hcs : cells ≤ R.cells ∧ slots ≤ R.slots) (hdg : decode cc pc = .ok (.invokestatic idx, 3))
    (kk : ∀ (u : S) (H1 : Heap) (locs1 : List Loc), post u → va_P (gD G) vwCl (wr ++ wf u) H1 → va_D A (wr ++ wf u) → va_S A s.heap H1 locs1 → W p l e R s m args below meth c H1 locs1 cells slots Q (F0 m (pc + 3) ls (rest))) :
    W p l e R s m args below meth c H locs cells slots Q (F0 m pc ls (As.reverse ++ rest)) := by
  have hPc := hP.sub isC (hC_sub hC)
  have hDc := hD.sub isC hnc hC
  have hF := va_free (wc := wc) hD hS hA isC hC
  refine va_callv (va_runS (As := As) (rest := rest) hS0 hM ⟨callB_of As.length hS0.2.2.2.2 (kgg kc.2.2.1) rfl hrm.1 hrm.2.1 (hS0.2.2.2.2 _ (List.mem_cons_of_mem _ kc.2.1)) (hS0.2.2.2.2 _ (List.mem_cons_of_mem _ kl)) kc.2.2.2 hrm.2.2, hS0.2.2.2.2 _ (List.mem_cons_of_mem _ kc.1)⟩ ⟨pw_blind, fun U hU hW => pw_pre (ws := ws) hPc hDc hK hE hS hF hU hW⟩ rfl rfl hls rfl (lv_room hW) hdg hcs) hS (fun q _ h => hF q h) hF (fun u t H1 locs1 ht hvm hw hB hz1 hk1 hS1 => ?_)
  obtain ⟨hP1, hK1, hD1⟩ := hB
  rw [ht] at hP1
  obtain ⟨hP2, hD2⟩ := va_join hP hD isC isR hC hR hn hdis hk1 hF hP1 hD1
  exact kk u H1 locs1 hw hP2 hD2 hS1
theorem kVi1 {S : Type} {post : Int32 → S → Prop} {ret2 : Option FieldType}{b : Nat} {wf : S → va_W} {y y2 : MethodName} {c2 : ByteArray} {n2 nL idx : Nat} {ret : Option FieldType} {own : String} {rm : Room} {ws : va_W} {As : List Value} (hS0 : CallFix p m c cc nL s args (Cond.code y cc nL ret :: lw_g) own)
    (hM : Met l y2 (Cond.code y2 c2 n2 ret2 :: lw_g) rm (va_Pc (.ref b :: As) (pw G ws H.size)) (va_Qi post (bw G wf (va_A ws H.size)) (va_A ws H.size)) 0 0 (va_A ws H.size))
    (kl : Cond.methodLink own idx y2 ∈ lw_g) (kc : Cond.instanceMethod y2 ∈ lw_g ∧ Cond.selects y2.cls y2 y2 ∈ lw_g ∧ Cond.initialized y2.cls ∈ lw_g ∧ Cond.code y2 c2 n2 ret2 ∈ lw_g ∧ y2.cls ≠ "java/lang/invoke/MethodHandle" ∧ y2.cls ≠ "java/lang/invoke/VarHandle" ∧ (parseMethodDescriptor y2.desc).map (fun d => d.parameters.length) = some As.length) (hrm : rm.cells = 0 ∧ rm.slots = 0 ∧ rm.frames + 1 ≤ R.frames ∧ 8 + (n2 + 11) + rm.locals ≤ R.locals) {T : u_T} {N ci : Nat} {fs : List Value} (q0 : Nat) (hci : vwCl[ci]? = some (y2.cls, T, N)) (hq0 : ws[q0]? = some (b, .inr (ci, fs)))
    (hP : va_P (gD G) vwCl ws H) (hK : va_K (gD G) vwCl (gT G) s) (hD : va_D A ws) (hE : Ev (gE G) A s) (hS : va_S A s.heap H locs) (hA : ∀ q : Nat, s.heap.size ≤ q → A q) (hls : ls.size = nL) (hW : (rest.map fun v => v.category).sum ≤ 8) (hcs : cells ≤ R.cells ∧ slots ≤ R.slots) (hdg : decode cc pc = .ok (.invokevirtual idx, 3))
    (kk : ∀ (r : Int32) (u : S) (H1 : Heap) (locs1 : List Loc), post r u → va_P (gD G) vwCl (wf u) H1 → va_D A (wf u) → va_S A s.heap H1 locs1 → W p l e R s m args below meth c H1 locs1 cells slots Q (F0 m (pc + 3) ls (.int r :: rest))) :
    W p l e R s m args below meth c H locs cells slots Q (F0 m pc ls (As.reverse ++ .ref b :: rest)) := by
  have hPc := hP
  have hDc := hD
  have hF : ∀ q, va_A ws H.size q → A q := fun q h => h.elim (fun ⟨k, e, h⟩ => hD.2 k (q, e) h) (fun h => hA q (Nat.le_trans hS.1 h))
  refine va_calli (va_runV (C := y2.cls) (As := As) (rest := rest) hS0 hM ⟨callB_of As.length hS0.2.2.2.2 (kgg kc.2.2.2.1) rfl hrm.1 hrm.2.1 (hS0.2.2.2.2 _ (List.mem_cons_of_mem _ kc.2.2.1)) (hS0.2.2.2.2 _ (List.mem_cons_of_mem _ kl)) kc.2.2.2.2 hrm.2.2, hS0.2.2.2.2 _ (List.mem_cons_of_mem _ kc.1), hS0.2.2.2.2 _ (List.mem_cons_of_mem _ kc.2.1)⟩ ⟨pw_blind, va_recv hK hPc hci hq0, fun U hU hW => pw_pre (ws := ws) hPc hDc hK hE hS hF hU hW⟩ rfl rfl hls rfl (lv_room hW) hdg hcs) hS (fun q _ h => hF q h) hF (fun r u t H1 locs1 ht hvm hw hB hz1 hk1 hS1 => ?_)
  obtain ⟨hP1, hK1, hD1⟩ := hB
  rw [ht] at hP1
  exact kk r u H1 locs1 hw hP1 (hD1.weaken fun k q hq h => hF _ h) hS1
theorem kVi2 {S : Type} {post : Int32 → S → Prop} {ret2 : Option FieldType}{wc : va_W} {b : Nat} {wf : S → va_W} {y y2 : MethodName} {c2 : ByteArray} {n2 nL idx : Nat} {ret : Option FieldType} {own : String} {rm : Room} {ws : va_W} {As : List Value} (hS0 : CallFix p m c cc nL s args (Cond.code y cc nL ret :: lw_g) own)
    (hM : Met l y2 (Cond.code y2 c2 n2 ret2 :: lw_g) rm (va_Pc (.ref b :: As) (pw G wc H.size)) (va_Qi post (bw G wf (va_A wc H.size)) (va_A wc H.size)) 0 0 (va_A wc H.size))
    (kl : Cond.methodLink own idx y2 ∈ lw_g) (kc : Cond.instanceMethod y2 ∈ lw_g ∧ Cond.selects y2.cls y2 y2 ∈ lw_g ∧ Cond.initialized y2.cls ∈ lw_g ∧ Cond.code y2 c2 n2 ret2 ∈ lw_g ∧ y2.cls ≠ "java/lang/invoke/MethodHandle" ∧ y2.cls ≠ "java/lang/invoke/VarHandle" ∧ (parseMethodDescriptor y2.desc).map (fun d => d.parameters.length) = some As.length) (hrm : rm.cells = 0 ∧ rm.slots = 0 ∧ rm.frames + 1 ≤ R.frames ∧ 8 + (n2 + 11) + rm.locals ≤ R.locals) {T : u_T} {N ci : Nat} {fs : List Value} (q0 : Nat) (hci : vwCl[ci]? = some (y2.cls, T, N)) (hq0 : wc[q0]? = some (b, .inr (ci, fs)))
    (hP : va_P (gD G) vwCl ws H) (hK : va_K (gD G) vwCl (gT G) s) (hD : va_D A ws) (hE : Ev (gE G) A s) (hS : va_S A s.heap H locs) (hA : ∀ q : Nat, s.heap.size ≤ q → A q) {wr : va_W} (isC isR : List Nat) (hC : isC.map (fun i => ws[i]?) = wc.map some) (hR : isR.map (fun i => ws[i]?) = wr.map some) (hnc : va_nd isC = true) (hn : va_nd isR = true) (hdis : ∀ i ∈ isR, i ∉ isC) (hls : ls.size = nL) (hW : (rest.map fun v => v.category).sum ≤ 8) (hcs : cells ≤ R.cells ∧ slots ≤ R.slots) (hdg : decode cc pc = .ok (.invokevirtual idx, 3))
    (kk : ∀ (r : Int32) (u : S) (H1 : Heap) (locs1 : List Loc), post r u → va_P (gD G) vwCl (wr ++ wf u) H1 → va_D A (wr ++ wf u) → va_S A s.heap H1 locs1 → W p l e R s m args below meth c H1 locs1 cells slots Q (F0 m (pc + 3) ls (.int r :: rest))) :
    W p l e R s m args below meth c H locs cells slots Q (F0 m pc ls (As.reverse ++ .ref b :: rest)) := by
  have hPc := hP.sub isC (hC_sub hC)
  have hDc := hD.sub isC hnc hC
  have hF := va_free (wc := wc) hD hS hA isC hC
  refine va_calli (va_runV (C := y2.cls) (As := As) (rest := rest) hS0 hM ⟨callB_of As.length hS0.2.2.2.2 (kgg kc.2.2.2.1) rfl hrm.1 hrm.2.1 (hS0.2.2.2.2 _ (List.mem_cons_of_mem _ kc.2.2.1)) (hS0.2.2.2.2 _ (List.mem_cons_of_mem _ kl)) kc.2.2.2.2 hrm.2.2, hS0.2.2.2.2 _ (List.mem_cons_of_mem _ kc.1), hS0.2.2.2.2 _ (List.mem_cons_of_mem _ kc.2.1)⟩ ⟨pw_blind, va_recv hK hPc hci hq0, fun U hU hW => pw_pre (ws := ws) hPc hDc hK hE hS hF hU hW⟩ rfl rfl hls rfl (lv_room hW) hdg hcs) hS (fun q _ h => hF q h) hF (fun r u t H1 locs1 ht hvm hw hB hz1 hk1 hS1 => ?_)
  obtain ⟨hP1, hK1, hD1⟩ := hB
  rw [ht] at hP1
  obtain ⟨hP2, hD2⟩ := va_join hP hD isC isR hC hR hn hdis hk1 hF hP1 hD1
  exact kk r u H1 locs1 hw hP2 hD2 hS1
theorem kVl1 {S : Type} {post : Int64 → S → Prop} {b : Nat} {wf : S → va_W} {y y2 : MethodName} {c2 : ByteArray} {n2 nL idx : Nat} {ret : Option FieldType} {own : String} {rm : Room} {ws : va_W} {As : List Value} (hS0 : CallFix p m c cc nL s args (Cond.code y cc nL ret :: lw_g) own)
    (hM : Met l y2 (Cond.code y2 c2 n2 (some .long) :: lw_g) rm (va_Pc (.ref b :: As) (pw G ws H.size)) (va_Ql post (bw G wf (va_A ws H.size)) (va_A ws H.size)) 0 0 (va_A ws H.size))
    (kl : Cond.methodLink own idx y2 ∈ lw_g) (kc : Cond.instanceMethod y2 ∈ lw_g ∧ Cond.selects y2.cls y2 y2 ∈ lw_g ∧ Cond.initialized y2.cls ∈ lw_g ∧ Cond.code y2 c2 n2 (some .long) ∈ lw_g ∧ y2.cls ≠ "java/lang/invoke/MethodHandle" ∧ y2.cls ≠ "java/lang/invoke/VarHandle" ∧ (parseMethodDescriptor y2.desc).map (fun d => d.parameters.length) = some As.length) (hrm : rm.cells = 0 ∧ rm.slots = 0 ∧ rm.frames + 1 ≤ R.frames ∧ 8 + (n2 + 11) + rm.locals ≤ R.locals) {T : u_T} {N ci : Nat} {fs : List Value} (q0 : Nat) (hci : vwCl[ci]? = some (y2.cls, T, N)) (hq0 : ws[q0]? = some (b, .inr (ci, fs)))
    (hP : va_P (gD G) vwCl ws H) (hK : va_K (gD G) vwCl (gT G) s) (hD : va_D A ws) (hE : Ev (gE G) A s) (hS : va_S A s.heap H locs) (hA : ∀ q : Nat, s.heap.size ≤ q → A q) (hls : ls.size = nL) (hW : (rest.map fun v => v.category).sum ≤ 8) (hcs : cells ≤ R.cells ∧ slots ≤ R.slots) (hdg : decode cc pc = .ok (.invokevirtual idx, 3))
    (kk : ∀ (r : Int64) (u : S) (H1 : Heap) (locs1 : List Loc), post r u → va_P (gD G) vwCl (wf u) H1 → va_D A (wf u) → va_S A s.heap H1 locs1 → W p l e R s m args below meth c H1 locs1 cells slots Q (F0 m (pc + 3) ls (.long r :: rest))) :
    W p l e R s m args below meth c H locs cells slots Q (F0 m pc ls (As.reverse ++ .ref b :: rest)) := by
  have hPc := hP
  have hDc := hD
  have hF : ∀ q, va_A ws H.size q → A q := fun q h => h.elim (fun ⟨k, e, h⟩ => hD.2 k (q, e) h) (fun h => hA q (Nat.le_trans hS.1 h))
  refine va_calll (va_runV (C := y2.cls) (As := As) (rest := rest) hS0 hM ⟨callB_of As.length hS0.2.2.2.2 (kgg kc.2.2.2.1) rfl hrm.1 hrm.2.1 (hS0.2.2.2.2 _ (List.mem_cons_of_mem _ kc.2.2.1)) (hS0.2.2.2.2 _ (List.mem_cons_of_mem _ kl)) kc.2.2.2.2 hrm.2.2, hS0.2.2.2.2 _ (List.mem_cons_of_mem _ kc.1), hS0.2.2.2.2 _ (List.mem_cons_of_mem _ kc.2.1)⟩ ⟨pw_blind, va_recv hK hPc hci hq0, fun U hU hW => pw_pre (ws := ws) hPc hDc hK hE hS hF hU hW⟩ rfl rfl hls rfl (lv_room hW) hdg hcs) hS (fun q _ h => hF q h) hF (fun r u t H1 locs1 ht hvm hw hB hz1 hk1 hS1 => ?_)
  obtain ⟨hP1, hK1, hD1⟩ := hB
  rw [ht] at hP1
  exact kk r u H1 locs1 hw hP1 (hD1.weaken fun k q hq h => hF _ h) hS1
theorem kVl2 {S : Type} {post : Int64 → S → Prop} {wc : va_W} {b : Nat} {wf : S → va_W} {y y2 : MethodName} {c2 : ByteArray} {n2 nL idx : Nat} {ret : Option FieldType} {own : String} {rm : Room} {ws : va_W} {As : List Value} (hS0 : CallFix p m c cc nL s args (Cond.code y cc nL ret :: lw_g) own)
    (hM : Met l y2 (Cond.code y2 c2 n2 (some .long) :: lw_g) rm (va_Pc (.ref b :: As) (pw G wc H.size)) (va_Ql post (bw G wf (va_A wc H.size)) (va_A wc H.size)) 0 0 (va_A wc H.size))
    (kl : Cond.methodLink own idx y2 ∈ lw_g) (kc : Cond.instanceMethod y2 ∈ lw_g ∧ Cond.selects y2.cls y2 y2 ∈ lw_g ∧ Cond.initialized y2.cls ∈ lw_g ∧ Cond.code y2 c2 n2 (some .long) ∈ lw_g ∧ y2.cls ≠ "java/lang/invoke/MethodHandle" ∧ y2.cls ≠ "java/lang/invoke/VarHandle" ∧ (parseMethodDescriptor y2.desc).map (fun d => d.parameters.length) = some As.length) (hrm : rm.cells = 0 ∧ rm.slots = 0 ∧ rm.frames + 1 ≤ R.frames ∧ 8 + (n2 + 11) + rm.locals ≤ R.locals) {T : u_T} {N ci : Nat} {fs : List Value} (q0 : Nat) (hci : vwCl[ci]? = some (y2.cls, T, N)) (hq0 : wc[q0]? = some (b, .inr (ci, fs)))
    (hP : va_P (gD G) vwCl ws H) (hK : va_K (gD G) vwCl (gT G) s) (hD : va_D A ws) (hE : Ev (gE G) A s) (hS : va_S A s.heap H locs) (hA : ∀ q : Nat, s.heap.size ≤ q → A q) {wr : va_W} (isC isR : List Nat) (hC : isC.map (fun i => ws[i]?) = wc.map some) (hR : isR.map (fun i => ws[i]?) = wr.map some) (hnc : va_nd isC = true) (hn : va_nd isR = true) (hdis : ∀ i ∈ isR, i ∉ isC) (hls : ls.size = nL) (hW : (rest.map fun v => v.category).sum ≤ 8) (hcs : cells ≤ R.cells ∧ slots ≤ R.slots) (hdg : decode cc pc = .ok (.invokevirtual idx, 3))
    (kk : ∀ (r : Int64) (u : S) (H1 : Heap) (locs1 : List Loc), post r u → va_P (gD G) vwCl (wr ++ wf u) H1 → va_D A (wr ++ wf u) → va_S A s.heap H1 locs1 → W p l e R s m args below meth c H1 locs1 cells slots Q (F0 m (pc + 3) ls (.long r :: rest))) :
    W p l e R s m args below meth c H locs cells slots Q (F0 m pc ls (As.reverse ++ .ref b :: rest)) := by
  have hPc := hP.sub isC (hC_sub hC)
  have hDc := hD.sub isC hnc hC
  have hF := va_free (wc := wc) hD hS hA isC hC
  refine va_calll (va_runV (C := y2.cls) (As := As) (rest := rest) hS0 hM ⟨callB_of As.length hS0.2.2.2.2 (kgg kc.2.2.2.1) rfl hrm.1 hrm.2.1 (hS0.2.2.2.2 _ (List.mem_cons_of_mem _ kc.2.2.1)) (hS0.2.2.2.2 _ (List.mem_cons_of_mem _ kl)) kc.2.2.2.2 hrm.2.2, hS0.2.2.2.2 _ (List.mem_cons_of_mem _ kc.1), hS0.2.2.2.2 _ (List.mem_cons_of_mem _ kc.2.1)⟩ ⟨pw_blind, va_recv hK hPc hci hq0, fun U hU hW => pw_pre (ws := ws) hPc hDc hK hE hS hF hU hW⟩ rfl rfl hls rfl (lv_room hW) hdg hcs) hS (fun q _ h => hF q h) hF (fun r u t H1 locs1 ht hvm hw hB hz1 hk1 hS1 => ?_)
  obtain ⟨hP1, hK1, hD1⟩ := hB
  rw [ht] at hP1
  obtain ⟨hP2, hD2⟩ := va_join hP hD isC isR hC hR hn hdis hk1 hF hP1 hD1
  exact kk r u H1 locs1 hw hP2 hD2 hS1
theorem kVv1 {S : Type} {post : S → Prop} {b : Nat} {wf : S → va_W} {y y2 : MethodName} {c2 : ByteArray} {n2 nL idx : Nat} {ret : Option FieldType} {own : String} {rm : Room} {ws : va_W} {As : List Value} (hS0 : CallFix p m c cc nL s args (Cond.code y cc nL ret :: lw_g) own)
    (hM : Met l y2 (Cond.code y2 c2 n2 none :: lw_g) rm (va_Pc (.ref b :: As) (pw G ws H.size)) (va_Qv post (bw G wf (va_A ws H.size)) (va_A ws H.size)) 0 0 (va_A ws H.size))
    (kl : Cond.methodLink own idx y2 ∈ lw_g) (kc : Cond.instanceMethod y2 ∈ lw_g ∧ Cond.selects y2.cls y2 y2 ∈ lw_g ∧ Cond.initialized y2.cls ∈ lw_g ∧ Cond.code y2 c2 n2 none ∈ lw_g ∧ y2.cls ≠ "java/lang/invoke/MethodHandle" ∧ y2.cls ≠ "java/lang/invoke/VarHandle" ∧ (parseMethodDescriptor y2.desc).map (fun d => d.parameters.length) = some As.length) (hrm : rm.cells = 0 ∧ rm.slots = 0 ∧ rm.frames + 1 ≤ R.frames ∧ 8 + (n2 + 11) + rm.locals ≤ R.locals) {T : u_T} {N ci : Nat} {fs : List Value} (q0 : Nat) (hci : vwCl[ci]? = some (y2.cls, T, N)) (hq0 : ws[q0]? = some (b, .inr (ci, fs)))
    (hP : va_P (gD G) vwCl ws H) (hK : va_K (gD G) vwCl (gT G) s) (hD : va_D A ws) (hE : Ev (gE G) A s) (hS : va_S A s.heap H locs) (hA : ∀ q : Nat, s.heap.size ≤ q → A q) (hls : ls.size = nL) (hW : (rest.map fun v => v.category).sum ≤ 8) (hcs : cells ≤ R.cells ∧ slots ≤ R.slots) (hdg : decode cc pc = .ok (.invokevirtual idx, 3))
    (kk : ∀ (u : S) (H1 : Heap) (locs1 : List Loc), post u → va_P (gD G) vwCl (wf u) H1 → va_D A (wf u) → va_S A s.heap H1 locs1 → W p l e R s m args below meth c H1 locs1 cells slots Q (F0 m (pc + 3) ls (rest))) :
    W p l e R s m args below meth c H locs cells slots Q (F0 m pc ls (As.reverse ++ .ref b :: rest)) := by
  have hPc := hP
  have hDc := hD
  have hF : ∀ q, va_A ws H.size q → A q := fun q h => h.elim (fun ⟨k, e, h⟩ => hD.2 k (q, e) h) (fun h => hA q (Nat.le_trans hS.1 h))
  refine va_callv (va_runV (C := y2.cls) (As := As) (rest := rest) hS0 hM ⟨callB_of As.length hS0.2.2.2.2 (kgg kc.2.2.2.1) rfl hrm.1 hrm.2.1 (hS0.2.2.2.2 _ (List.mem_cons_of_mem _ kc.2.2.1)) (hS0.2.2.2.2 _ (List.mem_cons_of_mem _ kl)) kc.2.2.2.2 hrm.2.2, hS0.2.2.2.2 _ (List.mem_cons_of_mem _ kc.1), hS0.2.2.2.2 _ (List.mem_cons_of_mem _ kc.2.1)⟩ ⟨pw_blind, va_recv hK hPc hci hq0, fun U hU hW => pw_pre (ws := ws) hPc hDc hK hE hS hF hU hW⟩ rfl rfl hls rfl (lv_room hW) hdg hcs) hS (fun q _ h => hF q h) hF (fun u t H1 locs1 ht hvm hw hB hz1 hk1 hS1 => ?_)
  obtain ⟨hP1, hK1, hD1⟩ := hB
  rw [ht] at hP1
  exact kk u H1 locs1 hw hP1 (hD1.weaken fun k q hq h => hF _ h) hS1
theorem kVv2 {S : Type} {post : S → Prop} {wc : va_W} {b : Nat} {wf : S → va_W} {y y2 : MethodName} {c2 : ByteArray} {n2 nL idx : Nat} {ret : Option FieldType} {own : String} {rm : Room} {ws : va_W} {As : List Value} (hS0 : CallFix p m c cc nL s args (Cond.code y cc nL ret :: lw_g) own)
    (hM : Met l y2 (Cond.code y2 c2 n2 none :: lw_g) rm (va_Pc (.ref b :: As) (pw G wc H.size)) (va_Qv post (bw G wf (va_A wc H.size)) (va_A wc H.size)) 0 0 (va_A wc H.size))
    (kl : Cond.methodLink own idx y2 ∈ lw_g) (kc : Cond.instanceMethod y2 ∈ lw_g ∧ Cond.selects y2.cls y2 y2 ∈ lw_g ∧ Cond.initialized y2.cls ∈ lw_g ∧ Cond.code y2 c2 n2 none ∈ lw_g ∧ y2.cls ≠ "java/lang/invoke/MethodHandle" ∧ y2.cls ≠ "java/lang/invoke/VarHandle" ∧ (parseMethodDescriptor y2.desc).map (fun d => d.parameters.length) = some As.length) (hrm : rm.cells = 0 ∧ rm.slots = 0 ∧ rm.frames + 1 ≤ R.frames ∧ 8 + (n2 + 11) + rm.locals ≤ R.locals) {T : u_T} {N ci : Nat} {fs : List Value} (q0 : Nat) (hci : vwCl[ci]? = some (y2.cls, T, N)) (hq0 : wc[q0]? = some (b, .inr (ci, fs)))
    (hP : va_P (gD G) vwCl ws H) (hK : va_K (gD G) vwCl (gT G) s) (hD : va_D A ws) (hE : Ev (gE G) A s) (hS : va_S A s.heap H locs) (hA : ∀ q : Nat, s.heap.size ≤ q → A q) {wr : va_W} (isC isR : List Nat) (hC : isC.map (fun i => ws[i]?) = wc.map some) (hR : isR.map (fun i => ws[i]?) = wr.map some) (hnc : va_nd isC = true) (hn : va_nd isR = true) (hdis : ∀ i ∈ isR, i ∉ isC) (hls : ls.size = nL) (hW : (rest.map fun v => v.category).sum ≤ 8) (hcs : cells ≤ R.cells ∧ slots ≤ R.slots) (hdg : decode cc pc = .ok (.invokevirtual idx, 3))
    (kk : ∀ (u : S) (H1 : Heap) (locs1 : List Loc), post u → va_P (gD G) vwCl (wr ++ wf u) H1 → va_D A (wr ++ wf u) → va_S A s.heap H1 locs1 → W p l e R s m args below meth c H1 locs1 cells slots Q (F0 m (pc + 3) ls (rest))) :
    W p l e R s m args below meth c H locs cells slots Q (F0 m pc ls (As.reverse ++ .ref b :: rest)) := by
  have hPc := hP.sub isC (hC_sub hC)
  have hDc := hD.sub isC hnc hC
  have hF := va_free (wc := wc) hD hS hA isC hC
  refine va_callv (va_runV (C := y2.cls) (As := As) (rest := rest) hS0 hM ⟨callB_of As.length hS0.2.2.2.2 (kgg kc.2.2.2.1) rfl hrm.1 hrm.2.1 (hS0.2.2.2.2 _ (List.mem_cons_of_mem _ kc.2.2.1)) (hS0.2.2.2.2 _ (List.mem_cons_of_mem _ kl)) kc.2.2.2.2 hrm.2.2, hS0.2.2.2.2 _ (List.mem_cons_of_mem _ kc.1), hS0.2.2.2.2 _ (List.mem_cons_of_mem _ kc.2.1)⟩ ⟨pw_blind, va_recv hK hPc hci hq0, fun U hU hW => pw_pre (ws := ws) hPc hDc hK hE hS hF hU hW⟩ rfl rfl hls rfl (lv_room hW) hdg hcs) hS (fun q _ h => hF q h) hF (fun u t H1 locs1 ht hvm hw hB hz1 hk1 hS1 => ?_)
  obtain ⟨hP1, hK1, hD1⟩ := hB
  rw [ht] at hP1
  obtain ⟨hP2, hD2⟩ := va_join hP hD isC isR hC hR hn hdis hk1 hF hP1 hD1
  exact kk u H1 locs1 hw hP2 hD2 hS1
theorem kTi0  {post : Int32 → Unit → Prop} {y y2 : MethodName} {c2 : ByteArray} {n2 nL idx : Nat} {ret : Option FieldType} {own : String} {ret2 : Option FieldType} {rm : Room} {b : Nat} {ws : va_W} {As : List Value} (hS0 : CallFix p m c cc nL s args (Cond.code y cc nL ret :: lw_g) own)
    (hM : Met l y2 (Cond.code y2 c2 n2 ret2 :: lw_g) rm (va_Pc (.ref b :: As) (pw G [] H.size)) (va_Qi post (bw G (fun _ : Unit => ([] : va_W)) (va_A [] H.size)) (va_A [] H.size)) 0 0 (va_A [] H.size))
    (kl : Cond.methodLink own idx y2 ∈ lw_g) (kc : Cond.instanceMethod y2 ∈ lw_g ∧ Cond.selects y2.cls y2 y2 ∈ lw_g ∧ Cond.initialized y2.cls ∈ lw_g ∧ Cond.code y2 c2 n2 ret2 ∈ lw_g ∧ y2.cls ≠ "java/lang/invoke/MethodHandle" ∧ y2.cls ≠ "java/lang/invoke/VarHandle" ∧ (parseMethodDescriptor y2.desc).map (fun d => d.parameters.length) = some As.length) (hrm : rm.cells = 0 ∧ rm.slots = 0 ∧ rm.frames + 1 ≤ R.frames ∧ 8 + (n2 + 11) + rm.locals ≤ R.locals)
    (hrecv : ∃ cell : Cell, H[b]? = some cell ∧ cell.vm.isStatics = false ∧ s.vm.findClass y2.cls = some cell.cls)
    (hP : va_P (gD G) vwCl ws H) (hK : va_K (gD G) vwCl (gT G) s) (hD : va_D A ws) (hE : Ev (gE G) A s) (hS : va_S A s.heap H locs) (hA : ∀ q : Nat, s.heap.size ≤ q → A q) (hls : ls.size = nL) (hW : (rest.map fun v => v.category).sum ≤ 8) (hcs : cells ≤ R.cells ∧ slots ≤ R.slots) (hdg : decode cc pc = .ok (.invokevirtual idx, 3))
    (kk : ∀ (r : Int32) (u : Unit) (H1 : Heap) (locs1 : List Loc), post r u → va_P (gD G) vwCl ws H1 → va_D A ws → va_S A s.heap H1 locs1 → W p l e R s m args below meth c H1 locs1 cells slots Q (F0 m (pc + 3) ls (.int r :: rest))) :
    W p l e R s m args below meth c H locs cells slots Q (F0 m pc ls (As.reverse ++ .ref b :: rest)) := by
  have hPc : va_P (gD G) vwCl [] H := va_P_nil
  have hDc : va_D A [] := va_D_nil
  have hF : ∀ q, va_A [] H.size q → A q := fun q h => h.elim (fun ⟨k, e, h⟩ => by simp at h) (fun h => hA q (Nat.le_trans hS.1 h))
  refine va_calli (va_runV (C := y2.cls) (As := As) (rest := rest) hS0 hM ⟨callB_of As.length hS0.2.2.2.2 (kgg kc.2.2.2.1) rfl hrm.1 hrm.2.1 (hS0.2.2.2.2 _ (List.mem_cons_of_mem _ kc.2.2.1)) (hS0.2.2.2.2 _ (List.mem_cons_of_mem _ kl)) kc.2.2.2.2 hrm.2.2, hS0.2.2.2.2 _ (List.mem_cons_of_mem _ kc.1), hS0.2.2.2.2 _ (List.mem_cons_of_mem _ kc.2.1)⟩ ⟨pw_blind, hrecv, fun U hU hW => pw_pre (ws := ws) hPc hDc hK hE hS hF hU hW⟩ rfl rfl hls rfl (lv_room hW) hdg hcs) hS (fun q _ h => hF q h) hF (fun r u t H1 locs1 ht hvm hw hB hz1 hk1 hS1 => ?_)
  exact kk r u H1 locs1 hw (jn0 hP hk1) hD hS1
theorem i32ne {x k : Int32} {z : Int} (hk : k.toInt = z) (h : ¬ x = k) : x.toInt ≠ z := fun e => h (Int32.toInt_inj.mp (e.trans hk.symm))

theorem va_ldcSW (hexec : p.tables.exec = Jvm.exec) (hb : c.code = cc) {own tx : String} {index q : Nat} (hown : s.vm.findClass own = some m.cls) (hZ : vk_R own index tx q s) (hdg : decode cc pc = .ok (.ldc_w index, 3))
    (k : W p l e R s m args below meth c H locs cells slots Q (F0 m (pc + 3) ls (.ref q :: rest))) : W p l e R s m args below meth c H locs cells slots Q (F0 m pc ls rest) := by
  intro T hT X
  obtain ⟨t, a1, b1⟩ := k T hT X
  exact ⟨t, X.ldcStringW hexec hown (text := tx) (a := q) hZ.1 hZ.2 (g := F0 m pc ls rest) rfl (by rw [hb]; exact hdg) t a1, b1⟩
end EW
