/-! what every walk here uses: the nest mates' words, the classes known, a method's context, contracts of readers and of writers, calls with the frame rule in them -/
abbrev vwCl : List vw_C := [(RX0, TX0, 2), (RX1, TX1, 4), (RX2, TX2, 6), (RX3, TX3, 4), (RX4, TX4, 6), (RX5, TX5, 11), (RX6, TX6, 32)]
/-- the links between nest mates: fields, methods -/
def nwF : List (String × Nat × String × String × String) := [(RX5, 120, RX1, "height", "I"), (RX5, 125, RX1, "depth", "I"), (RX5, 128, RX1, "width", "I"), (RX5, 131, RX1, "items", "LColumnDesk$Items;"), (RX5, 142, RX3, "everMade", "I"), (RX5, 154, RX2, "begun", "Z"), (RX5, 158, RX2, "sums", "LColumnDesk$Sums;"), (RX5, 165, RX4, "depth", "J"), (RX5, 168, RX4, "shrink", "J"), (RX5, 175, RX2, "leastCost", "J"), (RX5, 185, RX2, "first", "I"), (RX5, 217, RX2, "best", "I"), (RX5, 220, RX4, "limit", "I"), (RX5, 229, RX2, "goal", "I"), (RX1, 28, RX4, "depth", "J"), (RX1, 36, RX4, "width", "J"), (RX1, 61, RX4, "shrink", "J"), (RX2, 57, RX4, "shrink", "J"), (RX3, 45, RX1, "items", "LColumnDesk$Items;")]
def nwM : List (String × Nat × MethodName) := [(RX5, 20, yX2_init), (RX5, 27, yX3_init), (RX5, 34, yX4_init), (RX1, 80, yX5_near), (RX2, 11, yX4_init), (RX2, 60, yX5_badness), (RX3, 36, yX1_init), (RX4, 60, yX5_isSize)]
def NN (U : State) : Prop := (∀ q ∈ nwF, va_Nw (.fieldLinkNest q.1 q.2.1 q.2.2.1 q.2.2.2.1 q.2.2.2.2 "ColumnDesk") U) ∧ (∀ q ∈ nwM, va_Nw (.methodLinkNest q.1 q.2.1 q.2.2 "ColumnDesk") U) ∧ va_AO "ColumnDesk$MadePage" U
theorem NN.warm {s U : State} (hW : s.WarmedH U.vm) (h : NN s) : NN U := ⟨fun q hq => va_Nw.warmF hW (h.1 q hq), fun q hq => va_Nw.warmM hW (h.2.1 q hq), va_AO.moved hW.alike h.2.2⟩
theorem NN.same {u U : State} (hv : u.vm = U.vm) (h : NN u) : NN U := ⟨fun q hq => va_Nw.same rfl hv (h.1 q hq), fun q hq => va_Nw.same rfl hv (h.2.1 q hq), va_AO.moved (by rw [hv]; exact Vm.Alike.refl _) h.2.2⟩
/-- a link of a field by its place in the list -/
theorem NN.f {s : State} {args : Array Value} (h : NN s) (i : Nat) {a : String} {k : Nat} {b n d : String} (hi : nwF[i]? = some (a, k, b, n, d)) : (Cond.fieldLinkNest a k b n d "ColumnDesk").before args s = true := va_Nw.use rfl (h.1 _ (List.mem_of_getElem? hi))
theorem NN.m {s : State} (h : NN s) (i : Nat) {a : String} {k : Nat} {y : MethodName} (hi : nwM[i]? = some (a, k, y)) : va_Nw (.methodLinkNest a k y "ColumnDesk") s := h.2.1 _ (List.mem_of_getElem? hi)
abbrev tyA (cI cJ cO : ClassId) : List (ClassId × FieldType) := [(cI, .int), (cJ, .long), (cO, .object "ColumnDesk$MadePage")]
/-- the classes' numbers and slots, the arrays' classes, the nest mates' links -/
def Kn (dC : Nat → ClassId) (dI : Nat → Nat → Nat) (cI cJ cO : ClassId) (U : State) : Prop := va_K (dC, dI) vwCl (tyA cI cJ cO) U ∧ NN U
theorem Kn.warm {dC : Nat → ClassId} {dI : Nat → Nat → Nat} {cI cJ cO : ClassId} {s U : State} (hW : s.WarmedH U.vm) (h : Kn dC dI cI cJ cO s) : Kn dC dI cI cJ cO U := ⟨va_K.moved hW.alike h.1, h.2.warm hW⟩
theorem Kn.same {dC : Nat → ClassId} {dI : Nat → Nat → Nat} {cI cJ cO : ClassId} {u U : State} (hv : u.vm = U.vm) (h : Kn dC dI cI cJ cO u) : Kn dC dI cI cJ cO U := ⟨va_K.moved (by rw [hv]; exact Vm.Alike.refl _) h.1, h.2.same hv⟩
/-- a method's context -/
def Cx (p : Program) (s : State) (m : MethodId) (args : Array Value) (meth : Method) (c : Code) (cc : ByteArray) (rt : Option FieldType) (nL : Nat) (own nm : String) (Ts : List Cond) : Prop :=
  p.tables.exec = Jvm.exec ∧ c.code = cc ∧ meth.sig.returnType = rt ∧ c.maxLocals = nL ∧ s.vm.findClass own = some m.cls ∧ (∀ w ∈ Ts, w.before args s = true) ∧ meth.locks = false ∧ meth.name = nm
theorem my_met {l : Launch} {y : MethodName} {ws ws' : List Cond} {rm : Room} {cc : ByteArray} {maxL : Nat} {ret : Option FieldType} {av : List Value} {Pre : State → Prop} {Qc : Array Value → State → Outcome → State → Prop} {mc ms : Nat} {free : Addr → Prop}
    (hy : plainName y.cls = true) (hw : ws = Cond.code y cc maxL ret :: ws') (hn : (lg_sl av).length ≤ maxL)
    (body : ∀ (p : Program) (e : Env) (s : State) (m : MethodId) (below : List Frame) (meth : Method) (c : Code) (ls : Array Slot), Cx p s m av.toArray meth c cc ret maxL y.cls y.name ws → lv_has ls maxL (lv_args 0 av) → Pre s →
      W p l e rm s m av.toArray below meth c s.heap [] 0 0 (MQ below Qc av.toArray s mc ms free) (F0 m 0 ls [])) : Met l y ws rm (va_Pc av Pre) Qc mc ms free := by
  refine Met.ofW (cc := cc) (maxL := maxL) (ret := ret) hy hw ?_
  intro p e s m args below meth c s₁ B hml hv
  obtain ⟨rfl, hv⟩ := hv
  rw [lg_entry_eq]
  exact body p e s m below meth c _ ⟨B.exec, B.bytes, B.returns, hml, findClass_of_methodNamed B.named, atoms_spec (ws := ws) B.pre, B.notSynchronized, (name_of_methodNamed B.named B.method).1⟩ (lv_entry av hn) hv
/-- a reader's start: the cells; a writer's: the heap's size, the cells, that they are apart -/
def PR (dC : Nat → ClassId) (dI : Nat → Nat → Nat) (cI cJ cO : ClassId) (WS : va_W) (U : State) : Prop := va_P (dC, dI) vwCl WS U.heap ∧ Kn dC dI cI cJ cO U
def PW (dC : Nat → ClassId) (dI : Nat → Nat → Nat) (cI cJ cO : ClassId) (WS : va_W) (sz : Nat) (U : State) : Prop := U.heap.size = sz ∧ va_P (dC, dI) vwCl WS U.heap ∧ Kn dC dI cI cJ cO U ∧ va_D (fun _ => True) WS
def BW (dC : Nat → ClassId) (dI : Nat → Nat → Nat) (A : Nat → Prop) (WS : va_W) (t : State) : Prop := va_P (dC, dI) vwCl WS t.heap ∧ va_D A WS
theorem PR.blind {dC : Nat → ClassId} {dI : Nat → Nat → Nat} {cI cJ cO : ClassId} {WS : va_W} {av : List Value} : FrameBlind (va_Pc av (PR dC dI cI cJ cO WS)) := fun a U g mk q => ⟨q.1, q.2.1, Kn.same (u := U) (U := U.calling g mk a) rfl q.2.2⟩
theorem PW.blind {dC : Nat → ClassId} {dI : Nat → Nat → Nat} {cI cJ cO : ClassId} {WS : va_W} {sz : Nat} {av : List Value} : FrameBlind (va_Pc av (PW dC dI cI cJ cO WS sz)) := fun a U g mk q => ⟨q.1, q.2.1, q.2.2.1, Kn.same (u := U) (U := U.calling g mk a) rfl q.2.2.2.1, q.2.2.2.2⟩
theorem my_metW {l : Launch} {y : MethodName} {ws ws' : List Cond} {rm : Room} {cc : ByteArray} {maxL : Nat} {ret : Option FieldType} {av : List Value} {dC : Nat → ClassId} {dI : Nat → Nat → Nat} {cI cJ cO : ClassId} {WS : va_W} {sz : Nat} {Qc : (Nat → Prop) → Array Value → State → Outcome → State → Prop} {mc ms : Nat}
    (hy : plainName y.cls = true) (hw : ws = Cond.code y cc maxL ret :: ws') (hn : (lg_sl av).length ≤ maxL)
    (body : ∀ (p : Program) (e : Env) (s : State) (m : MethodId) (below : List Frame) (meth : Method) (c : Code) (ls : Array Slot) (A : Nat → Prop), Cx p s m av.toArray meth c cc ret maxL y.cls y.name ws → lv_has ls maxL (lv_args 0 av) → Kn dC dI cI cJ cO s → (∀ q : Nat, s.heap.size ≤ q → A q) → va_P (dC, dI) vwCl WS s.heap → va_D A WS → va_S A s.heap s.heap [] →
      W p l e rm s m av.toArray below meth c s.heap [] 0 0 (MQ below (Qc A) av.toArray s mc ms A) (F0 m 0 ls [])) : Met l y ws rm (va_Pc av (PW dC dI cI cJ cO WS sz)) (Qc (va_A WS sz)) mc ms (va_A WS sz) :=
  my_met hy hw hn (fun p e s m below meth c ls C hl hv => by
    obtain ⟨hsz, hP, hK, hD⟩ := hv
    subst hsz
    exact body p e s m below meth c ls _ C hl hK (fun q h => Or.inr h) hP hD.self va_S.rf)
section MYR
variable {p : Program} {l : Launch} {e : Env} {R : Room} {s : State} {m : MethodId} {args : Array Value} {below : List Frame} {meth : Method} {c : Code} {H : Heap} {locs : List Loc} {cells slots mc ms : Nat} {Q : State → Prop}
variable {cc : ByteArray} {rt : Option FieldType} {nL : Nat} {own nm : String} {Ts : List Cond} {pc : Nat} {ls : Array Slot} {rest : List Value} {dC : Nat → ClassId} {dI : Nat → Nat → Nat} {cI cJ cO : ClassId} {A : Nat → Prop}
/-- ends: of readers -/
theorem my_iretR {post : Int32 → Prop} {v : Int32} (C : Cx p s m args meth c cc (some .int) nL own nm Ts) (hp : post v) (d : decode cc pc = .ok (.ireturn, 1)) : W p l e R s m args below meth c s.heap [] 0 0 (MQ below (vp_Si post) args s 0 0 (fun _ => False)) (F0 m pc ls [.int v]) := by
  obtain ⟨hx, hb, hr, -, -, -, hlocks, -⟩ := C
  exact W.iret (v := v) hx hb hr (fun t ht hW => ⟨v, rfl, hp, ht⟩) (fun q h => by cases h) d
theorem my_zretR {post : Int32 → Prop} {v : Int32} (C : Cx p s m args meth c cc (some .boolean) nL own nm Ts) (hv : narrow .boolean (.int v) = .int v) (hp : post v) (d : decode cc pc = .ok (.ireturn, 1)) : W p l e R s m args below meth c s.heap [] 0 0 (MQ below (vp_Si post) args s 0 0 (fun _ => False)) (F0 m pc ls [.int v]) := by
  obtain ⟨hx, hb, hr, -, -, -, hlocks, -⟩ := C
  exact W.zret (v := v) hx hb hr hv (fun t ht hW => ⟨v, rfl, hp, ht⟩) (fun q h => by cases h) d
theorem my_lretR {post : Int64 → Prop} {v : Int64} (C : Cx p s m args meth c cc (some .long) nL own nm Ts) (hp : post v) (d : decode cc pc = .ok (.lreturn, 1)) : W p l e R s m args below meth c s.heap [] 0 0 (MQ below (vp_Sl post) args s 0 0 (fun _ => False)) (F0 m pc ls [.long v]) := by
  obtain ⟨hx, hb, hr, -, -, -, hlocks, -⟩ := C
  exact W.lret (v := v) hx hb hr (fun t ht hW => ⟨v, rfl, hp, ht⟩) (fun q h => by cases h) d
/-- ends: of writers -/
theorem my_vret {S : Type} {post : S → Prop} {WSf : S → va_W} (u : S) (C : Cx p s m args meth c cc none nL own nm Ts) (hp : post u) (hP : va_P (dC, dI) vwCl (WSf u) H) (hD : va_D A (WSf u)) (hS : va_S A s.heap H locs) (hc : cells ≤ mc) (hs : slots ≤ ms) (d : decode cc pc = .ok (.return_, 1)) :
    W p l e R s m args below meth c H locs cells slots (MQ below (va_Qv post (fun u t => BW dC dI A (WSf u) t) A) args s mc ms A) (F0 m pc ls []) := by
  obtain ⟨hx, hb, hr, -, -, -, hlocks, -⟩ := C
  refine W.widen hc hs ?_
  exact W.vret hx hb hr (fun t ht hW => ⟨⟨u, rfl, hp, by rw [ht]; exact hP, hD⟩, hS.F ht⟩) hS.2.2 d
theorem my_iret {S : Type} {post : Int32 → S → Prop} {WSf : S → va_W} {v : Int32} (u : S) (C : Cx p s m args meth c cc (some .int) nL own nm Ts) (hp : post v u) (hP : va_P (dC, dI) vwCl (WSf u) H) (hD : va_D A (WSf u)) (hS : va_S A s.heap H locs) (hc : cells ≤ mc) (hs : slots ≤ ms) (d : decode cc pc = .ok (.ireturn, 1)) :
    W p l e R s m args below meth c H locs cells slots (MQ below (va_Qi post (fun u t => BW dC dI A (WSf u) t) A) args s mc ms A) (F0 m pc ls [.int v]) := by
  obtain ⟨hx, hb, hr, -, -, -, hlocks, -⟩ := C
  refine W.widen hc hs ?_
  exact W.iret (v := v) hx hb hr (fun t ht hW => ⟨⟨v, u, rfl, hp, by rw [ht]; exact hP, hD⟩, hS.F ht⟩) hS.2.2 d
theorem my_zret {S : Type} {post : Int32 → S → Prop} {WSf : S → va_W} {v : Int32} (u : S) (C : Cx p s m args meth c cc (some .boolean) nL own nm Ts) (hv : narrow .boolean (.int v) = .int v) (hp : post v u) (hP : va_P (dC, dI) vwCl (WSf u) H) (hD : va_D A (WSf u)) (hS : va_S A s.heap H locs) (hc : cells ≤ mc) (hs : slots ≤ ms) (d : decode cc pc = .ok (.ireturn, 1)) :
    W p l e R s m args below meth c H locs cells slots (MQ below (va_Qi post (fun u t => BW dC dI A (WSf u) t) A) args s mc ms A) (F0 m pc ls [.int v]) := by
  obtain ⟨hx, hb, hr, -, -, -, hlocks, -⟩ := C
  refine W.widen hc hs ?_
  exact W.zret (v := v) hx hb hr hv (fun t ht hW => ⟨⟨v, u, rfl, hp, by rw [ht]; exact hP, hD⟩, hS.F ht⟩) hS.2.2 d
theorem my_lret {S : Type} {post : Int64 → S → Prop} {WSf : S → va_W} {v : Int64} (u : S) (C : Cx p s m args meth c cc (some .long) nL own nm Ts) (hp : post v u) (hP : va_P (dC, dI) vwCl (WSf u) H) (hD : va_D A (WSf u)) (hS : va_S A s.heap H locs) (hc : cells ≤ mc) (hs : slots ≤ ms) (d : decode cc pc = .ok (.lreturn, 1)) :
    W p l e R s m args below meth c H locs cells slots (MQ below (va_Ql post (fun u t => BW dC dI A (WSf u) t) A) args s mc ms A) (F0 m pc ls [.long v]) := by
  obtain ⟨hx, hb, hr, -, -, -, hlocks, -⟩ := C
  refine W.widen hc hs ?_
  exact W.lret (v := v) hx hb hr (fun t ht hW => ⟨⟨v, u, rfl, hp, by rw [ht]; exact hP, hD⟩, hS.F ht⟩) hS.2.2 d
/-- fields -/
theorem my_get {C : String} {T : u_T} {N ci index a : Nat} {ws : va_W} (X : Cx p s m args meth c cc rt nL own nm Ts) (hK : Kn dC dI cI cJ cO s) (hin : ∀ w ∈ u_ws C T N, w ∈ Ts) (hP : va_P (dC, dI) vwCl ws H) (q0 : Nat) {fs : List Value} (he : ws[q0]? = some (a, .inr (ci, fs))) (hc : vwCl[ci]? = some (C, T, N)) (k : Nat) (hk : k < N) (hl : (Cond.fieldLink own index (T k).1 (T k).2.1 (T k).2.2.1) ∈ Ts) {v : Value} (hv : fs[k]? = some v) (hdg : decode cc pc = .ok (.getfield index, 3))
    (kk : W p l e R s m args below meth c H locs cells slots Q (F0 m (pc + 3) ls (v :: rest))) : W p l e R s m args below meth c H locs cells slots Q (F0 m pc ls (.ref a :: rest)) := by
  obtain ⟨hx, hb, -, -, hown, hts, -⟩ := X
  exact va_get hx hb hts hin hown hK.1 hP q0 he hc k hk (hts _ hl) (fun _ h => h) hv hdg kk
theorem my_getN {C : String} {T : u_T} {N ci index a : Nat} {ws : va_W} (X : Cx p s m args meth c cc rt nL own nm Ts) (hK : Kn dC dI cI cJ cO s) (hin : ∀ w ∈ u_ws C T N, w ∈ Ts) (hP : va_P (dC, dI) vwCl ws H) (q0 : Nat) {fs : List Value} (he : ws[q0]? = some (a, .inr (ci, fs))) (hc : vwCl[ci]? = some (C, T, N)) (k : Nat) (hk : k < N) (i : Nat) (hl : nwF[i]? = some (own, index, (T k).1, (T k).2.1, (T k).2.2.1)) {v : Value} (hv : fs[k]? = some v) (hdg : decode cc pc = .ok (.getfield index, 3))
    (kk : W p l e R s m args below meth c H locs cells slots Q (F0 m (pc + 3) ls (v :: rest))) : W p l e R s m args below meth c H locs cells slots Q (F0 m pc ls (.ref a :: rest)) := by
  obtain ⟨hx, hb, -, -, hown, hts, -⟩ := X
  exact va_getN hx hb hts hin hown hK.1 hP q0 he hc k hk (hK.2.f i hl) (fun _ h => h) hv hdg kk
theorem my_put {C : String} {T : u_T} {N ci index a : Nat} {ws : va_W} {H0 : Heap} (X : Cx p s m args meth c cc rt nL own nm Ts) (hK : Kn dC dI cI cJ cO s) (hin : ∀ w ∈ u_ws C T N, w ∈ Ts) (ty0 : Nat → FieldType) (hty : ∀ k, k < N → parseFieldDescriptor (T k).2.2.1 = some (ty0 k)) (hnm : ∀ a, a < N → ∀ b, b < N → a ≠ b → (T a).2.1 ≠ (T b).2.1) (hP : va_P (dC, dI) vwCl ws H) (hD : va_D A ws) (hS : va_S A H0 H locs) (q0 : Nat) {fs : List Value} (he : ws[q0]? = some (a, .inr (ci, fs))) (hc : vwCl[ci]? = some (C, T, N)) (k : Nat) (hk : k < N) (hl : (Cond.fieldLink own index (T k).1 (T k).2.1 (T k).2.2.1) ∈ Ts) (hfin : (T k).2.2.2 = false) {v : Value} (hn : narrow (ty0 k) v = v) (hfit : fits (ty0 k) v = true) (hlen : k < fs.length) (hdg : decode cc pc = .ok (.putfield index, 3))
    (kk : ∀ (H1 : Heap) (locs1 : List Loc), va_P (dC, dI) vwCl (ws.set q0 (a, .inr (ci, fs.set k v))) H1 → va_D A (ws.set q0 (a, .inr (ci, fs.set k v))) → va_S A H0 H1 locs1 → W p l e R s m args below meth c H1 locs1 cells slots Q (F0 m (pc + 3) ls rest)) : W p l e R s m args below meth c H locs cells slots Q (F0 m pc ls (v :: .ref a :: rest)) := by
  obtain ⟨hx, hb, -, -, hown, hts, -⟩ := X
  exact va_put hx hb hts hin ty0 hty hnm hown hK.1 hP hD hS q0 he hc k hk (hts _ hl) (fun _ h => h) hfin (hty k hk) hn hfit hlen hdg kk
theorem my_putF {C : String} {T : u_T} {N ci index a : Nat} {ws : va_W} {H0 : Heap} (X : Cx p s m args meth c cc rt nL own "<init>" Ts) (hK : Kn dC dI cI cJ cO s) (hin : ∀ w ∈ u_ws C T N, w ∈ Ts) (ty0 : Nat → FieldType) (hty : ∀ k, k < N → parseFieldDescriptor (T k).2.2.1 = some (ty0 k)) (hnm : ∀ a, a < N → ∀ b, b < N → a ≠ b → (T a).2.1 ≠ (T b).2.1) (hP : va_P (dC, dI) vwCl ws H) (hD : va_D A ws) (hS : va_S A H0 H locs) (q0 : Nat) {fs : List Value} (he : ws[q0]? = some (a, .inr (ci, fs))) (hc : vwCl[ci]? = some (C, T, N)) (k : Nat) (hk : k < N) (hl : (Cond.fieldLink own index (T k).1 (T k).2.1 (T k).2.2.1) ∈ Ts) (hfin : (T k).2.2.2 = true) (hdecl : (T k).1 = own) {v : Value} (hn : narrow (ty0 k) v = v) (hfit : fits (ty0 k) v = true) (hlen : k < fs.length) (hdg : decode cc pc = .ok (.putfield index, 3))
    (kk : ∀ (H1 : Heap) (locs1 : List Loc), va_P (dC, dI) vwCl (ws.set q0 (a, .inr (ci, fs.set k v))) H1 → va_D A (ws.set q0 (a, .inr (ci, fs.set k v))) → va_S A H0 H1 locs1 → W p l e R s m args below meth c H1 locs1 cells slots Q (F0 m (pc + 3) ls rest)) : W p l e R s m args below meth c H locs cells slots Q (F0 m pc ls (v :: .ref a :: rest)) := by
  obtain ⟨hx, hb, -, -, hown, hts, -, hin2⟩ := X
  exact va_putF hx hb hts hin ty0 hty hnm hown hK.1 hP hD hS q0 he hc k hk (hts _ hl) (fun _ h => h) hfin hin2 hdecl (hty k hk) hn hfit hlen hdg kk
theorem my_putN {C : String} {T : u_T} {N ci index a : Nat} {ws : va_W} {H0 : Heap} (X : Cx p s m args meth c cc rt nL own nm Ts) (hK : Kn dC dI cI cJ cO s) (hin : ∀ w ∈ u_ws C T N, w ∈ Ts) (ty0 : Nat → FieldType) (hty : ∀ k, k < N → parseFieldDescriptor (T k).2.2.1 = some (ty0 k)) (hnm : ∀ a, a < N → ∀ b, b < N → a ≠ b → (T a).2.1 ≠ (T b).2.1) (hP : va_P (dC, dI) vwCl ws H) (hD : va_D A ws) (hS : va_S A H0 H locs) (q0 : Nat) {fs : List Value} (he : ws[q0]? = some (a, .inr (ci, fs))) (hc : vwCl[ci]? = some (C, T, N)) (k : Nat) (hk : k < N) (i : Nat) (hl : nwF[i]? = some (own, index, (T k).1, (T k).2.1, (T k).2.2.1)) (hfin : (T k).2.2.2 = false) {v : Value} (hn : narrow (ty0 k) v = v) (hfit : fits (ty0 k) v = true) (hlen : k < fs.length) (hdg : decode cc pc = .ok (.putfield index, 3))
    (kk : ∀ (H1 : Heap) (locs1 : List Loc), va_P (dC, dI) vwCl (ws.set q0 (a, .inr (ci, fs.set k v))) H1 → va_D A (ws.set q0 (a, .inr (ci, fs.set k v))) → va_S A H0 H1 locs1 → W p l e R s m args below meth c H1 locs1 cells slots Q (F0 m (pc + 3) ls rest)) : W p l e R s m args below meth c H locs cells slots Q (F0 m pc ls (v :: .ref a :: rest)) := by
  obtain ⟨hx, hb, -, -, hown, hts, -⟩ := X
  exact va_putN hx hb hts hin ty0 hty hnm hown hK.1 hP hD hS q0 he hc k hk (hK.2.f i hl) (fun _ h => h) hfin (hty k hk) hn hfit hlen hdg kk
end MYR
