/-! methods with a table of their own that catch what a callee throws -/
theorem my_noX {l : Launch} {y : MethodName} {ws : List Cond} {rm : Room} {Pc : Array Value → State → Prop} {Qc : Array Value → State → Outcome → State → Prop} {mc ms : Nat} {free : Addr → Prop} (h : vx_Met l y ws rm Pc Qc (fun _ _ _ => False) mc ms free) : Met l y ws rm Pc Qc mc ms free := by
  intro p e ha hc hk s m args below hf happ hP hT
  obtain ⟨n, o, a1, a2, a3, a4⟩ := h p e ha hc hk s m args below hf happ hP hT
  refine ⟨n, o, a1, a2, a3, ?_⟩
  rcases a4 with q | ⟨_, _, _, _, _, q, _⟩
  · exact q
  · exact q.elim
theorem my_metH {l : Launch} {y : MethodName} {ws ws' : List Cond} {rm : Room} {cc : ByteArray} {maxL : Nat} {ret : Option FieldType} {hh : List (Nat × Nat × Nat × Nat)} {av : List Value} {dC : Nat → ClassId} {dI : Nat → Nat → Nat} {cI cJ cO : ClassId} {own cls : String} {L : List (Nat × String × Nat)} {WS : va_W} {sz : Nat} {Qc : (Nat → Prop) → Array Value → State → Outcome → State → Prop} {mc ms : Nat}
    (hy : plainName y.cls = true) (hw : ws = Cond.codeWith y cc maxL ret hh :: ws') (hn : (lg_sl av).length ≤ maxL)
    (body : ∀ (p : Program) (e : Env) (s : State) (m : MethodId) (below : List Frame) (meth : Method) (c : Code) (ls : Array Slot) (A : Nat → Prop), Cx p s m av.toArray meth c cc ret maxL y.cls y.name ws → c.exceptionTable.toList = tableOf hh → lv_has ls maxL (lv_args 0 av) → Kn dC dI cI cJ cO s → (∀ q : Nat, s.heap.size ≤ q → A q) → va_P (dC, dI) vwCl WS s.heap → va_D A WS → va_S A s.heap s.heap [] → XW own cls L A s →
      W p l e rm s m av.toArray below meth c s.heap [] 0 0 (MQ below (Qc A) av.toArray s mc ms A) (F0 m 0 ls [])) : Met l y ws rm (va_Pc av (PX dC dI cI cJ cO own cls L WS sz)) (Qc (va_A WS sz)) mc ms (va_A WS sz) := by
  refine my_noX (vx_ofWH (cc := cc) (maxL := maxL) (ret := ret) (hh := hh) hy hw ?_)
  intro p e s m args below meth c s₁ B hml hv
  obtain ⟨rfl, ⟨hsz, hP, hK, hD⟩, hX⟩ := hv
  subst hsz
  rw [lg_entry_eq]
  have hts := atoms_spec (ws := ws) B.pre
  exact vx_ret (body p e s m below meth c _ _ ⟨B.exec, B.bytes, B.returns, hml, findClass_of_methodNamed B.named, hts, B.notSynchronized, (name_of_methodNamed B.named B.method).1⟩ (vx_table (x := y) B (hts _ (by rw [hw]; exact List.mem_cons_self))) (lv_entry av hn) hK (fun q h => Or.inr h) hP hD.self va_S.rf hX)
theorem XW.at {own cls : String} {L : List (Nat × String × Nat)} {A B : Nat → Prop} {s : State} {H : Heap} {locs : List Loc} (h : XW own cls L A s) (hS : va_S A s.heap H locs) (hF : ∀ q, B q → A q) : ∀ U : State, U.heap = H → s.WarmedH U.vm → XW own cls L B U := by
  intro U hU hW
  refine ⟨fun q hq => vk_R.warm hW (h.1 q hq), XN.warm hW h.2.1, ?_, ?_⟩
  · rw [hU]; exact ((vx_Zq.moved hW.alike h.2.2.1).kept hS.2.1).narrow hF
  · rw [hU]; exact ((vx_Zq.moved hW.alike h.2.2.2).kept hS.2.1).narrow hF
section MYX
variable {p : Program} {l : Launch} {e : Env} {R : Room} {s : State} {m : MethodId} {args : Array Value} {below : List Frame} {meth : Method} {c : Code} {H : Heap} {locs : List Loc} {cells slots mc ms : Nat} {Q : State → Prop}
variable {cc bytes : ByteArray} {rt ret : Option FieldType} {nL maxL index n : Nat} {own nm C : String} {Ts wsY ws' : List Cond} {pc : Nat} {ls : Array Slot} {st0 rest As : List Value} {dC : Nat → ClassId} {dI : Nat → Nat → Nat} {cI cJ cO : ClassId} {A : Nat → Prop} {y : MethodName} {rm : Room} {Qc : Array Value → State → Outcome → State → Prop} {free : Addr → Prop} {b : Addr} {Pre : State → Prop} {XC : String → State → State → Prop}
theorem my_runVX (X : Cx p s m args meth c cc rt nL own nm Ts) (hbl : FrameBlind (va_Pc (.ref b :: As) Pre)) (hpre : ∀ U : State, U.heap = H → s.WarmedH U.vm → Pre U) (hrecv : ∃ cell : Cell, H[b]? = some cell ∧ cell.vm.isStatics = false ∧ s.vm.findClass C = some cell.cls)
    (hM : vx_Met l y wsY rm (va_Pc (.ref b :: As) Pre) Qc XC mc ms free) (hG : GoodIn Ts (wsV own index C y wsY)) (hw : wsY = Cond.code y bytes maxL ret :: ws') (hrc : rm.cells = mc) (hrs : rm.slots = ms)
    (hd : y.cls = C ∧ y.cls ≠ "java/lang/invoke/MethodHandle" ∧ y.cls ≠ "java/lang/invoke/VarHandle" ∧ (parseMethodDescriptor y.desc).map (fun d => d.parameters.length) = some n) (hn : As.length = n) (hR : rm.frames + 1 ≤ R.frames ∧ 8 + (maxL + 11) + rm.locals ≤ R.locals)
    (hsize : ls.size = nL) (hstk : st0 = As.reverse ++ .ref b :: rest) (hW : (rest.map fun v => v.category).sum ≤ 8) (hdg : decode cc pc = .ok (.invokevirtual index, 3)) (hf : cells + mc ≤ R.cells ∧ slots + ms ≤ R.slots) :
    vx_Run p l e R s m args below meth c H locs cells slots mc ms (F0 m pc ls st0) rest (Qc (Value.ref b :: As).toArray) XC free := by
  obtain ⟨hx, hb, -, hml, hown, hts, -⟩ := X
  exact vx_runV (As := As) (rest := rest) ⟨hx, hb, hml, hown, hts⟩ hM (cwV n hts hG hw hrc hrs hd hR) ⟨hbl, hrecv, fun U hU hW => ⟨rfl, hpre U hU hW⟩⟩ rfl hn hsize hstk (lv_room hW) hdg hf
theorem my_runSW {hh : List (Nat × Nat × Nat × Nat)} (X : Cx p s m args meth c cc rt nL own nm Ts) (hbl : FrameBlind (va_Pc As Pre)) (hpre : ∀ U : State, U.heap = H → s.WarmedH U.vm → Pre U)
    (hM : Met l y wsY rm (va_Pc As Pre) Qc mc ms free) (hG : GoodIn Ts (va_wsS own index y wsY)) (hw : wsY = Cond.codeWith y bytes maxL ret hh :: ws') (hrc : rm.cells = mc) (hrs : rm.slots = ms)
    (hd : y.cls ≠ "java/lang/invoke/MethodHandle" ∧ y.cls ≠ "java/lang/invoke/VarHandle" ∧ (parseMethodDescriptor y.desc).map (fun d => d.parameters.length) = some n) (hn : As.length = n) (hR : rm.frames + 1 ≤ R.frames ∧ 8 + (maxL + 11) + rm.locals ≤ R.locals)
    (hsize : ls.size = nL) (hstk : st0 = As.reverse ++ rest) (hW : (rest.map fun v => v.category).sum ≤ 8) (hdg : decode cc pc = .ok (.invokestatic index, 3)) (hf : cells + mc ≤ R.cells ∧ slots + ms ≤ R.slots) :
    va_Run p l e R s m args below meth c H locs cells slots mc ms (F0 m pc ls st0) rest (Qc As.toArray) free := by
  obtain ⟨hx, hb, -, hml, hown, hts, -⟩ := X
  exact vx_runSW (As := As) (rest := rest) ⟨hx, hb, hml, hown, hts⟩ hM (vx_cwSW n hts hG hw hrc hrs hd hR) ⟨hbl, fun U hU hW => ⟨rfl, hpre U hU hW⟩⟩ rfl hn hsize hstk (lv_room hW) hdg hf
theorem PX.pre {own cls : String} {L : List (Nat × String × Nat)} {wc : va_W} (hP : va_P (dC, dI) vwCl wc H) (hD : va_D A wc) (hK : Kn dC dI cI cJ cO s) (hX : ∀ U : State, U.heap = H → s.WarmedH U.vm → XW own cls L (va_A wc H.size) U) : ∀ U : State, U.heap = H → s.WarmedH U.vm → PX dC dI cI cJ cO own cls L wc H.size U := fun U hU hW => ⟨PW.pre hP hD hK U hU hW, hX U hU hW⟩
variable {S : Type} {ws wc wr F : va_W} {w1 : S → va_W} {H0 : Heap} {a : Array Value} {cls : String}
theorem my_freeG (hS : va_S A H0 H locs) (hD : va_D A (ws ++ F)) (hA : ∀ q, H0.size ≤ q → A q) (isC : List Nat) (hC : isC.map (fun i => ws[i]?) = wc.map some) : ∀ q, va_A (wc ++ F) H.size q → A q :=
  my_freeF (ws := ws ++ F) (F := []) (wc := wc ++ F) (by rw [List.append_nil]; exact hD) hS hA (isC ++ List.range' ws.length F.length) (my_idxF isC hC)
theorem my_calliX {post : Int32 → S → Prop} {px : S → Prop} (hr : vx_Run p l e R s m args below meth c H locs cells slots mc ms (F0 m pc ls st0) rest (va_Qi post (fun u t => BW dC dI (va_A (wc ++ F) H.size) (w1 u) t) (va_A (wc ++ F) H.size) a) (vx_X px (fun E u t => E = cls ∧ BW dC dI (va_A (wc ++ F) H.size) (w1 u) t) (va_A (wc ++ F) H.size)) (va_A (wc ++ F) H.size)) (hS : va_S A H0 H locs) (hP : va_P (dC, dI) vwCl (ws ++ F) H) (hD : va_D A (ws ++ F)) (hA : ∀ q, H0.size ≤ q → A q) (isC isR : List Nat) (hC : isC.map (fun i => ws[i]?) = wc.map some) (hR : isR.map (fun i => ws[i]?) = wr.map some) (hn : va_nd isR = true) (hdis : ∀ i ∈ isR, i ∉ isC)
    (kx : ∀ (ce : Cell) (q9 : Addr) (u : S) (H1 : Heap) (locs1 : List Loc), px u → va_P (dC, dI) vwCl (wr ++ w1 u) H1 → va_D A (wr ++ w1 u) → va_S A H0 H1 locs1 → H1[q9]? = some ce → ce.vm = .none → s.vm.findClass cls = some ce.cls → vx_W p l e R s m args below meth c H1 locs1 (cells + mc) (slots + ms) Q (F0 m pc ls rest) q9)
    (kk : ∀ (r : Int32) (u : S) (H1 : Heap) (locs1 : List Loc), post r u → va_P (dC, dI) vwCl (wr ++ w1 u) H1 → va_D A (wr ++ w1 u) → va_S A H0 H1 locs1 → W p l e R s m args below meth c H1 locs1 (cells + mc) (slots + ms) Q (F0 m (pc + 3) ls (.int r :: rest))) : W p l e R s m args below meth c H locs cells slots Q (F0 m pc ls st0) := by
  have hF := my_freeG hS hD hA isC hC
  have jn : ∀ (u : S) (t : State) (H1 : Heap), t.heap = H1 → BW dC dI (va_A (wc ++ F) H.size) (w1 u) t → (∀ q : Nat, q < H.size → ¬ va_A (wc ++ F) H.size q → H1[q]? = H[q]?) → va_P (dC, dI) vwCl (wr ++ w1 u) H1 ∧ va_D A (wr ++ w1 u) := by
    intro u t H1 ht hB hk1
    obtain ⟨hP1, hD1⟩ := hB
    rw [ht] at hP1
    have := my_joinF (ws := ws ++ F) (F := []) (wc := wc ++ F) (by rw [List.append_nil]; exact hP) (by rw [List.append_nil]; exact hD) (isC ++ List.range' ws.length F.length) isR (my_idxF isC hC) (my_idxR isR hR) hn (my_idxD hR hdis) hk1 hF hP1 hD1
    rw [List.append_nil] at this
    exact this
  refine vx_calli hr hS (fun q _ h => hF q h) hF (fun q _ h => hF q h) (fun E ce q9 u t H1 locs1 ht hvm hpx hB hz1 hk1 hS1 hce hcv hcl => ?_) (fun r u t H1 locs1 ht hvm hw hB hz1 hk1 hS1 => ?_)
  · obtain ⟨rfl, hB⟩ := hB
    obtain ⟨j1, j2⟩ := jn u t H1 ht hB hk1
    exact kx ce q9 u H1 locs1 hpx j1 j2 hS1 hce hcv hcl
  · obtain ⟨j1, j2⟩ := jn u t H1 ht hB hk1
    exact kk r u H1 locs1 hw j1 j2 hS1
end MYX
