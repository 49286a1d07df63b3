/-! methods that throw with a text: what they need of the start, how they begin, how they end -/
def XB (cls : String) : List Cond := [Cond.castable cls cls, Cond.declares (Bundle.initS "java/lang/RuntimeException"), Cond.declares (Bundle.initS "java/lang/Exception"), Cond.declares (Bundle.initS Bundle.tN)]
def XN (cls : String) (U : State) : Prop := ∀ w ∈ XB cls, va_Nw w U
theorem XB_ot {cls : String} : ∀ w ∈ XB cls, w.onTables = true := by
  intro w hw
  simp only [XB, List.mem_cons, List.not_mem_nil, or_false] at hw
  rcases hw with h | h | h | h <;> rw [h] <;> rfl
theorem XN.warm {cls : String} {s U : State} (hW : s.WarmedH U.vm) (h : XN cls s) : XN cls U := by
  intro w hw
  have h0 := h w hw
  simp only [XB, List.mem_cons, List.not_mem_nil, or_false] at hw
  rcases hw with e | e | e | e
  · rw [e] at h0 ⊢; exact va_Nw.warmC hW h0
  · rw [e] at h0 ⊢; exact va_Nw.warmD hW h0
  · rw [e] at h0 ⊢; exact va_Nw.warmD hW h0
  · rw [e] at h0 ⊢; exact va_Nw.warmD hW h0
theorem XN.cast {cls : String} {U : State} (h : XN cls U) : va_Nw (.castable cls cls) U := h _ List.mem_cons_self
def XW (own cls : String) (L : List (Nat × String × Nat)) (A : Nat → Prop) (U : State) : Prop := (∀ q, q ∈ L → vk_R own q.1 q.2.1 q.2.2 U) ∧ XN cls U ∧ vx_Zq Bundle.tN "UNASSIGNED_STACK" Bundle.steD A U U.heap ∧ vx_Zq Bundle.tN "SUPPRESSED_SENTINEL" Bundle.listD A U U.heap
def PX (dC : Nat → ClassId) (dI : Nat → Nat → Nat) (cI cJ cO : ClassId) (own cls : String) (L : List (Nat × String × Nat)) (WS : va_W) (sz : Nat) (U : State) : Prop := PW dC dI cI cJ cO WS sz U ∧ XW own cls L (va_A WS sz) U
theorem XW.same {own cls : String} {L : List (Nat × String × Nat)} {A : Nat → Prop} {U V : State} (h : XW own cls L A U) (e1 : V.vm = U.vm) (e2 : V.heap = U.heap) : XW own cls L A V := by
  have ha : U.vm.Alike V.vm := by rw [e1]; exact (State.WarmedH.refl U).alike
  refine ⟨fun q hq => vk_R.same e1 (h.1 q hq), fun w hw => va_tabs (XB_ot w hw) e1.symm (h.2.1 w hw), ?_, ?_⟩
  · rw [e2]; exact vx_Zq.moved ha h.2.2.1
  · rw [e2]; exact vx_Zq.moved ha h.2.2.2
theorem PX.blind {dC : Nat → ClassId} {dI : Nat → Nat → Nat} {cI cJ cO : ClassId} {own cls : String} {L : List (Nat × String × Nat)} {WS : va_W} {sz : Nat} {av : List Value} : FrameBlind (va_Pc av (PX dC dI cI cJ cO own cls L WS sz)) := fun a U g mk q => ⟨q.1, (PW.blind a U g mk ⟨q.1, q.2.1⟩).2, XW.same q.2.2 rfl rfl⟩
theorem my_metX {l : Launch} {y : MethodName} {ws ws' : List Cond} {rm : Room} {cc : ByteArray} {maxL : Nat} {ret : Option FieldType} {av : List Value} {dC : Nat → ClassId} {dI : Nat → Nat → Nat} {cI cJ cO : ClassId} {own cls : String} {L : List (Nat × String × Nat)} {WS : va_W} {sz : Nat} {Qc : (Nat → Prop) → Array Value → State → Outcome → State → Prop} {XC : (Nat → Prop) → String → State → State → Prop} {mc ms : Nat}
    (hy : plainName y.cls = true) (hw : ws = Cond.code y cc maxL ret :: ws') (hn : (lg_sl av).length ≤ maxL)
    (body : ∀ (p : Program) (e : Env) (s : State) (m : MethodId) (below : List Frame) (meth : Method) (c : Code) (ls : Array Slot) (A : Nat → Prop), Cx p s m av.toArray meth c cc ret maxL y.cls y.name ws → (∀ x ∈ c.exceptionTable.toList, False) → lv_has ls maxL (lv_args 0 av) → Kn dC dI cI cJ cO s → (∀ q : Nat, s.heap.size ≤ q → A q) → va_P (dC, dI) vwCl WS s.heap → va_D A WS → va_S A s.heap s.heap [] → XW own cls L A s →
      W p l e rm s m av.toArray below meth c s.heap [] 0 0 (vx_MQ below (Qc A) (XC A) av.toArray s mc ms A) (F0 m 0 ls [])) : vx_Met l y ws rm (va_Pc av (PX dC dI cI cJ cO own cls L WS sz)) (Qc (va_A WS sz)) (XC (va_A WS sz)) mc ms (va_A WS sz) := by
  refine vx_ofW (cc := cc) (maxL := maxL) (ret := ret) hy hw ?_
  intro p e s m args below meth c s₁ B hml hno hv
  obtain ⟨rfl, ⟨hsz, hP, hK, hD⟩, hX⟩ := hv
  subst hsz
  rw [lg_entry_eq]
  exact body p e s m below meth c _ _ ⟨B.exec, B.bytes, B.returns, hml, findClass_of_methodNamed B.named, atoms_spec (ws := ws) B.pre, B.notSynchronized, (name_of_methodNamed B.named B.method).1⟩ hno (lv_entry av hn) hK (fun q h => Or.inr h) hP hD.self va_S.rf hX
theorem my_throwS {p : Program} {l : Launch} {e : Env} {R : Room} {s : State} {m : MethodId} {args : Array Value} {below : List Frame} {meth : Method} {c : Code} {H : Heap} {locs : List Loc} {cells slots mc ms : Nat} {cc : ByteArray} {rt : Option FieldType} {nL : Nat} {own nm : String} {Ts : List Cond} {pc : Nat} {ls : Array Slot} {rest : List Value} {dC : Nat → ClassId} {dI : Nat → Nat → Nat} {A : Nat → Prop} {S : Type} {px : S → Prop} {WX : S → va_W} {Qc : Array Value → State → Outcome → State → Prop} {cls tx : String} {L : List (Nat × String × Nat)} {ik is ic sa : Nat}
    (u : S) (X : Cx p s m args meth c cc rt nL own nm Ts) (hno : ∀ x ∈ c.exceptionTable.toList, False) (hst : l.stackTraces = false) (hcls : Bundle.fit cls = true) (hk : Cond.classLink own ik cls ∈ Ts) (hini : Cond.initialized cls ∈ Ts) (hX : XW own cls L A s) (hL : (is, tx, sa) ∈ L)
    (hat : ∀ w ∈ (vx_atS own ic cls ["java/lang/RuntimeException", "java/lang/Exception"]).filter goodWord, w ∈ Ts) (hgo : ∀ w ∈ (vx_atS own ic cls ["java/lang/RuntimeException", "java/lang/Exception"]).filter (fun w => !goodWord w), w ∈ XB cls)
    (hpx : px u) (hP : va_P (dC, dI) vwCl (WX u) H) (hD : va_D A (WX u)) (hS : va_S A s.heap H locs) (hsize : ls.size = nL)
    (d0 : decode cc pc = .ok (.new ik, 3)) (d3 : decode cc (pc + 3) = .ok (.dup, 1)) (d4 : decode cc (pc + 4) = .ok (.ldc is, 2)) (d6 : decode cc (pc + 6) = .ok (.invokespecial ic, 3)) (d9 : decode cc (pc + 9) = .ok (.athrow, 1))
    (hRf : 5 < R.frames) (hRl : (rest.map fun v => v.category).sum + 82 ≤ R.locals) (hRc : cells + 1 ≤ R.cells) (hRs : slots + 6 ≤ R.slots) (hc : cells + 1 ≤ mc) (hs : slots + 6 ≤ ms) :
    W p l e R s m args below meth c H locs cells slots (vx_MQ below Qc (vx_X px (fun E u t => E = cls ∧ BW dC dI A (WX u) t) A) args s mc ms A) (F0 m pc ls rest) := by
  obtain ⟨hx, hb, hr, hml, hown, hts, hlocks, hnm⟩ := X
  refine vx_throwS (names := ["java/lang/RuntimeException", "java/lang/Exception"]) (A := A) hx hb hst hown hcls (by decide +kernel) (hts _ hk) (hts _ hini) (hX.1 _ hL) (vx_hat (fun w hw => hts _ (hat w hw)) hgo (fun w hw => va_Nw.use (A := args) (XB_ot w hw) (hX.2.1 w hw))) ?_ hX.2.2.1 hX.2.2.2 hS (hsize.trans hml.symm) d0 d3 d4 d6 d9 (fun x hx => (hno x hx).elim) hRf hRl hRc hRs hlocks ?_ hS.2.2 hc hs
  · intro w hw
    unfold vx_ot
    rcases List.mem_cons.mp hw with h | hw
    · rw [h]; rfl
    · rcases List.mem_cons.mp hw with h | hw
      · rw [h]; rfl
      · cases hgw : goodWord w
        · have h9 := hgo w (List.mem_filter.mpr ⟨hw, by show (!goodWord w) = true; rw [hgw]; rfl⟩)
          rw [XB_ot w h9]; rfl
        · exact Bool.or_true _
  · intro t hvm hz hkk
    refine ⟨u, hpx, ⟨rfl, fun k q hq => (hP k q hq).kept (hkk q.1 (hP k q hq).lt), hD⟩, Nat.le_trans hS.1 hz, fun q h1 h2 => ?_⟩
    rw [hkk q (Nat.lt_of_lt_of_le h1 hS.1)]
    exact hS.2.1 q h1 h2
theorem go_105 : ∀ w ∈ (vx_atS RX5 105 "java/lang/UnsupportedOperationException" ["java/lang/RuntimeException", "java/lang/Exception"]).filter (fun w => !goodWord w), w ∈ XB "java/lang/UnsupportedOperationException" := by decide +kernel
theorem go_119 : ∀ w ∈ (vx_atS RX5 119 "java/lang/IndexOutOfBoundsException" ["java/lang/RuntimeException", "java/lang/Exception"]).filter (fun w => !goodWord w), w ∈ XB "java/lang/IndexOutOfBoundsException" := by decide +kernel
theorem fit_u : Bundle.fit "java/lang/UnsupportedOperationException" = true := by decide +kernel
theorem fit_i : Bundle.fit "java/lang/IndexOutOfBoundsException" = true := by decide +kernel
