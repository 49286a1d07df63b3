section MYC
variable {p : Program} {l : Launch} {e : Env} {R : Room} {s : State} {m : MethodId} {args : Array Value} {below : List Frame} {meth : Method} {c : Code} {H : Heap} {locs : List Loc} {cells slots mc ms : Nat} {Q : State → Prop}
variable {cc bytes : ByteArray} {rt ret : Option FieldType} {nL maxL index n : Nat} {own nm C : String} {Ts wsY ws' : List Cond} {pc : Nat} {ls : Array Slot} {st0 rest As : List Value} {dC : Nat → ClassId} {dI : Nat → Nat → Nat} {cI cJ cO : ClassId} {A : Nat → Prop} {y : MethodName} {rm : Room} {Qc : Array Value → State → Outcome → State → Prop} {free : Addr → Prop} {b : Addr} {Pre : State → Prop}
theorem PR.pre {wc : va_W} (hP : va_P (dC, dI) vwCl wc H) (hK : Kn dC dI cI cJ cO s) : ∀ U : State, U.heap = H → s.WarmedH U.vm → PR dC dI cI cJ cO wc U := fun U hU hW => ⟨by rw [hU]; exact hP, hK.warm hW⟩
theorem PW.pre {wc : va_W} (hP : va_P (dC, dI) vwCl wc H) (hD : va_D A wc) (hK : Kn dC dI cI cJ cO s) : ∀ U : State, U.heap = H → s.WarmedH U.vm → PW dC dI cI cJ cO wc H.size U := fun U hU hW => ⟨by rw [hU], by rw [hU]; exact hP, hK.warm hW, hD.weaken (fun _ _ _ _ => trivial)⟩
theorem my_runV (X : Cx p s m args meth c cc rt nL own nm Ts) (hbl : FrameBlind (va_Pc (.ref b :: As) Pre)) (hpre : ∀ U : State, U.heap = H → s.WarmedH U.vm → Pre U) (hrecv : ∃ cell : Cell, H[b]? = some cell ∧ cell.vm.isStatics = false ∧ s.vm.findClass C = some cell.cls)
    (hM : Met l y wsY rm (va_Pc (.ref b :: As) Pre) Qc mc ms free) (hG : GoodIn Ts (wsV own index C y wsY)) (hw : wsY = Cond.code y bytes maxL ret :: ws') (hrc : rm.cells = mc) (hrs : rm.slots = ms)
    (hd : y.cls = C ∧ y.cls ≠ "java/lang/invoke/MethodHandle" ∧ y.cls ≠ "java/lang/invoke/VarHandle" ∧ (parseMethodDescriptor y.desc).map (fun d => d.parameters.length) = some n) (hn : As.length = n) (hR : rm.frames + 1 ≤ R.frames ∧ 8 + (maxL + 11) + rm.locals ≤ R.locals)
    (hsize : ls.size = nL) (hstk : st0 = As.reverse ++ .ref b :: rest) (hW : (rest.map fun v => v.category).sum ≤ 8) (hdg : decode cc pc = .ok (.invokevirtual index, 3)) (hf : cells + mc ≤ R.cells ∧ slots + ms ≤ R.slots) :
    va_Run p l e R s m args below meth c H locs cells slots mc ms (F0 m pc ls st0) rest (Qc (Value.ref b :: As).toArray) free := by
  obtain ⟨hx, hb, -, hml, hown, hts, -⟩ := X
  exact va_runV (As := As) (rest := rest) ⟨hx, hb, hml, hown, hts⟩ hM (cwV n hts hG hw hrc hrs hd hR) ⟨hbl, hrecv, fun U hU hW => ⟨rfl, hpre U hU hW⟩⟩ rfl hn hsize hstk (lv_room hW) hdg hf
theorem my_runS (X : Cx p s m args meth c cc rt nL own nm Ts) (hbl : FrameBlind (va_Pc As Pre)) (hpre : ∀ U : State, U.heap = H → s.WarmedH U.vm → Pre U)
    (hM : Met l y wsY rm (va_Pc As Pre) Qc mc ms free) (hG : GoodIn Ts (va_wsS own index y wsY)) (hw : wsY = Cond.code y bytes maxL ret :: ws') (hrc : rm.cells = mc) (hrs : rm.slots = ms)
    (hd : y.cls ≠ "java/lang/invoke/MethodHandle" ∧ y.cls ≠ "java/lang/invoke/VarHandle" ∧ (parseMethodDescriptor y.desc).map (fun d => d.parameters.length) = some n) (hn : As.length = n) (hR : rm.frames + 1 ≤ R.frames ∧ 8 + (maxL + 11) + rm.locals ≤ R.locals)
    (hsize : ls.size = nL) (hstk : st0 = As.reverse ++ rest) (hW : (rest.map fun v => v.category).sum ≤ 8) (hdg : decode cc pc = .ok (.invokestatic index, 3)) (hf : cells + mc ≤ R.cells ∧ slots + ms ≤ R.slots) :
    va_Run p l e R s m args below meth c H locs cells slots mc ms (F0 m pc ls st0) rest (Qc As.toArray) free := by
  obtain ⟨hx, hb, -, hml, hown, hts, -⟩ := X
  exact va_runS (As := As) (rest := rest) ⟨hx, hb, hml, hown, hts⟩ hM (va_cwS n hts hG hw hrc hrs hd hR) ⟨hbl, fun U hU hW => ⟨rfl, hpre U hU hW⟩⟩ rfl hn hsize hstk (lv_room hW) hdg hf
/-- a nest mate's static method -/
theorem my_runSN (X : Cx p s m args meth c cc rt nL own nm Ts) (hK : Kn dC dI cI cJ cO s) (hbl : FrameBlind (va_Pc As Pre)) (hpre : ∀ U : State, U.heap = H → s.WarmedH U.vm → Pre U)
    (hM : Met l y wsY rm (va_Pc As Pre) Qc mc ms free) (hG : GoodIn Ts wsY) (hw : wsY = Cond.code y bytes maxL ret :: ws') (hrc : rm.cells = mc) (hrs : rm.slots = ms) (i : Nat) (hl : nwM[i]? = some (own, index, y)) (hini : Cond.initialized y.cls ∈ Ts) (hst : Cond.static y ∈ Ts)
    (hd : y.cls ≠ "java/lang/invoke/MethodHandle" ∧ y.cls ≠ "java/lang/invoke/VarHandle" ∧ (parseMethodDescriptor y.desc).map (fun d => d.parameters.length) = some n) (hn : As.length = n) (hR : rm.frames + 1 ≤ R.frames ∧ 8 + (maxL + 11) + rm.locals ≤ R.locals)
    (hsize : ls.size = nL) (hstk : st0 = As.reverse ++ rest) (hW : (rest.map fun v => v.category).sum ≤ 8) (hdg : decode cc pc = .ok (.invokestatic index, 3)) (hf : cells + mc ≤ R.cells ∧ slots + ms ≤ R.slots) :
    va_Run p l e R s m args below meth c H locs cells slots mc ms (F0 m pc ls st0) rest (Qc As.toArray) free := by
  obtain ⟨hx, hb, -, hml, hown, hts, -⟩ := X
  exact va_runSN (As := As) (rest := rest) ⟨hx, hb, hml, hown, hts⟩ hM ⟨va_cnB n hts hG hw hrc hrs (hK.2.m i hl) (hts _ hini) hd hR, hts _ hst, trivial⟩ ⟨hbl, fun U hU hW => ⟨rfl, hpre U hU hW⟩⟩ rfl hn hsize hstk (lv_room hW) hdg hf
/-- a constructor -/
theorem my_runI (X : Cx p s m args meth c cc rt nL own nm Ts) (hbl : FrameBlind (va_Pc (.ref b :: As) Pre)) (hpre : ∀ U : State, U.heap = H → s.WarmedH U.vm → Pre U)
    (hM : Met l y wsY rm (va_Pc (.ref b :: As) Pre) Qc mc ms free) (hG : GoodIn Ts wsY) (hw : wsY = Cond.code y bytes maxL none :: ws') (hrc : rm.cells = mc) (hrs : rm.slots = ms) (hini : Cond.initialized y.cls ∈ Ts) (hl : Cond.methodLink own index y ∈ Ts) (hin : Cond.instanceMethod y ∈ Ts) (hy : y.name = "<init>")
    (hd : y.cls ≠ "java/lang/invoke/MethodHandle" ∧ y.cls ≠ "java/lang/invoke/VarHandle" ∧ (parseMethodDescriptor y.desc).map (fun d => d.parameters.length) = some n) (hn : As.length = n) (hR : rm.frames + 1 ≤ R.frames ∧ 8 + (maxL + 11) + rm.locals ≤ R.locals)
    (hsize : ls.size = nL) (hstk : st0 = As.reverse ++ .ref b :: rest) (hW : (rest.map fun v => v.category).sum ≤ 8) (hdg : decode cc pc = .ok (.invokespecial index, 3)) (hf : cells + mc ≤ R.cells ∧ slots + ms ≤ R.slots) :
    va_Run p l e R s m args below meth c H locs cells slots mc ms (F0 m pc ls st0) rest (Qc (Value.ref b :: As).toArray) free := by
  obtain ⟨hx, hb, -, hml, hown, hts, -⟩ := X
  exact va_runI (As := As) (rest := rest) ⟨hx, hb, hml, hown, hts⟩ hM (cwI n hts hG hw hrc hrs (hts _ hini) (hts _ hl) (hts _ hin) hy hd hR) ⟨hbl, fun U hU hW => ⟨rfl, hpre U hU hW⟩⟩ rfl hn hsize hstk (lv_room hW) hdg hf
/-- a nest mate's constructor -/
theorem my_runIN (X : Cx p s m args meth c cc rt nL own nm Ts) (hK : Kn dC dI cI cJ cO s) (hbl : FrameBlind (va_Pc (.ref b :: As) Pre)) (hpre : ∀ U : State, U.heap = H → s.WarmedH U.vm → Pre U)
    (hM : Met l y wsY rm (va_Pc (.ref b :: As) Pre) Qc mc ms free) (hG : GoodIn Ts wsY) (hw : wsY = Cond.code y bytes maxL none :: ws') (hrc : rm.cells = mc) (hrs : rm.slots = ms) (i : Nat) (hl : nwM[i]? = some (own, index, y)) (hini : Cond.initialized y.cls ∈ Ts) (hin : Cond.instanceMethod y ∈ Ts) (hy : y.name = "<init>")
    (hd : y.cls ≠ "java/lang/invoke/MethodHandle" ∧ y.cls ≠ "java/lang/invoke/VarHandle" ∧ (parseMethodDescriptor y.desc).map (fun d => d.parameters.length) = some n) (hn : As.length = n) (hR : rm.frames + 1 ≤ R.frames ∧ 8 + (maxL + 11) + rm.locals ≤ R.locals)
    (hsize : ls.size = nL) (hstk : st0 = As.reverse ++ .ref b :: rest) (hW : (rest.map fun v => v.category).sum ≤ 8) (hdg : decode cc pc = .ok (.invokespecial index, 3)) (hf : cells + mc ≤ R.cells ∧ slots + ms ≤ R.slots) :
    va_Run p l e R s m args below meth c H locs cells slots mc ms (F0 m pc ls st0) rest (Qc (Value.ref b :: As).toArray) free := by
  obtain ⟨hx, hb, -, hml, hown, hts, -⟩ := X
  exact va_runIN (As := As) (rest := rest) ⟨hx, hb, hml, hown, hts⟩ hM ⟨va_cnB n hts hG hw hrc hrs (hK.2.m i hl) (hts _ hini) hd hR, hy, hts _ hin⟩ ⟨hbl, fun U hU hW => ⟨rfl, hpre U hU hW⟩⟩ rfl hn hsize hstk (lv_room hW) hdg hf
variable {S : Type} {ws wc wr F : va_W} {w1 : S → va_W} {H0 : Heap} {a : Array Value}
/-- the frame rule with a rest that is any list of cells: the callee had some of ws -/
theorem my_joinF {D : va_G} {cl : List vw_C} {w2 : va_W} {H1 : Heap} (hP : va_P D cl (ws ++ F) H) (hD : va_D A (ws ++ F)) (isC isR : List Nat) (hC : isC.map (fun i => ws[i]?) = wc.map some) (hR : isR.map (fun i => ws[i]?) = wr.map some) (hn : va_nd isR = true) (hdis : ∀ i ∈ isR, i ∉ isC)
    (hk : ∀ q : Nat, q < H.size → ¬ va_A wc H.size q → H1[q]? = H[q]?) (hF : ∀ q, va_A wc H.size q → A q) (hP1 : va_P D cl w2 H1) (hD1 : va_D (va_A wc H.size) w2) : va_P D cl ((wr ++ w2) ++ F) H1 ∧ va_D A ((wr ++ w2) ++ F) := by
  have at' : ∀ {is : List Nat} {w : va_W}, is.map (fun i => ws[i]?) = w.map some → ∀ (k : Nat) (q : Nat × va_E), w[k]? = some q → ∃ i, is[k]? = some i ∧ ws[i]? = some q := by
    intro is w hs k q hq
    have h1 : (is.map (fun i => ws[i]?))[k]? = some (some q) := by rw [hs, List.getElem?_map, hq]; rfl
    rw [List.getElem?_map] at h1
    cases hi : is[k]? with
    | none => rw [hi] at h1; cases h1
    | some i => rw [hi] at h1; exact ⟨i, rfl, Option.some.inj h1⟩
  have inl : ∀ (k : Nat) (q : Nat × va_E), ws[k]? = some q → (ws ++ F)[k]? = some q := fun k q h => by
    rw [List.getElem?_append_left (List.getElem?_eq_some_iff.mp h).1]; exact h
  have inr : ∀ (k : Nat) (q : Nat × va_E), F[k]? = some q → (ws ++ F)[ws.length + k]? = some q := fun k q h => by
    rw [List.getElem?_append_right (Nat.le_add_right _ _), Nat.add_sub_cancel_left]; exact h
  have notC : ∀ (i : Nat) (q : Nat × va_E), (ws ++ F)[i]? = some q → i ∉ isC → q.1 < H.size ∧ ¬ va_A wc H.size q.1 := by
    intro i q hq hi
    have hl := (hP i q hq).lt
    refine ⟨hl, fun h => ?_⟩
    rcases h with ⟨k2, e, h⟩ | h
    · obtain ⟨j, h3, h4⟩ := at' hC k2 (q.1, e) h
      have hij := hD.1 i j q (q.1, e) hq (inl _ _ h4) rfl
      subst hij
      exact hi (List.mem_of_getElem? h3)
    · omega
  have isClt : ∀ i ∈ isC, i < ws.length := by
    intro i hi
    obtain ⟨k, hk⟩ := List.getElem?_of_mem hi
    have h1 : (isC.map (fun i => ws[i]?))[k]? = some (ws[i]?) := by rw [List.getElem?_map, hk]; rfl
    rw [hC, List.getElem?_map] at h1
    cases hw : wc[k]? with
    | none => rw [hw] at h1; cases h1
    | some q =>
      rw [hw] at h1
      have h2 : ws[i]? = some q := (Option.some.inj h1).symm
      exact (List.getElem?_eq_some_iff.mp h2).1
  have apR : ∀ (k : Nat) (q : Nat × va_E), wr[k]? = some q → q.1 < H.size ∧ ¬ va_A wc H.size q.1 := by
    intro k q hq
    obtain ⟨i, h1, h2⟩ := at' hR k q hq
    exact notC i q (inl _ _ h2) (hdis i (List.mem_of_getElem? h1))
  have apF : ∀ (k : Nat) (q : Nat × va_E), F[k]? = some q → q.1 < H.size ∧ ¬ va_A wc H.size q.1 := by
    intro k q hq
    exact notC _ q (inr _ _ hq) (fun h => by have := isClt _ h; omega)
  have hDR : va_D A wr := by
    refine ⟨fun i j x z hx hz hxz => ?_, fun k q hq => ?_⟩
    · obtain ⟨i', h1, h2⟩ := at' hR i x hx
      obtain ⟨j', h3, h4⟩ := at' hR j z hz
      have := hD.1 i' j' x z (inl _ _ h2) (inl _ _ h4) hxz
      subst this
      exact va_nd_inj isR hn i j i' h1 h3
    · obtain ⟨i', h1, h2⟩ := at' hR k q hq
      exact hD.2 i' q (inl _ _ h2)
  have hDF : va_D A F := by
    refine ⟨fun i j x z hx hz hxz => ?_, fun k q hq => hD.2 _ q (inr _ _ hq)⟩
    have := hD.1 _ _ x z (inr _ _ hx) (inr _ _ hz) hxz
    omega
  refine ⟨va_P.app (va_P.app (fun k q hq => ?_) hP1) (fun k q hq => ?_), va_D.app (va_D.app hDR (hD1.weaken (fun k q _ h => hF q.1 h)) (fun i j x z hx hz hxz => ?_)) hDF (fun i j x z hx hz hxz => ?_)⟩
  · obtain ⟨i, h1, h2⟩ := at' hR k q hq
    obtain ⟨g1, g2⟩ := apR k q hq
    exact (hP i q (inl _ _ h2)).kept (hk q.1 g1 g2)
  · obtain ⟨g1, g2⟩ := apF k q hq
    exact (hP _ q (inr _ _ hq)).kept (hk q.1 g1 g2)
  · exact (apR i x hx).2 (by rw [hxz]; exact hD1.2 j z hz)
  · by_cases hi : i < wr.length
    · rw [List.getElem?_append_left hi] at hx
      obtain ⟨i', h1, h2⟩ := at' hR i x hx
      have := hD.1 _ _ x z (inl _ _ h2) (inr _ _ hz) hxz
      have hl := (List.getElem?_eq_some_iff.mp h2).1
      omega
    · rw [List.getElem?_append_right (by omega)] at hx
      exact (apF j z hz).2 (by rw [← hxz]; exact hD1.2 _ x hx)
theorem my_freeF (hD : va_D A (ws ++ F)) (hS : va_S A H0 H locs) (hA : ∀ q, H0.size ≤ q → A q) (isC : List Nat) (hC : isC.map (fun i => ws[i]?) = wc.map some) : ∀ q, va_A wc H.size q → A q := by
  intro q h
  rcases h with ⟨k, e, h⟩ | h
  · have h1 : (isC.map (fun i => ws[i]?))[k]? = some (some (q, e)) := by rw [hC, List.getElem?_map, h]; rfl
    rw [List.getElem?_map] at h1
    cases hi : isC[k]? with
    | none => rw [hi] at h1; cases h1
    | some i =>
      rw [hi] at h1
      have h2 : ws[i]? = some (q, e) := Option.some.inj h1
      exact hD.2 i (q, e) (by rw [List.getElem?_append_left (List.getElem?_eq_some_iff.mp h2).1]; exact h2)
  · exact hA q (Nat.le_trans hS.1 h)
/-- calls of writers: what comes back stands behind the caller's other cells; F is any rest -/
theorem my_callv {post : S → Prop} (hr : va_Run p l e R s m args below meth c H locs cells slots mc ms (F0 m pc ls st0) rest (va_Qv post (fun u t => BW dC dI (va_A wc H.size) (w1 u) t) (va_A wc H.size) a) (va_A wc H.size)) (hS : va_S A H0 H locs) (hP : va_P (dC, dI) vwCl (ws ++ F) H) (hD : va_D A (ws ++ F)) (hA : ∀ q, H0.size ≤ q → A q) (isC isR : List Nat) (hC : isC.map (fun i => ws[i]?) = wc.map some) (hR : isR.map (fun i => ws[i]?) = wr.map some) (hn : va_nd isR = true) (hdis : ∀ i ∈ isR, i ∉ isC)
    (kk : ∀ (u : S) (H1 : Heap) (locs1 : List Loc), post u → va_P (dC, dI) vwCl ((wr ++ w1 u) ++ F) H1 → va_D A ((wr ++ w1 u) ++ F) → va_S A H0 H1 locs1 → W p l e R s m args below meth c H1 locs1 (cells + mc) (slots + ms) Q (F0 m (pc + 3) ls rest)) : W p l e R s m args below meth c H locs cells slots Q (F0 m pc ls st0) := by
  have hF := my_freeF hD hS hA isC hC
  refine va_callv hr hS (fun q _ h => hF q h) hF (fun u t H1 locs1 ht hvm hw hB hz1 hk1 hS1 => ?_)
  obtain ⟨hP1, hD1⟩ := hB
  rw [ht] at hP1
  obtain ⟨g1, g2⟩ := my_joinF hP hD isC isR hC hR hn hdis hk1 hF hP1 hD1
  exact kk u H1 locs1 hw g1 g2 hS1
theorem my_calli {post : Int32 → S → Prop} (hr : va_Run p l e R s m args below meth c H locs cells slots mc ms (F0 m pc ls st0) rest (va_Qi post (fun u t => BW dC dI (va_A wc H.size) (w1 u) t) (va_A wc H.size) a) (va_A wc H.size)) (hS : va_S A H0 H locs) (hP : va_P (dC, dI) vwCl (ws ++ F) H) (hD : va_D A (ws ++ F)) (hA : ∀ q, H0.size ≤ q → A q) (isC isR : List Nat) (hC : isC.map (fun i => ws[i]?) = wc.map some) (hR : isR.map (fun i => ws[i]?) = wr.map some) (hn : va_nd isR = true) (hdis : ∀ i ∈ isR, i ∉ isC)
    (kk : ∀ (r : Int32) (u : S) (H1 : Heap) (locs1 : List Loc), post r u → va_P (dC, dI) vwCl ((wr ++ w1 u) ++ F) H1 → va_D A ((wr ++ w1 u) ++ F) → va_S A H0 H1 locs1 → W p l e R s m args below meth c H1 locs1 (cells + mc) (slots + ms) Q (F0 m (pc + 3) ls (.int r :: rest))) : W p l e R s m args below meth c H locs cells slots Q (F0 m pc ls st0) := by
  have hF := my_freeF hD hS hA isC hC
  refine va_calli hr hS (fun q _ h => hF q h) hF (fun r u t H1 locs1 ht hvm hw hB hz1 hk1 hS1 => ?_)
  obtain ⟨hP1, hD1⟩ := hB
  rw [ht] at hP1
  obtain ⟨g1, g2⟩ := my_joinF hP hD isC isR hC hR hn hdis hk1 hF hP1 hD1
  exact kk r u H1 locs1 hw g1 g2 hS1
theorem my_calll {post : Int64 → S → Prop} (hr : va_Run p l e R s m args below meth c H locs cells slots mc ms (F0 m pc ls st0) rest (va_Ql post (fun u t => BW dC dI (va_A wc H.size) (w1 u) t) (va_A wc H.size) a) (va_A wc H.size)) (hS : va_S A H0 H locs) (hP : va_P (dC, dI) vwCl (ws ++ F) H) (hD : va_D A (ws ++ F)) (hA : ∀ q, H0.size ≤ q → A q) (isC isR : List Nat) (hC : isC.map (fun i => ws[i]?) = wc.map some) (hR : isR.map (fun i => ws[i]?) = wr.map some) (hn : va_nd isR = true) (hdis : ∀ i ∈ isR, i ∉ isC)
    (kk : ∀ (r : Int64) (u : S) (H1 : Heap) (locs1 : List Loc), post r u → va_P (dC, dI) vwCl ((wr ++ w1 u) ++ F) H1 → va_D A ((wr ++ w1 u) ++ F) → va_S A H0 H1 locs1 → W p l e R s m args below meth c H1 locs1 (cells + mc) (slots + ms) Q (F0 m (pc + 3) ls (.long r :: rest))) : W p l e R s m args below meth c H locs cells slots Q (F0 m pc ls st0) := by
  have hF := my_freeF hD hS hA isC hC
  refine va_calll hr hS (fun q _ h => hF q h) hF (fun r u t H1 locs1 ht hvm hw hB hz1 hk1 hS1 => ?_)
  obtain ⟨hP1, hD1⟩ := hB
  rw [ht] at hP1
  obtain ⟨g1, g2⟩ := my_joinF hP hD isC isR hC hR hn hdis hk1 hF hP1 hD1
  exact kk r u H1 locs1 hw g1 g2 hS1
/-- calls of readers -/
theorem my_rdi {post : Int32 → Prop} (hr : va_Run p l e R s m args below meth c H locs cells slots 0 0 (F0 m pc ls st0) rest (vp_Si post a) (fun _ => False)) (kk : ∀ r : Int32, post r → W p l e R s m args below meth c H locs cells slots Q (F0 m (pc + 3) ls (.int r :: rest))) : W p l e R s m args below meth c H locs cells slots Q (F0 m pc ls st0) := vp_callSi hr.run kk
theorem my_rdl {post : Int64 → Prop} (hr : va_Run p l e R s m args below meth c H locs cells slots 0 0 (F0 m pc ls st0) rest (vp_Sl post a) (fun _ => False)) (kk : ∀ r : Int64, post r → W p l e R s m args below meth c H locs cells slots Q (F0 m (pc + 3) ls (.long r :: rest))) : W p l e R s m args below meth c H locs cells slots Q (F0 m pc ls st0) := vp_callSl hr.run kk
end MYC
