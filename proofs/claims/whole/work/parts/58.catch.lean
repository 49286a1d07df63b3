/-! a table of one row: what its search finds, and the frame that goes on at its handler -/
section CATCH
theorem my_find {e : Env} {s : State} {f : JFrame} {a : Addr} {meth : Method} {code : Code} {x : ExceptionTableEntry} {k : ClassId} {cell : Cell} (hm : s.vm.method? f.method = some meth) (hc : meth.code = some code) (h1 : code.exceptionTable.toList = [x]) (hx : covers x f.pc = true) (h0 : x.catchType ≠ 0)
    (hl : s.vm.ClassLinks e.platform f.method.cls x.catchType k) (hcell : s.heap[a]? = some cell) (hobj : ∀ k, cell.vm ≠ .statics k) (hk1 : ∃ k1, s.vm.classes[cell.cls]? = some k1) (hk2 : ∃ k2, s.vm.classes[k]? = some k2) (hfit : s.vm.assignable cell.cls k = true)
    (Q : Handler → Pre) (E : CtlPost) (d : Bool) (acts : List Action) : wp (findHandler f a) Q E e d acts s ↔ Q (.found x.handlerPc) d acts (s.setVm (s.vm.noted f.method.cls x.catchType (.cls k))) := by
  obtain ⟨b1, b2⟩ := (resolveClass_links e.toSetting hl).op (op := VmOp.resolveClass f.method.cls x.catchType) rfl
  have al := (Vm.Alike.refl s.vm).noted f.method.cls x.catchType (.cls k)
  obtain ⟨y1, g1⟩ := hk1
  obtain ⟨y2, g2⟩ := hk2
  obtain ⟨z1, g3, -⟩ := al.2.2 _ _ g1
  obtain ⟨z2, g4, -⟩ := al.2.2 _ _ g2
  have hfit2 : (s.vm.noted f.method.cls x.catchType (.cls k)).assignable cell.cls k = true := by rw [al.assignable]; exact hfit
  unfold covers at hx
  rw [W.findHandler_eq hm hc, h1]
  simp [findHandler.go, hx, h0, b1, b2, hcell, hobj, g3, g4, hfit2, VmOp.dirties, VmOp.acts]
variable {p : Program} {l : Launch} {e : Env} {R : Room} {s : State} {m : MethodId} {args : Array Value} {below : List Frame} {meth : Method} {c : Code} {H : Heap} {locs : List Loc} {cells slots : Nat} {Q : State → Prop} {pc : Nat} {ls : Array Slot} {rest : List Value}
theorem my_catch {own nm E : String} {ce : Cell} {q : Addr} {x : ExceptionTableEntry} (hown : s.vm.findClass own = some m.cls) (h1 : c.exceptionTable.toList = [x]) (hx : covers x pc = true) (h0 : x.catchType ≠ 0) (hlink : (Cond.classLink own x.catchType nm).before args s = true) (hcast : va_Nw (.castable E nm) s) (hcell : H[q]? = some ce) (hv : ce.vm = .none) (hcl : s.vm.findClass E = some ce.cls)
    (kk : W p l e R s m args below meth c H locs cells slots Q (F0 m x.handlerPc ls [.ref q])) : vx_W p l e R s m args below meth c H locs cells slots Q (F0 m pc ls rest) q := by
  intro T hT X
  have hpl : e.platform.magicAccessors = ({} : Platform).magicAccessors := by rw [X.admits.platform]
  obtain ⟨kT, f1, lk⟩ := Cond.classLink_spec hown hlink e.platform hpl
  obtain ⟨k3, k4, f2, f3, fit⟩ := Cond.castable_spec (va_Nw.use (A := args) rfl hcast)
  cases Option.some.inj (f2.symm.trans hcl)
  cases Option.some.inj (f3.symm.trans f1)
  obtain ⟨dk, _, _, kt, hd, _, _, _, _, hkt, _, hopn⟩ := lk.here
  have hal := X.warmed.alike
  obtain ⟨kt2, hkt2, -⟩ := hal.2.2 _ _ hkt
  have fit2 : T.vm.assignable ce.cls kT = true := by rw [hal.assignable]; exact fit
  have hW := X.warmed.noted hd hopn (State.rightAt_cls lk)
  obtain ⟨t, st, hQ⟩ := kk (T.setVm (T.vm.noted m.cls x.catchType (.cls kT))) hT (X.noted hW)
  refine ⟨t, ?_, hQ⟩
  have hcT : ((T.setTop (F0 m pc ls rest)).pushFrame (.throwing q)).heap[q]? = some ce := by
    show T.heap[q]? = some ce
    rw [hT]; exact hcell
  have hF := fun Q9 E9 d9 a9 => my_find (e := e) (s := (T.setTop (F0 m pc ls rest)).pushFrame (.throwing q)) (f := F0 m pc ls rest) (a := q) (meth := meth) (code := c) (x := x) (k := kT) (cell := ce) X.method' X.code h1 hx h0 (X.warmed.classLinks lk) hcT (VmData.ne_statics_of (by rw [hv]; rfl)) (Vm.classAt_of_assignable fit2 ⟨kt2, hkt2⟩) ⟨kt2, hkt2⟩ fit2 Q9 E9 d9 a9
  obtain ⟨g1, g2⟩ := X.here.throwing (g := F0 m pc ls rest) q
  refine Steps.head g1 g2 ?_
  rw [stepThread_throwing (frames_entered X.here.top _)]
  obtain ⟨g₀, hg⟩ := Option.isSome_iff_exists.mp X.here.top
  obtain ⟨r, hr⟩ := State.topJava?_eq_some.mp hg
  have hs : (stepThrowing e ((T.setTop (F0 m pc ls rest)).pushFrame (.throwing q)) q (.java (F0 m pc ls rest) :: T.frames.tail)).Is ((((T.setTop (F0 m pc ls rest)).pushFrame (.throwing q)).setVm (T.vm.noted m.cls x.catchType (.cls kT))).setFrames (.java { F0 m pc ls rest with pc := x.handlerPc, stack := [.ref q] } :: T.frames.tail)) [] := by
    simp only [stepThrowing, searchFrame, vmDo]
    generalize hgo : Sem.go _ e false [] _ = res
    obtain ⟨as, rfl, ha⟩ := Sem.eq_ok_of hgo (a := Handler.found x.handlerPc) (s' := ((T.setTop (F0 m pc ls rest)).pushFrame (.throwing q)).setVm (T.vm.noted m.cls x.catchType (.cls kT))) (acts' := []) (by simp [hF]; rfl)
    exact ⟨rfl, ha⟩
  rw [hs.1]
  have e1 : (((T.setTop (F0 m pc ls rest)).pushFrame (.throwing q)).setVm (T.vm.noted m.cls x.catchType (.cls kT))).setFrames (.java { F0 m pc ls rest with pc := x.handlerPc, stack := [.ref q] } :: T.frames.tail) = (T.setVm (T.vm.noted m.cls x.catchType (.cls kT))).setTop (F0 m x.handlerPc ls [.ref q]) := by
    have hr2 : (T.setVm (T.vm.noted m.cls x.catchType (.cls kT))).frames = .java g₀ :: r := hr
    rw [State.setTop_of_frames _ hr2, hr, List.tail_cons]
    show ((((T.setVm (T.vm.noted m.cls x.catchType (.cls kT))).setTop (F0 m pc ls rest)).pushFrame (.throwing q))).setFrames _ = _
    rw [State.pushFrame, State.setFrames_setFrames, State.setTop_of_frames _ hr2, State.setFrames_setFrames]
  rw [e1]
  exact st
end CATCH
