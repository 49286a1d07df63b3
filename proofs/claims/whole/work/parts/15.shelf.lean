theorem my_metF {l : Launch} {y : MethodName} {ws ws' : List Cond} {rm : Room} {cc : ByteArray} {maxL : Nat} {ret : Option FieldType} {av : List Value} {Pre : State → Prop} {Qc : Array Value → State → Outcome → State → Prop} {mc ms : Nat} {free : Addr → Prop}
    (hy : plainFor y = true) (hw : ws = Cond.code y cc maxL ret :: ws') (hn : (lg_sl av).length ≤ maxL)
    (body : ∀ (p : Program) (e : Env) (s : State) (m : MethodId) (below : List Frame) (meth : Method) (c : Code) (ls : Array Slot), Cx p s m av.toArray meth c cc ret maxL y.cls y.name ws → lv_has ls maxL (lv_args 0 av) → Pre s →
      W p l e rm s m av.toArray below meth c s.heap [] 0 0 (MQ below Qc av.toArray s mc ms free) (F0 m 0 ls [])) : Met l y ws rm (va_Pc av Pre) Qc mc ms free := by
  refine va_MetF (cc := cc) (maxL := maxL) (ret := ret) hy hw ?_
  intro p e s m args below meth c s₁ B hml hv
  obtain ⟨rfl, hv⟩ := hv
  rw [lg_entry_eq]
  exact body p e s m below meth c _ ⟨B.exec, B.bytes, B.returns, hml, findClass_of_methodNamed B.named, atoms_spec (ws := ws) B.pre, B.notSynchronized, (name_of_methodNamed B.named B.method).1⟩ (lv_entry av hn) hv
set_option maxHeartbeats 200000 in
set_option maxRecDepth 100000 in
theorem c_fmod (l : Launch) (dC : Nat → ClassId) (dI : Nat → Nat → Nat) (cI cJ cO : ClassId) (x : Int32)  : Met l yJ9_floorMod_7cf53 wsJ9_floorMod_7cf53 ({ frames := 0, cells := 0, slots := 0, locals := 0 }) (va_Pc [.int x, .int 8] (PR dC dI cI cJ cO [])) (vp_Si (fun r : Int32 => r = my_fm x)) 0 0 (fun _ => False) := by
  refine my_metF (ws := wsJ9_floorMod_7cf53) (cc := cJ9_floorMod_7cf53) (maxL := 3) (ret := (some .int)) (by decide +kernel) rfl (Nat.le_of_ble_eq_true rfl) ?_
  intro p e s m below meth c ls X hl hv
  obtain ⟨hP, hK⟩ := hv
  obtain ⟨hx, hb, hr, hml, hown, hts, hlocks, hnm⟩ := id X
  have hl : lv_has ls 3 [(0, .int x), (1, .int 8)] := hl
  refine lv_iload_n hx hb dJ9_floorMod_7cf53_0 rfl (lv_at hl 0 rfl) ?_
  refine lv_iload_n hx hb dJ9_floorMod_7cf53_1 rfl (lv_at hl 1 rfl) ?_
  refine lv_irem hx hb dJ9_floorMod_7cf53_2 (by decide) ?_
  refine lv_istore_n (lv' := [(2, .int (x - x / 8 * 8)), (0, .int x), (1, .int 8)]) hx hb dJ9_floorMod_7cf53_3 rfl hl (by decide) rfl (fun ls hl => ?_)
  refine lv_iload_n hx hb dJ9_floorMod_7cf53_4 rfl (lv_at hl 1 rfl) ?_
  refine lv_iload_n hx hb dJ9_floorMod_7cf53_5 rfl (lv_at hl 2 rfl) ?_
  refine lv_ixor hx hb dJ9_floorMod_7cf53_6 ?_
  refine lv_if_ge (tgt := 18) hx hb dJ9_floorMod_7cf53_7 (by decide) (fun c_7 => ?_) (fun c_7 => ?_)
  · refine lv_iload_n hx hb dJ9_floorMod_7cf53_18 rfl (lv_at hl 0 rfl) ?_
    exact my_iretR X (by simp only [my_fm, c_7, if_true, if_false]) dJ9_floorMod_7cf53_19
  · refine lv_iload_n hx hb dJ9_floorMod_7cf53_10 rfl (lv_at hl 0 rfl) ?_
    refine lv_if_eq (tgt := 18) hx hb dJ9_floorMod_7cf53_11 (by decide) (fun c_11 => ?_) (fun c_11 => ?_)
    · refine lv_iload_n hx hb dJ9_floorMod_7cf53_18 rfl (lv_at hl 0 rfl) ?_
      exact my_iretR X (by simp only [my_fm, c_7, c_11, if_true, if_false]) dJ9_floorMod_7cf53_19
    · refine lv_iload_n hx hb dJ9_floorMod_7cf53_14 rfl (lv_at hl 0 rfl) ?_
      refine lv_iload_n hx hb dJ9_floorMod_7cf53_15 rfl (lv_at hl 2 rfl) ?_
      refine lv_iadd hx hb dJ9_floorMod_7cf53_16 ?_
      exact my_iretR X (by simp only [my_fm, c_7, c_11, if_true, if_false]) dJ9_floorMod_7cf53_17
theorem in_X3_madePage_X3 : ∀ w ∈ wsX30, w ∈ wsX3_madePage := fun _ h => List.mem_cons_of_mem _ (List.mem_append_right _ h)
set_option maxHeartbeats 200000 in
set_option maxRecDepth 100000 in
theorem c_madePage (l : Launch) (dC : Nat → ClassId) (dI : Nat → Nat → Nat) (cI cJ cO : ClassId) (sf : Nat) (pa : Nat) (kp : Nat) (la : Nat) (em : Int32) (pf : Nat → Option Nat) (k : Int32) (hkp : kp ≤ 8) (hla : la < 8) : Met l yX3_madePage wsX3_madePage ({ frames := 1, cells := 0, slots := 0, locals := 22 }) (va_Pc [.ref sf, .int k] (PR dC dI cI cJ cO [(sf, .inr (3, [.ref pa, .int (nI kp), .int (nI la), .int em])), (pa, .inl (cO, 8, .inr (.inr (.inr (.inr pf)))))])) (va_Sq (fun r : Option Nat => r = if ¬ k < 0 ∧ ¬ nI kp ≤ k then pf ((la + 8 - k.toNatClampNeg) % 8) else none)) 0 0 (fun _ => False) := by
  refine my_met (ws := wsX3_madePage) (cc := cX3_madePage) (maxL := 2) (ret := (some (.object "ColumnDesk$MadePage"))) (by decide) rfl (Nat.le_of_ble_eq_true rfl) ?_
  intro p e s m below meth c ls X hl hv
  obtain ⟨hP, hK⟩ := hv
  obtain ⟨hx, hb, hr, hml, hown, hts, hlocks, hnm⟩ := id X
  have hl : lv_has ls 2 [(0, .ref sf), (1, .int k)] := hl
  refine lv_iload_n hx hb dX3_madePage_0 rfl (lv_at hl 1 rfl) ?_
  refine lv_if_lt (tgt := 31) hx hb dX3_madePage_1 (by decide) (fun c_1 => ?_) (fun c_1 => ?_)
  · refine lv_null hx hb dX3_madePage_31 ?_
    exact my_qretR (r := none) X (by rw [if_neg]; intro q; first | exact q.1 c_1 | exact q.2 c_9) dX3_madePage_32
  · refine lv_iload_n hx hb dX3_madePage_4 rfl (lv_at hl 1 rfl) ?_
    refine lv_aload_n hx hb dX3_madePage_5 rfl (lv_at hl 0 rfl) ?_
    refine my_get X hK in_X3_madePage_X3 hP 0 rfl rfl 1 (by decide) (List.mem_of_getElem? (i := 1) rfl) rfl dX3_madePage_6 ?_
    refine lv_icmp_ge (tgt := 31) hx hb dX3_madePage_9 (by decide) (fun c_9 => ?_) (fun c_9 => ?_)
    · refine lv_null hx hb dX3_madePage_31 ?_
      exact my_qretR (r := none) X (by rw [if_neg]; intro q; first | exact q.1 c_1 | exact q.2 c_9) dX3_madePage_32
    · obtain ⟨kn, hkn, ekn⟩ := nI_of c_1
      have hkk : kn < kp := nc_nle (a := kp) (b := kn) (by rw [← ekn]; exact c_9) (by omega) (by omega)
      rw [ekn] at hl
      refine lv_aload_n hx hb dX3_madePage_12 rfl (lv_at hl 0 rfl) ?_
      refine my_get X hK in_X3_madePage_X3 hP 0 rfl rfl 0 (by decide) (List.mem_of_getElem? (i := 2) rfl) rfl dX3_madePage_13 ?_
      refine lv_aload_n hx hb dX3_madePage_16 rfl (lv_at hl 0 rfl) ?_
      refine my_get X hK in_X3_madePage_X3 hP 0 rfl rfl 2 (by decide) (List.mem_of_getElem? (i := 3) rfl) rfl dX3_madePage_17 ?_
      refine lv_iload_n hx hb dX3_madePage_20 rfl (lv_at hl 1 rfl) ?_
      refine lv_isub hx hb dX3_madePage_21 ?_
      refine lv_bipush (v := 8) hx hb dX3_madePage_22 (by decide) ?_
      have hPc := hP.sub (ws' := []) [] rfl
      refine my_rdi (my_runS (n := 2) (As := [.int (nI la - nI kn), .int 8]) (rest := [.ref pa]) X PR.blind (PR.pre hPc hK) (c_fmod l dC dI cI cJ cO (nI la - nI kn) ) gX3_madePage_J9_floorMod_7cf53 rfl rfl rfl (by decide +kernel) rfl ⟨Nat.le_of_ble_eq_true rfl, Nat.le_of_ble_eq_true rfl⟩ hl.1 rfl (Nat.le_of_ble_eq_true rfl) dX3_madePage_24 ⟨by first | decide | omega | (dsimp only; omega), by first | decide | omega | (dsimp only; omega)⟩) (fun r_1 hr_1 => ?_)
      subst hr_1
      refine my_topi (my_fm_m la hla kn (by omega)) ?_
      refine my_aldq (k := ((la + 8 - kn) % 8)) hx hb hK hP 1 rfl (rfl) (by omega) (by omega) dX3_madePage_27 ?_
      refine lv_goto (tgt := 32) hx hb dX3_madePage_28 (by decide) ?_
      exact my_qretR (r := (pf ((la + 8 - kn) % 8))) X (by rw [ekn, if_pos ⟨nI_pos (by omega), by intro q; exact absurd (nc_le (a := kp) (b := kn) q (by omega) (by omega)) (by omega)⟩, nI_clamp (by omega)]) dX3_madePage_32
theorem in_X3_clear_X3 : ∀ w ∈ wsX30, w ∈ wsX3_clear := fun _ h => List.mem_cons_of_mem _ (List.mem_append_right _ h)
set_option maxHeartbeats 200000 in
set_option maxRecDepth 100000 in
theorem c_shclear (l : Launch) (dC : Nat → ClassId) (dI : Nat → Nat → Nat) (cI cJ cO : ClassId) (hz : Nat) (sf : Nat) (pa : Nat) (kp : Nat) (la : Nat) (em : Int32) (pf : Nat → Option Nat)  : Met l yX3_clear wsX3_clear ({ frames := 0, cells := 0, slots := 0, locals := 0 }) (va_Pc [.ref sf] (PW dC dI cI cJ cO [(sf, .inr (3, [.ref pa, .int (nI kp), .int (nI la), .int em])), (pa, .inl (cO, 8, .inr (.inr (.inr (.inr pf)))))] hz)) (va_Qv (fun _ : Unit => True) (fun (_ : Unit) t9 => BW dC dI (va_A [(sf, .inr (3, [.ref pa, .int (nI kp), .int (nI la), .int em])), (pa, .inl (cO, 8, .inr (.inr (.inr (.inr pf)))))] hz) [(sf, .inr (3, [.ref pa, .int (nI 0), .int (nI la), .int em])), (pa, .inl (cO, 8, .inr (.inr (.inr (.inr pf)))))] t9) (va_A [(sf, .inr (3, [.ref pa, .int (nI kp), .int (nI la), .int em])), (pa, .inl (cO, 8, .inr (.inr (.inr (.inr pf)))))] hz)) 0 0 (va_A [(sf, .inr (3, [.ref pa, .int (nI kp), .int (nI la), .int em])), (pa, .inl (cO, 8, .inr (.inr (.inr (.inr pf)))))] hz) := by
  refine my_metW (ws := wsX3_clear) (cc := cX3_clear) (maxL := 1) (ret := none) (Qc := fun A => va_Qv (fun _ : Unit => True) (fun (_ : Unit) t9 => BW dC dI A [(sf, .inr (3, [.ref pa, .int (nI 0), .int (nI la), .int em])), (pa, .inl (cO, 8, .inr (.inr (.inr (.inr pf)))))] t9) A) (by decide) rfl (Nat.le_of_ble_eq_true rfl) ?_
  intro p e s m below meth c ls A X hl hK hA hP hD hS
  obtain ⟨hx, hb, hr, hml, hown, hts, hlocks, hnm⟩ := id X
  have hl : lv_has ls 1 [(0, .ref sf)] := hl
  refine lv_aload_n hx hb dX3_clear_0 rfl (lv_at hl 0 rfl) ?_
  refine lv_iconst (v := 0) hx hb dX3_clear_1 (by decide) ?_
  refine my_put X hK in_X3_clear_X3 tyX3 tyX3_ok nmX3 hP hD hS 0 rfl rfl 1 (by decide) (List.mem_of_getElem? (i := 1) rfl) rfl rfl rfl (Nat.le_of_ble_eq_true rfl) dX3_clear_2 (fun H locs hP hD hS => ?_)
  have hP : va_P (dC, dI) vwCl ([(sf, .inr (3, [.ref pa, .int 0, .int (nI la), .int em])), (pa, .inl (cO, 8, .inr (.inr (.inr (.inr pf)))))]) H := hP
  have hD : va_D A ([(sf, .inr (3, [.ref pa, .int 0, .int (nI la), .int em])), (pa, .inl (cO, 8, .inr (.inr (.inr (.inr pf)))))]) := hD
  exact my_vret (WSf := (fun _ : Unit => [(sf, .inr (3, [.ref pa, .int (nI 0), .int (nI la), .int em])), (pa, .inl (cO, 8, .inr (.inr (.inr (.inr pf)))))])) () X (trivial) (hP) (hD) hS (by first | decide | omega | (dsimp only; omega)) (by first | decide | omega | (dsimp only; omega)) dX3_clear_5
theorem in_X3_init_X3 : ∀ w ∈ wsX30, w ∈ wsX3_init := fun _ h => List.mem_cons_of_mem _ (List.mem_append_right _ h)
set_option maxHeartbeats 200000 in
set_option maxRecDepth 100000 in
theorem c_Shelf_init (l : Launch) (dC : Nat → ClassId) (dI : Nat → Nat → Nat) (cI cJ cO : ClassId) (hz : Nat) (sf : Nat)  : Met l yX3_init wsX3_init ({ frames := 1, cells := 1, slots := 8, locals := 12 }) (va_Pc [.ref sf] (PW dC dI cI cJ cO [(sf, .inr (3, [.null, .int 0, .int 0, .int 0]))] hz)) (va_Qv (fun q : Nat => True) (fun (q : Nat) t9 => BW dC dI (va_A [(sf, .inr (3, [.null, .int 0, .int 0, .int 0]))] hz) [(sf, .inr (3, [.ref q, .int (nI 0), .int (nI 0), .int 0])), (q, .inl (cO, 8, .inr (.inr (.inr (.inr (fun _ => none))))))] t9) (va_A [(sf, .inr (3, [.null, .int 0, .int 0, .int 0]))] hz)) 1 8 (va_A [(sf, .inr (3, [.null, .int 0, .int 0, .int 0]))] hz) := by
  refine my_metW (ws := wsX3_init) (cc := cX3_init) (maxL := 1) (ret := none) (Qc := fun A => va_Qv (fun q : Nat => True) (fun (q : Nat) t9 => BW dC dI A [(sf, .inr (3, [.ref q, .int (nI 0), .int (nI 0), .int 0])), (q, .inl (cO, 8, .inr (.inr (.inr (.inr (fun _ => none))))))] t9) A) (by decide) rfl (Nat.le_of_ble_eq_true rfl) ?_
  intro p e s m below meth c ls A X hl hK hA hP hD hS
  obtain ⟨hx, hb, hr, hml, hown, hts, hlocks, hnm⟩ := id X
  have hl : lv_has ls 1 [(0, .ref sf)] := hl
  refine lv_aload_n hx hb dX3_init_0 rfl (lv_at hl 0 rfl) ?_
  refine W.objInit hx hb hown (hts _ (List.mem_of_getElem? (i := 1) rfl)) (hts _ (List.mem_of_getElem? (i := 2) rfl)) (hts _ (List.mem_of_getElem? (i := 3) rfl)) rfl (by rw [hml]; exact hl.1) rfl dX3_init_1 (Nat.le_of_ble_eq_true rfl) (Nat.le_of_ble_eq_true rfl) ?_
  refine W.eq (g2 := F0 m 4 ls []) rfl ?_
  refine lv_aload_n hx hb dX3_init_4 rfl (lv_at hl 0 rfl) ?_
  refine lv_bipush (v := 8) hx hb dX3_init_5 (by decide) ?_
  refine my_newq (N := 8) X hK (List.mem_of_getElem? (i := 4) rfl) hP hD hS hA rfl (by decide) (by decide) (by first | decide | omega | (dsimp only; omega)) (by first | decide | omega | (dsimp only; omega)) dX3_init_7 (fun q_1 H hP hD hS => ?_)
  have hP : va_P (dC, dI) vwCl ([(sf, .inr (3, [.null, .int 0, .int 0, .int 0])), (q_1, .inl (cO, 8, .inr (.inr (.inr (.inr (fun _ => none))))))]) H := hP
  have hD : va_D A ([(sf, .inr (3, [.null, .int 0, .int 0, .int 0])), (q_1, .inl (cO, 8, .inr (.inr (.inr (.inr (fun _ => none))))))]) := hD
  refine my_putF X hK in_X3_init_X3 tyX3 tyX3_ok nmX3 hP hD hS 0 rfl rfl 0 (by decide) (List.mem_of_getElem? (i := 5) rfl) rfl rfl rfl rfl (Nat.le_of_ble_eq_true rfl) dX3_init_10 (fun H locs hP hD hS => ?_)
  have hP : va_P (dC, dI) vwCl ([(sf, .inr (3, [.ref q_1, .int 0, .int 0, .int 0])), (q_1, .inl (cO, 8, .inr (.inr (.inr (.inr (fun _ => none))))))]) H := hP
  have hD : va_D A ([(sf, .inr (3, [.ref q_1, .int 0, .int 0, .int 0])), (q_1, .inl (cO, 8, .inr (.inr (.inr (.inr (fun _ => none))))))]) := hD
  exact my_vret (WSf := (fun q : Nat => [(sf, .inr (3, [.ref q, .int (nI 0), .int (nI 0), .int 0])), (q, .inl (cO, 8, .inr (.inr (.inr (.inr (fun _ => none))))))])) q_1 X (trivial) (hP) (hD) hS (by first | decide | omega | (dsimp only; omega)) (by first | decide | omega | (dsimp only; omega)) dX3_init_13
