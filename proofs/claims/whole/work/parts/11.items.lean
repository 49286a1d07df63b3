theorem in_X0_size_X0 : ∀ w ∈ wsX00, w ∈ wsX0_size := fun _ h => List.mem_cons_of_mem _ (List.mem_append_right _ h)
set_option maxHeartbeats 200000 in
set_option maxRecDepth 100000 in
theorem c_size (l : Launch) (dC : Nat → ClassId) (dI : Nat → Nat → Nat) (cI cJ cO : ClassId) (o : Nat) (ar : Nat) (cap : Nat) (f : Nat → Int32) (sz : Nat)  : Met l yX0_size wsX0_size ({ frames := 0, cells := 0, slots := 0, locals := 0 }) (va_Pc [.ref o] (PR dC dI cI cJ cO [(o, .inr (0, [.ref ar, .int (nI sz)])), (ar, .inl (cI, (cap * 8), .inl f))])) (vp_Si (fun r : Int32 => r = nI sz)) 0 0 (fun _ => False) := by
  refine my_met (ws := wsX0_size) (cc := cX0_size) (maxL := 1) (ret := (some .int)) (by decide) rfl (Nat.le_of_ble_eq_true rfl) ?_
  intro p e s m below meth c ls X hl hv
  obtain ⟨hP, hK⟩ := hv
  obtain ⟨hx, hb, hr, hml, hown, hts, hlocks, hnm⟩ := id X
  have hl : lv_has ls 1 [(0, .ref o)] := hl
  refine lv_aload_n hx hb dX0_size_0 rfl (lv_at hl 0 rfl) ?_
  refine my_get X hK in_X0_size_X0 hP 0 rfl rfl 1 (by decide) (List.mem_of_getElem? (i := 1) rfl) rfl dX0_size_1 ?_
  exact my_iretR X (rfl) dX0_size_4
theorem in_X0_at_X0 : ∀ w ∈ wsX00, w ∈ wsX0_at := fun _ h => List.mem_cons_of_mem _ (List.mem_append_right _ h)
set_option maxHeartbeats 200000 in
set_option maxRecDepth 100000 in
theorem c_at (l : Launch) (dC : Nat → ClassId) (dI : Nat → Nat → Nat) (cI cJ cO : ClassId) (o : Nat) (ar : Nat) (cap : Nat) (f : Nat → Int32) (sz : Nat) (k : Nat) (j : Nat) (hk : k < sz) (hj : j < 8) (hsz : sz ≤ cap) (hcap : cap ≤ 4001) : Met l yX0_at wsX0_at ({ frames := 0, cells := 0, slots := 0, locals := 0 }) (va_Pc [.ref o, .int (nI k), .int (nI j)] (PR dC dI cI cJ cO [(o, .inr (0, [.ref ar, .int (nI sz)])), (ar, .inl (cI, (cap * 8), .inl f))])) (vp_Si (fun r : Int32 => r = f (k * 8 + j))) 0 0 (fun _ => False) := by
  refine my_met (ws := wsX0_at) (cc := cX0_at) (maxL := 4) (ret := (some .int)) (by decide) rfl (Nat.le_of_ble_eq_true rfl) ?_
  intro p e s m below meth c ls X hl hv
  obtain ⟨hP, hK⟩ := hv
  obtain ⟨hx, hb, hr, hml, hown, hts, hlocks, hnm⟩ := id X
  have hl : lv_has ls 4 [(0, .ref o), (1, .int (nI k)), (2, .int (nI j))] := hl
  refine lv_iload_n hx hb dX0_at_0 rfl (lv_at hl 1 rfl) ?_
  refine lv_bipush (v := 8) hx hb dX0_at_1 (by decide) ?_
  refine lv_imul hx hb dX0_at_3 ?_
  refine my_topi (pk_mul k 8) ?_
  refine lv_iload_n hx hb dX0_at_4 rfl (lv_at hl 2 rfl) ?_
  refine lv_iadd hx hb dX0_at_5 ?_
  refine my_topi (nI_add (k * 8) j) ?_
  refine lv_istore_n (lv' := [(3, .int (nI (k * 8 + j))), (0, .ref o), (1, .int (nI k)), (2, .int (nI j))]) hx hb dX0_at_6 rfl hl (by decide) rfl (fun ls hl => ?_)
  refine lv_iload_n hx hb dX0_at_7 rfl (lv_at hl 2 rfl) ?_
  refine lv_if_lt (tgt := 41) hx hb dX0_at_8 (by decide) (fun c_8 => ?_) (fun c_8 => ?_)
  · have c_8 := nc_lt (a := k) (b := 0) c_8 (by omega) (by omega)
    exact False.elim (by omega)
  · have c_8 := nc_nlt (a := k) (b := 0) c_8 (by omega) (by omega)
    refine lv_iload_n hx hb dX0_at_11 rfl (lv_at hl 2 rfl) ?_
    refine lv_aload_n hx hb dX0_at_12 rfl (lv_at hl 1 rfl) ?_
    refine my_get X hK in_X0_at_X0 hP 0 rfl rfl 1 (by decide) (List.mem_of_getElem? (i := 1) rfl) rfl dX0_at_13 ?_
    refine lv_icmp_ge (tgt := 41) hx hb dX0_at_16 (by decide) (fun c_16 => ?_) (fun c_16 => ?_)
    · have c_16 := nc_le (a := sz) (b := k) c_16 (by omega) (by omega)
      exact False.elim (by omega)
    · have c_16 := nc_nle (a := sz) (b := k) c_16 (by omega) (by omega)
      refine lv_iload_n hx hb dX0_at_19 rfl (lv_at hl 0 rfl) ?_
      refine lv_if_lt (tgt := 41) hx hb dX0_at_20 (by decide) (fun c_20 => ?_) (fun c_20 => ?_)
      · have c_20 := nc_lt (a := k * 8 + j) (b := 0) c_20 (by omega) (by omega)
        exact False.elim (by omega)
      · have c_20 := nc_nlt (a := k * 8 + j) (b := 0) c_20 (by omega) (by omega)
        refine lv_iload_n hx hb dX0_at_23 rfl (lv_at hl 0 rfl) ?_
        refine lv_aload_n hx hb dX0_at_24 rfl (lv_at hl 1 rfl) ?_
        refine my_get X hK in_X0_at_X0 hP 0 rfl rfl 0 (by decide) (List.mem_of_getElem? (i := 2) rfl) rfl dX0_at_25 ?_
        refine va_alen (v := nI (cap * 8)) hx hb hK.1 hP 1 0 rfl rfl rfl dX0_at_28 ?_
        refine lv_icmp_ge (tgt := 41) hx hb dX0_at_29 (by decide) (fun c_29 => ?_) (fun c_29 => ?_)
        · have c_29 := nc_le (a := cap * 8) (b := k * 8 + j) c_29 (by omega) (by omega)
          exact False.elim (by omega)
        · have c_29 := nc_nle (a := cap * 8) (b := k * 8 + j) c_29 (by omega) (by omega)
          refine lv_aload_n hx hb dX0_at_32 rfl (lv_at hl 1 rfl) ?_
          refine my_get X hK in_X0_at_X0 hP 0 rfl rfl 0 (by decide) (List.mem_of_getElem? (i := 2) rfl) rfl dX0_at_33 ?_
          refine lv_iload_n hx hb dX0_at_36 rfl (lv_at hl 0 rfl) ?_
          refine my_iald (k := (k * 8 + j)) hx hb hK hP 1 rfl (rfl) (by omega) (by omega) dX0_at_37 ?_
          refine lv_goto (tgt := 42) hx hb dX0_at_38 (by decide) ?_
          exact my_iretR X (rfl) dX0_at_42
theorem in_X0_put_X0 : ∀ w ∈ wsX00, w ∈ wsX0_put := fun _ h => List.mem_cons_of_mem _ (List.mem_append_right _ h)
set_option maxHeartbeats 200000 in
set_option maxRecDepth 100000 in
theorem c_put (l : Launch) (dC : Nat → ClassId) (dI : Nat → Nat → Nat) (cI cJ cO : ClassId) (hz : Nat) (o : Nat) (ar : Nat) (cap : Nat) (f : Nat → Int32) (sz : Nat) (k : Nat) (j : Nat) (v : Int32) (hk : k < sz) (hj : j < 8) (hsz : sz ≤ cap) (hcap : cap ≤ 4001) : Met l yX0_put wsX0_put ({ frames := 0, cells := 0, slots := 0, locals := 0 }) (va_Pc [.ref o, .int (nI k), .int (nI j), .int v] (PW dC dI cI cJ cO [(o, .inr (0, [.ref ar, .int (nI sz)])), (ar, .inl (cI, (cap * 8), .inl f))] hz)) (va_Qv (fun _ : Unit => True) (fun (_ : Unit) t9 => BW dC dI (va_A [(o, .inr (0, [.ref ar, .int (nI sz)])), (ar, .inl (cI, (cap * 8), .inl f))] hz) [(o, .inr (0, [.ref ar, .int (nI sz)])), (ar, .inl (cI, (cap * 8), .inl (upd f (k * 8 + j) v)))] t9) (va_A [(o, .inr (0, [.ref ar, .int (nI sz)])), (ar, .inl (cI, (cap * 8), .inl f))] hz)) 0 0 (va_A [(o, .inr (0, [.ref ar, .int (nI sz)])), (ar, .inl (cI, (cap * 8), .inl f))] hz) := by
  refine my_metW (ws := wsX0_put) (cc := cX0_put) (maxL := 5) (ret := none) (Qc := fun A => va_Qv (fun _ : Unit => True) (fun (_ : Unit) t9 => BW dC dI A [(o, .inr (0, [.ref ar, .int (nI sz)])), (ar, .inl (cI, (cap * 8), .inl (upd f (k * 8 + j) v)))] t9) A) (by decide) rfl (Nat.le_of_ble_eq_true rfl) ?_
  intro p e s m below meth c ls A X hl hK hA hP hD hS
  obtain ⟨hx, hb, hr, hml, hown, hts, hlocks, hnm⟩ := id X
  have hl : lv_has ls 5 [(0, .ref o), (1, .int (nI k)), (2, .int (nI j)), (3, .int v)] := hl
  refine lv_iload_n hx hb dX0_put_0 rfl (lv_at hl 1 rfl) ?_
  refine lv_bipush (v := 8) hx hb dX0_put_1 (by decide) ?_
  refine lv_imul hx hb dX0_put_3 ?_
  refine my_topi (pk_mul k 8) ?_
  refine lv_iload_n hx hb dX0_put_4 rfl (lv_at hl 2 rfl) ?_
  refine lv_iadd hx hb dX0_put_5 ?_
  refine my_topi (nI_add (k * 8) j) ?_
  refine lv_istore (lv' := [(4, .int (nI (k * 8 + j))), (0, .ref o), (1, .int (nI k)), (2, .int (nI j)), (3, .int v)]) hx hb dX0_put_6 hl (by decide) rfl (fun ls hl => ?_)
  refine lv_iload_n hx hb dX0_put_8 rfl (lv_at hl 2 rfl) ?_
  refine lv_if_lt (tgt := 43) hx hb dX0_put_9 (by decide) (fun c_9 => ?_) (fun c_9 => ?_)
  · have c_9 := nc_lt (a := k) (b := 0) c_9 (by omega) (by omega)
    exact False.elim (by omega)
  · have c_9 := nc_nlt (a := k) (b := 0) c_9 (by omega) (by omega)
    refine lv_iload_n hx hb dX0_put_12 rfl (lv_at hl 2 rfl) ?_
    refine lv_aload_n hx hb dX0_put_13 rfl (lv_at hl 1 rfl) ?_
    refine my_get X hK in_X0_put_X0 hP 0 rfl rfl 1 (by decide) (List.mem_of_getElem? (i := 1) rfl) rfl dX0_put_14 ?_
    refine lv_icmp_ge (tgt := 43) hx hb dX0_put_17 (by decide) (fun c_17 => ?_) (fun c_17 => ?_)
    · have c_17 := nc_le (a := sz) (b := k) c_17 (by omega) (by omega)
      exact False.elim (by omega)
    · have c_17 := nc_nle (a := sz) (b := k) c_17 (by omega) (by omega)
      refine lv_iload hx hb dX0_put_20 (lv_at hl 0 rfl) ?_
      refine lv_if_lt (tgt := 43) hx hb dX0_put_22 (by decide) (fun c_22 => ?_) (fun c_22 => ?_)
      · have c_22 := nc_lt (a := k * 8 + j) (b := 0) c_22 (by omega) (by omega)
        exact False.elim (by omega)
      · have c_22 := nc_nlt (a := k * 8 + j) (b := 0) c_22 (by omega) (by omega)
        refine lv_iload hx hb dX0_put_25 (lv_at hl 0 rfl) ?_
        refine lv_aload_n hx hb dX0_put_27 rfl (lv_at hl 1 rfl) ?_
        refine my_get X hK in_X0_put_X0 hP 0 rfl rfl 0 (by decide) (List.mem_of_getElem? (i := 2) rfl) rfl dX0_put_28 ?_
        refine va_alen (v := nI (cap * 8)) hx hb hK.1 hP 1 0 rfl rfl rfl dX0_put_31 ?_
        refine lv_icmp_ge (tgt := 43) hx hb dX0_put_32 (by decide) (fun c_32 => ?_) (fun c_32 => ?_)
        · have c_32 := nc_le (a := cap * 8) (b := k * 8 + j) c_32 (by omega) (by omega)
          exact False.elim (by omega)
        · have c_32 := nc_nle (a := cap * 8) (b := k * 8 + j) c_32 (by omega) (by omega)
          refine lv_aload_n hx hb dX0_put_35 rfl (lv_at hl 1 rfl) ?_
          refine my_get X hK in_X0_put_X0 hP 0 rfl rfl 0 (by decide) (List.mem_of_getElem? (i := 2) rfl) rfl dX0_put_36 ?_
          refine lv_iload hx hb dX0_put_39 (lv_at hl 0 rfl) ?_
          refine lv_iload_n hx hb dX0_put_41 rfl (lv_at hl 4 rfl) ?_
          refine my_iast (k := (k * 8 + j)) hx hb hK hP hD hS 1 rfl (rfl) (by omega) (by omega) dX0_put_42 (fun H locs hP hD hS => ?_)
          have hP : va_P (dC, dI) vwCl ([(o, .inr (0, [.ref ar, .int (nI sz)])), (ar, .inl (cI, (cap * 8), .inl (upd f (k * 8 + j) v)))]) H := hP
          have hD : va_D A ([(o, .inr (0, [.ref ar, .int (nI sz)])), (ar, .inl (cI, (cap * 8), .inl (upd f (k * 8 + j) v)))]) := hD
          exact my_vret (WSf := (fun _ : Unit => [(o, .inr (0, [.ref ar, .int (nI sz)])), (ar, .inl (cI, (cap * 8), .inl (upd f (k * 8 + j) v)))])) () X (trivial) (hP) (hD) hS (by first | decide | omega | (dsimp only; omega)) (by first | decide | omega | (dsimp only; omega)) dX0_put_43
set_option maxHeartbeats 200000 in
set_option maxRecDepth 100000 in
theorem c_copyOf (l : Launch) (dC : Nat → ClassId) (dI : Nat → Nat → Nat) (cI cJ cO : ClassId) (hz : Nat) (ar : Nat) (n : Nat) (f : Nat → Int32) (t : Nat) (h1 : n < t) (h2 : t ≤ 40000) : Met l yJ7_copyOf_59c91 wsJ7_copyOf_59c91 ({ frames := 1, cells := 1, slots := t, locals := 40 }) (va_Pc [.ref ar, .int (nI t)] (PW dC dI cI cJ cO [(ar, .inl (cI, n, .inl f))] hz)) (va_Qr (fun _ : Unit => True) (fun (_ : Unit) (ra : Nat) t9 => BW dC dI (va_A [(ar, .inl (cI, n, .inl f))] hz) [(ar, .inl (cI, n, .inl f)), (ra, .inl (cI, t, .inl (va_cpy f (fun _ => 0) 0 0 (min n t))))] t9) (va_A [(ar, .inl (cI, n, .inl f))] hz)) 1 t (va_A [(ar, .inl (cI, n, .inl f))] hz) := by
  refine my_metW (ws := wsJ7_copyOf_59c91) (cc := cJ7_copyOf_59c91) (maxL := 3) (ret := (some (.array .int))) (Qc := fun A => va_Qr (fun _ : Unit => True) (fun (_ : Unit) (ra : Nat) t9 => BW dC dI A [(ar, .inl (cI, n, .inl f)), (ra, .inl (cI, t, .inl (va_cpy f (fun _ => 0) 0 0 (min n t))))] t9) A) (by decide) rfl (Nat.le_of_ble_eq_true rfl) ?_
  intro p e s m below meth c ls A X hl hK hA hP hD hS
  obtain ⟨hx, hb, hr, hml, hown, hts, hlocks, hnm⟩ := id X
  have hl : lv_has ls 3 [(0, .ref ar), (1, .int (nI t))] := hl
  refine lv_iload_n hx hb dJ7_copyOf_59c91_0 rfl (lv_at hl 1 rfl) ?_
  refine lv_aload_n hx hb dJ7_copyOf_59c91_1 rfl (lv_at hl 0 rfl) ?_
  refine va_alen (v := nI n) hx hb hK.1 hP 0 0 rfl rfl rfl dJ7_copyOf_59c91_2 ?_
  refine lv_icmp_ne (tgt := 14) hx hb dJ7_copyOf_59c91_3 (by decide) (fun c_3 => ?_) (fun c_3 => ?_)
  · have c_3 := nc_ne (a := t) (b := n) c_3 (by omega) (by omega)
    refine lv_iload_n hx hb dJ7_copyOf_59c91_14 rfl (lv_at hl 1 rfl) ?_
    refine my_newi (N := t) X hK (List.mem_of_getElem? (i := 7) rfl) hP hD hS hA (rfl) (by omega) (by omega) (by first | decide | omega | (dsimp only; omega)) (by first | decide | omega | (dsimp only; omega)) dJ7_copyOf_59c91_15 (fun q_1 H hP hD hS => ?_)
    have hP : va_P (dC, dI) vwCl ([(ar, .inl (cI, n, .inl f)), (q_1, .inl (cI, t, .inl (fun _ => 0)))]) H := hP
    have hD : va_D A ([(ar, .inl (cI, n, .inl f)), (q_1, .inl (cI, t, .inl (fun _ => 0)))]) := hD
    refine lv_astore_n (lv' := [(2, .ref q_1), (0, .ref ar), (1, .int (nI t))]) hx hb dJ7_copyOf_59c91_17 rfl hl (by decide) rfl (fun ls hl => ?_)
    refine lv_aload_n hx hb dJ7_copyOf_59c91_18 rfl (lv_at hl 1 rfl) ?_
    refine lv_iconst (v := 0) hx hb dJ7_copyOf_59c91_19 (by decide) ?_
    refine lv_aload_n hx hb dJ7_copyOf_59c91_20 rfl (lv_at hl 0 rfl) ?_
    refine lv_iconst (v := 0) hx hb dJ7_copyOf_59c91_21 (by decide) ?_
    refine lv_aload_n hx hb dJ7_copyOf_59c91_22 rfl (lv_at hl 1 rfl) ?_
    refine va_alen (v := nI n) hx hb hK.1 hP 0 0 rfl rfl rfl dJ7_copyOf_59c91_23 ?_
    refine lv_iload_n hx hb dJ7_copyOf_59c91_24 rfl (lv_at hl 2 rfl) ?_
    refine va_mmin hx hb (hml.trans hl.1.symm) hown (hts _ (List.mem_of_getElem? (i := 8) rfl)) (hts _ (List.mem_of_getElem? (i := 9) rfl)) (hts _ (List.mem_of_getElem? (i := 10) rfl)) (hts _ (List.mem_of_getElem? (i := 11) rfl)) (Nat.le_of_ble_eq_true rfl) (Nat.le_of_ble_eq_true rfl) (by first | decide | omega | (dsimp only; omega)) (by first | decide | omega | (dsimp only; omega)) dJ7_copyOf_59c91_25 ?_
    refine my_topi (nI_min n t (by omega) (by omega)) ?_
    refine my_copyi (sp := 0) (dp := 0) (n := (min n t)) X hK (List.mem_of_getElem? (i := 12) rfl) (List.mem_of_getElem? (i := 13) rfl) (List.mem_of_getElem? (i := 14) rfl) (List.mem_of_getElem? (i := 15) rfl) hP hD hS 0 1 rfl rfl rfl rfl rfl (by omega) (by omega) (by omega) (by omega) (Nat.le_of_ble_eq_true rfl) (Nat.le_of_ble_eq_true rfl) hl.1 dJ7_copyOf_59c91_28 (fun H locs hP hD hS => ?_)
    have hP : va_P (dC, dI) vwCl ([(ar, .inl (cI, n, .inl f)), (q_1, .inl (cI, t, .inl (va_cpy f (fun _ => 0) 0 0 (min n t))))]) H := hP
    have hD : va_D A ([(ar, .inl (cI, n, .inl f)), (q_1, .inl (cI, t, .inl (va_cpy f (fun _ => 0) 0 0 (min n t))))]) := hD
    refine lv_aload_n hx hb dJ7_copyOf_59c91_31 rfl (lv_at hl 0 rfl) ?_
    exact my_aret (WSf := fun ra => [(ar, .inl (cI, n, .inl f)), (ra, .inl (cI, t, .inl (va_cpy f (fun _ => 0) 0 0 (min n t))))]) X (hP.sub [0, 1] rfl) (hD.sub [0, 1] (by decide) rfl) hS (by first | decide | omega | (dsimp only; omega)) (by first | decide | omega | (dsimp only; omega)) dJ7_copyOf_59c91_32
  · have c_3 := nc_eq (a := t) (b := n) c_3 (by omega) (by omega)
    exact False.elim (by omega)
theorem in_X0_makeRoom_X0 : ∀ w ∈ wsX00, w ∈ wsX0_makeRoom := fun _ h => List.mem_cons_of_mem _ (List.mem_append_right _ h)
set_option maxHeartbeats 200000 in
set_option maxRecDepth 100000 in
theorem c_makeRoom (l : Launch) (dC : Nat → ClassId) (dI : Nat → Nat → Nat) (cI cJ cO : ClassId) (hz : Nat) (o : Nat) (ar : Nat) (cap : Nat) (f : Nat → Int32) (sz : Nat) (t : Nat) (ht : t ≤ 4001) (hcap : cap ≤ 4001) : Met l yX0_makeRoom wsX0_makeRoom ({ frames := 2, cells := gmc t cap, slots := gms t cap, locals := 62 }) (va_Pc [.ref o, .int (nI t)] (PW dC dI cI cJ cO [(o, .inr (0, [.ref ar, .int (nI sz)])), (ar, .inl (cI, (cap * 8), .inl f))] hz)) (va_Qv (fun u : Nat × Nat × (Nat → Int32) => u.2.1 = gcap t cap ∧ ∀ j, j < cap * 8 → u.2.2 j = f j) (fun (u : Nat × Nat × (Nat → Int32)) t9 => BW dC dI (va_A [(o, .inr (0, [.ref ar, .int (nI sz)])), (ar, .inl (cI, (cap * 8), .inl f))] hz) [(o, .inr (0, [.ref u.1, .int (nI sz)])), (u.1, .inl (cI, (u.2.1 * 8), .inl u.2.2))] t9) (va_A [(o, .inr (0, [.ref ar, .int (nI sz)])), (ar, .inl (cI, (cap * 8), .inl f))] hz)) (gmc t cap) (gms t cap) (va_A [(o, .inr (0, [.ref ar, .int (nI sz)])), (ar, .inl (cI, (cap * 8), .inl f))] hz) := by
  refine my_metW (ws := wsX0_makeRoom) (cc := cX0_makeRoom) (maxL := 3) (ret := none) (Qc := fun A => va_Qv (fun u : Nat × Nat × (Nat → Int32) => u.2.1 = gcap t cap ∧ ∀ j, j < cap * 8 → u.2.2 j = f j) (fun (u : Nat × Nat × (Nat → Int32)) t9 => BW dC dI A [(o, .inr (0, [.ref u.1, .int (nI sz)])), (u.1, .inl (cI, (u.2.1 * 8), .inl u.2.2))] t9) A) (by decide) rfl (Nat.le_of_ble_eq_true rfl) ?_
  intro p e s m below meth c ls A X hl hK hA hP hD hS
  obtain ⟨hx, hb, hr, hml, hown, hts, hlocks, hnm⟩ := id X
  have hl : lv_has ls 3 [(0, .ref o), (1, .int (nI t))] := hl
  refine lv_iload_n hx hb dX0_makeRoom_0 rfl (lv_at hl 1 rfl) ?_
  refine lv_bipush (v := 8) hx hb dX0_makeRoom_1 (by decide) ?_
  refine lv_imul hx hb dX0_makeRoom_3 ?_
  refine my_topi (pk_mul t 8) ?_
  refine lv_aload_n hx hb dX0_makeRoom_4 rfl (lv_at hl 0 rfl) ?_
  refine my_get X hK in_X0_makeRoom_X0 hP 0 rfl rfl 0 (by decide) (List.mem_of_getElem? (i := 1) rfl) rfl dX0_makeRoom_5 ?_
  refine va_alen (v := nI (cap * 8)) hx hb hK.1 hP 1 0 rfl rfl rfl dX0_makeRoom_8 ?_
  refine lv_icmp_le (tgt := 19) hx hb dX0_makeRoom_9 (by decide) (fun c_9 => ?_) (fun c_9 => ?_)
  · have c_9 := nc_le (a := t * 8) (b := cap * 8) c_9 (by omega) (by omega)
    exact my_vret (WSf := (fun u : Nat × Nat × (Nat → Int32) => [(o, .inr (0, [.ref u.1, .int (nI sz)])), (u.1, .inl (cI, (u.2.1 * 8), .inl u.2.2))])) (ar, cap, f) X (⟨by unfold gcap; rw [if_pos (by omega)], fun _ _ => rfl⟩) (hP) (hD) hS (by first | exact Nat.zero_le _ | (rw [hg]; decide)) (by first | exact Nat.zero_le _ | (rw [hgs]; omega)) dX0_makeRoom_19
  · have c_9 := nc_nle (a := t * 8) (b := cap * 8) c_9 (by omega) (by omega)
    refine lv_iload_n hx hb dX0_makeRoom_12 rfl (lv_at hl 1 rfl) ?_
    refine lv_sipush (v := 4001) hx hb dX0_makeRoom_13 (by decide) ?_
    refine lv_icmp_le (tgt := 20) hx hb dX0_makeRoom_16 (by decide) (fun c_16 => ?_) (fun c_16 => ?_)
    · have c_16 := nc_le (a := t) (b := 4001) c_16 (by omega) (by omega)
      have hg : gmc t cap = 1 := if_neg (by omega)
      have hgs : gms t cap = 8 * min 4001 (max t (2 * cap)) := if_neg (by omega)
      refine lv_sipush (v := 4001) hx hb dX0_makeRoom_20 (by decide) ?_
      refine lv_iload_n hx hb dX0_makeRoom_23 rfl (lv_at hl 1 rfl) ?_
      refine lv_iconst (v := 2) hx hb dX0_makeRoom_24 (by decide) ?_
      refine lv_aload_n hx hb dX0_makeRoom_25 rfl (lv_at hl 0 rfl) ?_
      refine my_get X hK in_X0_makeRoom_X0 hP 0 rfl rfl 0 (by decide) (List.mem_of_getElem? (i := 1) rfl) rfl dX0_makeRoom_26 ?_
      refine va_alen (v := nI (cap * 8)) hx hb hK.1 hP 1 0 rfl rfl rfl dX0_makeRoom_29 ?_
      refine lv_bipush (v := 8) hx hb dX0_makeRoom_30 (by decide) ?_
      refine lv_idiv hx hb dX0_makeRoom_32 (by decide) ?_
      refine my_topi (pk_div (a := cap * 8) (d := 8) (by omega) (by decide) (by decide)) ?_
      refine lv_imul hx hb dX0_makeRoom_33 ?_
      refine my_topi (pk_mul 2 ((cap * 8) / 8)) ?_
      refine va_mmax hx hb (hml.trans hl.1.symm) hown (hts _ (List.mem_of_getElem? (i := 2) rfl)) (hts _ (List.mem_of_getElem? (i := 3) rfl)) (hts _ (List.mem_of_getElem? (i := 4) rfl)) (hts _ (List.mem_of_getElem? (i := 5) rfl)) (Nat.le_of_ble_eq_true rfl) (Nat.le_of_ble_eq_true rfl) (by first | decide | omega | (dsimp only; omega)) (by first | decide | omega | (dsimp only; omega)) dX0_makeRoom_34 ?_
      refine my_topi (nI_max t (2 * ((cap * 8) / 8)) (by omega) (by omega)) ?_
      refine va_mmin hx hb (hml.trans hl.1.symm) hown (hts _ (List.mem_of_getElem? (i := 6) rfl)) (hts _ (List.mem_of_getElem? (i := 7) rfl)) (hts _ (List.mem_of_getElem? (i := 4) rfl)) (hts _ (List.mem_of_getElem? (i := 8) rfl)) (Nat.le_of_ble_eq_true rfl) (Nat.le_of_ble_eq_true rfl) (by first | decide | omega | (dsimp only; omega)) (by first | decide | omega | (dsimp only; omega)) dX0_makeRoom_37 ?_
      refine my_topi (nI_min 4001 (max t (2 * ((cap * 8) / 8))) (by omega) (by omega)) ?_
      refine lv_istore_n (lv' := [(2, .int (nI (min 4001 (max t (2 * ((cap * 8) / 8)))))), (0, .ref o), (1, .int (nI t))]) hx hb dX0_makeRoom_40 rfl hl (by decide) rfl (fun ls hl => ?_)
      refine lv_aload_n hx hb dX0_makeRoom_41 rfl (lv_at hl 1 rfl) ?_
      refine lv_aload_n hx hb dX0_makeRoom_42 rfl (lv_at hl 1 rfl) ?_
      refine my_get X hK in_X0_makeRoom_X0 hP 0 rfl rfl 0 (by decide) (List.mem_of_getElem? (i := 1) rfl) rfl dX0_makeRoom_43 ?_
      refine lv_iload_n hx hb dX0_makeRoom_46 rfl (lv_at hl 0 rfl) ?_
      refine lv_bipush (v := 8) hx hb dX0_makeRoom_47 (by decide) ?_
      refine lv_imul hx hb dX0_makeRoom_49 ?_
      refine my_topi (pk_mul (min 4001 (max t (2 * ((cap * 8) / 8)))) 8) ?_
      have hPc := hP.sub (ws' := [(ar, .inl (cI, (cap * 8), .inl f))]) [1] rfl
      have hDc := hD.sub (ws' := [(ar, .inl (cI, (cap * 8), .inl f))]) [1] (by decide) rfl
      refine my_callr (ws := [(o, .inr (0, [.ref ar, .int (nI sz)])), (ar, .inl (cI, (cap * 8), .inl f))]) (F := []) (wr := [(o, .inr (0, [.ref ar, .int (nI sz)]))]) (my_runS (n := 2) (As := [.ref ar, .int (nI ((min 4001 (max t (2 * ((cap * 8) / 8)))) * 8))]) (rest := [.ref o]) X PW.blind (PW.pre hPc hDc hK) (c_copyOf l dC dI cI cJ cO _ ar (cap * 8) f ((min 4001 (max t (2 * ((cap * 8) / 8)))) * 8) (by omega) (by omega)) gX0_makeRoom_J7_copyOf_59c91 rfl rfl rfl (by decide +kernel) rfl ⟨Nat.le_of_ble_eq_true rfl, Nat.le_of_ble_eq_true rfl⟩ hl.1 rfl (Nat.le_of_ble_eq_true rfl) dX0_makeRoom_50 ⟨by show 0 + 1 ≤ gmc t cap; rw [hg]; decide, by show 0 + _ ≤ gms t cap; rw [hgs]; omega⟩) hS hP hD hA [1] [0] rfl rfl (by decide) (by decide) (fun q_3 H locs hP hD hS => ?_)
      have hP : va_P (dC, dI) vwCl [(o, .inr (0, [.ref ar, .int (nI sz)])), (ar, .inl (cI, (cap * 8), .inl f)), (q_3, .inl (cI, ((min 4001 (max t (2 * ((cap * 8) / 8)))) * 8), .inl (va_cpy f (fun _ => 0) 0 0 (min (cap * 8) ((min 4001 (max t (2 * ((cap * 8) / 8)))) * 8)))))] H := hP.sub [0, 1, 2] rfl
      have hD : va_D A [(o, .inr (0, [.ref ar, .int (nI sz)])), (ar, .inl (cI, (cap * 8), .inl f)), (q_3, .inl (cI, ((min 4001 (max t (2 * ((cap * 8) / 8)))) * 8), .inl (va_cpy f (fun _ => 0) 0 0 (min (cap * 8) ((min 4001 (max t (2 * ((cap * 8) / 8)))) * 8)))))] := hD.sub [0, 1, 2] (by decide) rfl
      refine my_put X hK in_X0_makeRoom_X0 tyX0 tyX0_ok nmX0 hP hD hS 0 rfl rfl 0 (by decide) (List.mem_of_getElem? (i := 1) rfl) rfl rfl rfl (Nat.le_of_ble_eq_true rfl) dX0_makeRoom_53 (fun H locs hP hD hS => ?_)
      have hP : va_P (dC, dI) vwCl ([(o, .inr (0, [.ref q_3, .int (nI sz)])), (ar, .inl (cI, (cap * 8), .inl f)), (q_3, .inl (cI, ((min 4001 (max t (2 * ((cap * 8) / 8)))) * 8), .inl (va_cpy f (fun _ => 0) 0 0 (min (cap * 8) ((min 4001 (max t (2 * ((cap * 8) / 8)))) * 8)))))]) H := hP
      have hD : va_D A ([(o, .inr (0, [.ref q_3, .int (nI sz)])), (ar, .inl (cI, (cap * 8), .inl f)), (q_3, .inl (cI, ((min 4001 (max t (2 * ((cap * 8) / 8)))) * 8), .inl (va_cpy f (fun _ => 0) 0 0 (min (cap * 8) ((min 4001 (max t (2 * ((cap * 8) / 8)))) * 8)))))]) := hD
      exact my_vret (WSf := (fun u : Nat × Nat × (Nat → Int32) => [(o, .inr (0, [.ref u.1, .int (nI sz)])), (u.1, .inl (cI, (u.2.1 * 8), .inl u.2.2))])) (q_3, min 4001 (max t (2 * (cap * 8 / 8))), va_cpy f (fun _ => 0) 0 0 (min (cap * 8) ((min 4001 (max t (2 * ((cap * 8) / 8)))) * 8))) X (⟨by unfold gcap; rw [if_neg (by omega)]; simp, fun j hj => by show va_cpy f (fun _ => 0) 0 0 (min (cap * 8) (min 4001 (max t (2 * (cap * 8 / 8))) * 8)) j = f j; exact sb_cpy0 (by omega)⟩) (hP.sub [0, 2] rfl) (hD.sub [0, 2] (by decide) rfl) hS (by first | exact Nat.zero_le _ | (rw [hg]; decide)) (by first | exact Nat.zero_le _ | (rw [hgs]; omega)) dX0_makeRoom_56
    · have c_16 := nc_nle (a := t) (b := 4001) c_16 (by omega) (by omega)
      exact False.elim (by omega)
theorem in_X0_append_X0 : ∀ w ∈ wsX00, w ∈ wsX0_append := fun _ h => List.mem_cons_of_mem _ (List.mem_append_right _ h)
set_option maxHeartbeats 200000 in
set_option maxRecDepth 100000 in
theorem c_append (l : Launch) (dC : Nat → ClassId) (dI : Nat → Nat → Nat) (cI cJ cO : ClassId) (hz : Nat) (o : Nat) (ar : Nat) (cap : Nat) (f : Nat → Int32) (sz : Nat) (h1 : sz + 1 ≤ 4001) (hsz : sz ≤ cap) (hcap : cap ≤ 4001) : Met l yX0_append wsX0_append ({ frames := 3, cells := gmc (sz + 1) cap, slots := gms (sz + 1) cap, locals := 84 }) (va_Pc [.ref o] (PW dC dI cI cJ cO [(o, .inr (0, [.ref ar, .int (nI sz)])), (ar, .inl (cI, (cap * 8), .inl f))] hz)) (va_Qi (fun r : Int32 => fun u : Nat × Nat × (Nat → Int32) => r = nI sz ∧ u.2.1 = gcap (sz + 1) cap ∧ ∀ j, j < cap * 8 → u.2.2 j = f j) (fun (u : Nat × Nat × (Nat → Int32)) t9 => BW dC dI (va_A [(o, .inr (0, [.ref ar, .int (nI sz)])), (ar, .inl (cI, (cap * 8), .inl f))] hz) [(o, .inr (0, [.ref u.1, .int (nI (sz + 1))])), (u.1, .inl (cI, (u.2.1 * 8), .inl u.2.2))] t9) (va_A [(o, .inr (0, [.ref ar, .int (nI sz)])), (ar, .inl (cI, (cap * 8), .inl f))] hz)) (gmc (sz + 1) cap) (gms (sz + 1) cap) (va_A [(o, .inr (0, [.ref ar, .int (nI sz)])), (ar, .inl (cI, (cap * 8), .inl f))] hz) := by
  refine my_metW (ws := wsX0_append) (cc := cX0_append) (maxL := 1) (ret := (some .int)) (Qc := fun A => va_Qi (fun r : Int32 => fun u : Nat × Nat × (Nat → Int32) => r = nI sz ∧ u.2.1 = gcap (sz + 1) cap ∧ ∀ j, j < cap * 8 → u.2.2 j = f j) (fun (u : Nat × Nat × (Nat → Int32)) t9 => BW dC dI A [(o, .inr (0, [.ref u.1, .int (nI (sz + 1))])), (u.1, .inl (cI, (u.2.1 * 8), .inl u.2.2))] t9) A) (by decide) rfl (Nat.le_of_ble_eq_true rfl) ?_
  intro p e s m below meth c ls A X hl hK hA hP hD hS
  obtain ⟨hx, hb, hr, hml, hown, hts, hlocks, hnm⟩ := id X
  have hl : lv_has ls 1 [(0, .ref o)] := hl
  refine lv_aload_n hx hb dX0_append_0 rfl (lv_at hl 0 rfl) ?_
  refine lv_aload_n hx hb dX0_append_1 rfl (lv_at hl 0 rfl) ?_
  refine my_get X hK in_X0_append_X0 hP 0 rfl rfl 1 (by decide) (List.mem_of_getElem? (i := 1) rfl) rfl dX0_append_2 ?_
  refine lv_iconst (v := 1) hx hb dX0_append_5 (by decide) ?_
  refine lv_iadd hx hb dX0_append_6 ?_
  refine my_topi (nI_add sz 1) ?_
  have hPc := hP.sub (ws' := [(o, .inr (0, [.ref ar, .int (nI sz)])), (ar, .inl (cI, (cap * 8), .inl f))]) [0, 1] rfl
  have hDc := hD.sub (ws' := [(o, .inr (0, [.ref ar, .int (nI sz)])), (ar, .inl (cI, (cap * 8), .inl f))]) [0, 1] (by decide) rfl
  refine my_callv (ws := [(o, .inr (0, [.ref ar, .int (nI sz)])), (ar, .inl (cI, (cap * 8), .inl f))]) (F := []) (wr := []) (my_runV (n := 1) (As := [.int (nI (sz + 1))]) (rest := []) (C := RX0) X PW.blind (PW.pre hPc hDc hK) (va_recv hK.1 hPc (ci := 0) (q0 := 0) rfl rfl) (c_makeRoom l dC dI cI cJ cO _ o ar cap f sz (sz + 1) (by omega) (by omega)) gX0_append_X0_makeRoom rfl rfl rfl (by decide +kernel) rfl ⟨Nat.le_of_ble_eq_true rfl, Nat.le_of_ble_eq_true rfl⟩ hl.1 rfl (Nat.le_of_ble_eq_true rfl) dX0_append_7 ⟨by show 0 + _ ≤ gmc (sz + 1) cap; omega, by show 0 + _ ≤ gms (sz + 1) cap; omega⟩) hS hP hD hA [0, 1] [] rfl rfl (by decide) (by decide) (fun u H locs hw_1 hP hD hS => ?_)
  obtain ⟨ar1_2, cap1_3, f1_4⟩ := u
  try dsimp only at hw_1
  have hP : va_P (dC, dI) vwCl [(o, .inr (0, [.ref ar1_2, .int (nI sz)])), (ar1_2, .inl (cI, (cap1_3 * 8), .inl f1_4))] H := hP.sub [0, 1] rfl
  have hD : va_D A [(o, .inr (0, [.ref ar1_2, .int (nI sz)])), (ar1_2, .inl (cI, (cap1_3 * 8), .inl f1_4))] := hD.sub [0, 1] (by decide) rfl
  have hge := gcap_ge (sz + 1) cap h1
  have hle := gcap_le (sz + 1) cap hcap
  obtain ⟨hc1, hf1⟩ := hw_1
  refine lv_aload_n hx hb dX0_append_10 rfl (lv_at hl 0 rfl) ?_
  refine my_get X hK in_X0_append_X0 hP 0 rfl rfl 1 (by decide) (List.mem_of_getElem? (i := 1) rfl) rfl dX0_append_11 ?_
  refine lv_iconst (v := 1) hx hb dX0_append_14 (by decide) ?_
  refine lv_iadd hx hb dX0_append_15 ?_
  refine my_topi (nI_add sz 1) ?_
  refine lv_bipush (v := 8) hx hb dX0_append_16 (by decide) ?_
  refine lv_imul hx hb dX0_append_18 ?_
  refine my_topi (pk_mul (sz + 1) 8) ?_
  refine lv_aload_n hx hb dX0_append_19 rfl (lv_at hl 0 rfl) ?_
  refine my_get X hK in_X0_append_X0 hP 0 rfl rfl 0 (by decide) (List.mem_of_getElem? (i := 2) rfl) rfl dX0_append_20 ?_
  refine va_alen (v := nI (cap1_3 * 8)) hx hb hK.1 hP 1 0 rfl rfl rfl dX0_append_23 ?_
  refine lv_icmp_gt (tgt := 37) hx hb dX0_append_24 (by decide) (fun c_24 => ?_) (fun c_24 => ?_)
  · have c_24 := nc_lt (a := cap1_3 * 8) (b := (sz + 1) * 8) c_24 (by omega) (by omega)
    exact False.elim (by omega)
  · have c_24 := nc_nlt (a := cap1_3 * 8) (b := (sz + 1) * 8) c_24 (by omega) (by omega)
    refine lv_aload_n hx hb dX0_append_27 rfl (lv_at hl 0 rfl) ?_
    refine lv_dup hx hb dX0_append_28 rfl ?_
    refine my_get X hK in_X0_append_X0 hP 0 rfl rfl 1 (by decide) (List.mem_of_getElem? (i := 1) rfl) rfl dX0_append_29 ?_
    refine lv_iconst (v := 1) hx hb dX0_append_32 (by decide) ?_
    refine lv_iadd hx hb dX0_append_33 ?_
    refine my_topi (nI_add sz 1) ?_
    refine my_put X hK in_X0_append_X0 tyX0 tyX0_ok nmX0 hP hD hS 0 rfl rfl 1 (by decide) (List.mem_of_getElem? (i := 1) rfl) rfl rfl rfl (Nat.le_of_ble_eq_true rfl) dX0_append_34 (fun H locs hP hD hS => ?_)
    have hP : va_P (dC, dI) vwCl ([(o, .inr (0, [.ref ar1_2, .int (nI (sz + 1))])), (ar1_2, .inl (cI, (cap1_3 * 8), .inl f1_4))]) H := hP
    have hD : va_D A ([(o, .inr (0, [.ref ar1_2, .int (nI (sz + 1))])), (ar1_2, .inl (cI, (cap1_3 * 8), .inl f1_4))]) := hD
    refine lv_aload_n hx hb dX0_append_37 rfl (lv_at hl 0 rfl) ?_
    refine my_get X hK in_X0_append_X0 hP 0 rfl rfl 1 (by decide) (List.mem_of_getElem? (i := 1) rfl) rfl dX0_append_38 ?_
    refine lv_iconst (v := 1) hx hb dX0_append_41 (by decide) ?_
    refine lv_isub hx hb dX0_append_42 ?_
    refine my_topi (pk_sub (a := sz + 1) (b := 1) (by omega)) ?_
    exact my_iret (WSf := (fun u : Nat × Nat × (Nat → Int32) => [(o, .inr (0, [.ref u.1, .int (nI (sz + 1))])), (u.1, .inl (cI, (u.2.1 * 8), .inl u.2.2))])) (ar1_2, cap1_3, f1_4) X (⟨by simp, hc1, hf1⟩) (hP) (hD) hS (by omega) (by omega) dX0_append_43
