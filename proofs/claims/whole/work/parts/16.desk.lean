theorem in_X5_page_X5 : ∀ w ∈ wsX50, w ∈ wsX5_page := fun _ h => List.mem_cons_of_mem _ (List.mem_append_right _ h)
set_option maxHeartbeats 200000 in
set_option maxRecDepth 100000 in
theorem c_page (l : Launch) (dC : Nat → ClassId) (dI : Nat → Nat → Nat) (cI cJ cO : ClassId) (hz : Nat) (dk : Nat) (th : Int32) (td : Int32) (tw : Int32) (ts : Int32) (to : Int32) (tz : Int32) (nx : Nat) (o : Nat) (pg : Nat) (sf : Nat) (su2 : Nat) (h : Int32) (d : Int32)  : Met l yX5_page wsX5_page ({ frames := 1, cells := 0, slots := 0, locals := 21 }) (va_Pc [.ref dk, .int h, .int d] (PW dC dI cI cJ cO [(dk, .inr (5, [.int th, .int td, .int tw, .int ts, .int to, .int tz, .ref o, .ref pg, .ref sf, .ref su2, .int (nI nx)]))] hz)) (va_Qi (fun r : Int32 => fun u : Int32 × Int32 => u.1 = (if pgd h d = 1 then h else th) ∧ u.2 = (if pgd h d = 1 then d else td) ∧ r = pgd h d) (fun (u : Int32 × Int32) t9 => BW dC dI (va_A [(dk, .inr (5, [.int th, .int td, .int tw, .int ts, .int to, .int tz, .ref o, .ref pg, .ref sf, .ref su2, .int (nI nx)]))] hz) [(dk, .inr (5, [.int u.1, .int u.2, .int tw, .int ts, .int to, .int tz, .ref o, .ref pg, .ref sf, .ref su2, .int (nI nx)]))] t9) (va_A [(dk, .inr (5, [.int th, .int td, .int tw, .int ts, .int to, .int tz, .ref o, .ref pg, .ref sf, .ref su2, .int (nI nx)]))] hz)) 0 0 (va_A [(dk, .inr (5, [.int th, .int td, .int tw, .int ts, .int to, .int tz, .ref o, .ref pg, .ref sf, .ref su2, .int (nI nx)]))] hz) := by
  refine my_metW (ws := wsX5_page) (cc := cX5_page) (maxL := 3) (ret := (some .boolean)) (Qc := fun A => va_Qi (fun r : Int32 => fun u : Int32 × Int32 => u.1 = (if pgd h d = 1 then h else th) ∧ u.2 = (if pgd h d = 1 then d else td) ∧ r = pgd h d) (fun (u : Int32 × Int32) t9 => BW dC dI A [(dk, .inr (5, [.int u.1, .int u.2, .int tw, .int ts, .int to, .int tz, .ref o, .ref pg, .ref sf, .ref su2, .int (nI nx)]))] t9) A) (by decide) rfl (Nat.le_of_ble_eq_true rfl) ?_
  intro p e s m below meth c ls A X hl hK hA hP hD hS
  obtain ⟨hx, hb, hr, hml, hown, hts, hlocks, hnm⟩ := id X
  have hl : lv_has ls 3 [(0, .ref dk), (1, .int h), (2, .int d)] := hl
  refine lv_iload_n hx hb dX5_page_0 rfl (lv_at hl 1 rfl) ?_
  refine lv_i2l (v := h.toInt64) hx hb dX5_page_1 rfl ?_
  have hPc := hP.sub (ws' := []) [] rfl
  refine my_rdi (my_runS (n := 1) (As := [.long h.toInt64]) (rest := []) X PR.blind (PR.pre hPc hK) (c_isSize l dC dI cI cJ cO h.toInt64 ) gX5_page_X5_isSize rfl rfl rfl (by decide +kernel) rfl ⟨Nat.le_of_ble_eq_true rfl, Nat.le_of_ble_eq_true rfl⟩ hl.1 rfl (Nat.le_of_ble_eq_true rfl) dX5_page_2 ⟨by first | decide | omega | (dsimp only; omega), by first | decide | omega | (dsimp only; omega)⟩) (fun r_1 hr_1 => ?_)
  subst hr_1
  refine lv_if_eq (tgt := 20) hx hb dX5_page_5 (by decide) (fun c_5 => ?_) (fun c_5 => ?_)
  · refine lv_iconst (v := 0) hx hb dX5_page_20 (by decide) ?_
    exact my_zret (WSf := (fun u : Int32 × Int32 => [(dk, .inr (5, [.int u.1, .int u.2, .int tw, .int ts, .int to, .int tz, .ref o, .ref pg, .ref sf, .ref su2, .int (nI nx)]))])) (th, td) X rfl (by simp [pgd, c_5]) (hP) (hD) hS (by first | decide | omega | (dsimp only; omega)) (by first | decide | omega | (dsimp only; omega)) dX5_page_21
  · have c_5 := b01n (szL_01 h.toInt64) c_5
    refine lv_iload_n hx hb dX5_page_8 rfl (lv_at hl 2 rfl) ?_
    refine lv_i2l (v := d.toInt64) hx hb dX5_page_9 rfl ?_
    have hPc := hP.sub (ws' := []) [] rfl
    refine my_rdi (my_runS (n := 1) (As := [.long d.toInt64]) (rest := []) X PR.blind (PR.pre hPc hK) (c_isSize l dC dI cI cJ cO d.toInt64 ) gX5_page_X5_isSize rfl rfl rfl (by decide +kernel) rfl ⟨Nat.le_of_ble_eq_true rfl, Nat.le_of_ble_eq_true rfl⟩ hl.1 rfl (Nat.le_of_ble_eq_true rfl) dX5_page_10 ⟨by first | decide | omega | (dsimp only; omega), by first | decide | omega | (dsimp only; omega)⟩) (fun r_2 hr_2 => ?_)
    subst hr_2
    refine lv_if_eq (tgt := 20) hx hb dX5_page_13 (by decide) (fun c_13 => ?_) (fun c_13 => ?_)
    · refine lv_iconst (v := 0) hx hb dX5_page_20 (by decide) ?_
      exact my_zret (WSf := (fun u : Int32 × Int32 => [(dk, .inr (5, [.int u.1, .int u.2, .int tw, .int ts, .int to, .int tz, .ref o, .ref pg, .ref sf, .ref su2, .int (nI nx)]))])) (th, td) X rfl (by simp [pgd, c_5, c_13]) (hP) (hD) hS (by first | decide | omega | (dsimp only; omega)) (by first | decide | omega | (dsimp only; omega)) dX5_page_21
    · have c_13 := b01n (szL_01 d.toInt64) c_13
      refine lv_iload_n hx hb dX5_page_16 rfl (lv_at hl 2 rfl) ?_
      refine lv_if_ge (tgt := 22) hx hb dX5_page_17 (by decide) (fun c_17 => ?_) (fun c_17 => ?_)
      · refine lv_aload_n hx hb dX5_page_22 rfl (lv_at hl 0 rfl) ?_
        refine lv_iload_n hx hb dX5_page_23 rfl (lv_at hl 1 rfl) ?_
        refine my_put X hK in_X5_page_X5 tyX5 tyX5_ok nmX5 hP hD hS 0 rfl rfl 0 (by decide) (List.mem_of_getElem? (i := 1) rfl) rfl rfl rfl (Nat.le_of_ble_eq_true rfl) dX5_page_24 (fun H locs hP hD hS => ?_)
        have hP : va_P (dC, dI) vwCl ([(dk, .inr (5, [.int h, .int td, .int tw, .int ts, .int to, .int tz, .ref o, .ref pg, .ref sf, .ref su2, .int (nI nx)]))]) H := hP
        have hD : va_D A ([(dk, .inr (5, [.int h, .int td, .int tw, .int ts, .int to, .int tz, .ref o, .ref pg, .ref sf, .ref su2, .int (nI nx)]))]) := hD
        refine lv_aload_n hx hb dX5_page_27 rfl (lv_at hl 0 rfl) ?_
        refine lv_iload_n hx hb dX5_page_28 rfl (lv_at hl 2 rfl) ?_
        refine my_put X hK in_X5_page_X5 tyX5 tyX5_ok nmX5 hP hD hS 0 rfl rfl 1 (by decide) (List.mem_of_getElem? (i := 2) rfl) rfl rfl rfl (Nat.le_of_ble_eq_true rfl) dX5_page_29 (fun H locs hP hD hS => ?_)
        have hP : va_P (dC, dI) vwCl ([(dk, .inr (5, [.int h, .int d, .int tw, .int ts, .int to, .int tz, .ref o, .ref pg, .ref sf, .ref su2, .int (nI nx)]))]) H := hP
        have hD : va_D A ([(dk, .inr (5, [.int h, .int d, .int tw, .int ts, .int to, .int tz, .ref o, .ref pg, .ref sf, .ref su2, .int (nI nx)]))]) := hD
        refine lv_iconst (v := 1) hx hb dX5_page_32 (by decide) ?_
        exact my_zret (WSf := (fun u : Int32 × Int32 => [(dk, .inr (5, [.int u.1, .int u.2, .int tw, .int ts, .int to, .int tz, .ref o, .ref pg, .ref sf, .ref su2, .int (nI nx)]))])) (h, d) X rfl (by simp [pgd, c_5, c_13, c_17]) (hP) (hD) hS (by first | decide | omega | (dsimp only; omega)) (by first | decide | omega | (dsimp only; omega)) dX5_page_33
      · refine lv_iconst (v := 0) hx hb dX5_page_20 (by decide) ?_
        exact my_zret (WSf := (fun u : Int32 × Int32 => [(dk, .inr (5, [.int u.1, .int u.2, .int tw, .int ts, .int to, .int tz, .ref o, .ref pg, .ref sf, .ref su2, .int (nI nx)]))])) (th, td) X rfl (by simp [pgd, c_5, c_13, c_17]) (hP) (hD) hS (by first | decide | omega | (dsimp only; omega)) (by first | decide | omega | (dsimp only; omega)) dX5_page_21
theorem in_X5_top_X5 : ∀ w ∈ wsX50, w ∈ wsX5_top := fun _ h => List.mem_cons_of_mem _ (List.mem_append_right _ h)
set_option maxHeartbeats 200000 in
set_option maxRecDepth 100000 in
theorem c_top (l : Launch) (dC : Nat → ClassId) (dI : Nat → Nat → Nat) (cI cJ cO : ClassId) (hz : Nat) (dk : Nat) (th : Int32) (td : Int32) (tw : Int32) (ts : Int32) (to : Int32) (tz : Int32) (nx : Nat) (o : Nat) (pg : Nat) (sf : Nat) (su2 : Nat) (w : Int32) (st : Int32) (od : Int32) (z : Int32)  : Met l yX5_top wsX5_top ({ frames := 2, cells := 0, slots := 0, locals := 44 }) (va_Pc [.ref dk, .int w, .int st, .int od, .int z] (PW dC dI cI cJ cO [(dk, .inr (5, [.int th, .int td, .int tw, .int ts, .int to, .int tz, .ref o, .ref pg, .ref sf, .ref su2, .int (nI nx)]))] hz)) (va_Qi (fun r : Int32 => fun u : Int32 × Int32 × Int32 × Int32 => u.1 = (if glu w st od z = 1 then w else tw) ∧ u.2.1 = (if glu w st od z = 1 then st else ts) ∧ u.2.2.1 = (if glu w st od z = 1 then od else to) ∧ u.2.2.2 = (if glu w st od z = 1 then z else tz) ∧ r = glu w st od z) (fun (u : Int32 × Int32 × Int32 × Int32) t9 => BW dC dI (va_A [(dk, .inr (5, [.int th, .int td, .int tw, .int ts, .int to, .int tz, .ref o, .ref pg, .ref sf, .ref su2, .int (nI nx)]))] hz) [(dk, .inr (5, [.int th, .int td, .int u.1, .int u.2.1, .int u.2.2.1, .int u.2.2.2, .ref o, .ref pg, .ref sf, .ref su2, .int (nI nx)]))] t9) (va_A [(dk, .inr (5, [.int th, .int td, .int tw, .int ts, .int to, .int tz, .ref o, .ref pg, .ref sf, .ref su2, .int (nI nx)]))] hz)) 0 0 (va_A [(dk, .inr (5, [.int th, .int td, .int tw, .int ts, .int to, .int tz, .ref o, .ref pg, .ref sf, .ref su2, .int (nI nx)]))] hz) := by
  refine my_metW (ws := wsX5_top) (cc := cX5_top) (maxL := 5) (ret := (some .boolean)) (Qc := fun A => va_Qi (fun r : Int32 => fun u : Int32 × Int32 × Int32 × Int32 => u.1 = (if glu w st od z = 1 then w else tw) ∧ u.2.1 = (if glu w st od z = 1 then st else ts) ∧ u.2.2.1 = (if glu w st od z = 1 then od else to) ∧ u.2.2.2 = (if glu w st od z = 1 then z else tz) ∧ r = glu w st od z) (fun (u : Int32 × Int32 × Int32 × Int32) t9 => BW dC dI A [(dk, .inr (5, [.int th, .int td, .int u.1, .int u.2.1, .int u.2.2.1, .int u.2.2.2, .ref o, .ref pg, .ref sf, .ref su2, .int (nI nx)]))] t9) A) (by decide) rfl (Nat.le_of_ble_eq_true rfl) ?_
  intro p e s m below meth c ls A X hl hK hA hP hD hS
  obtain ⟨hx, hb, hr, hml, hown, hts, hlocks, hnm⟩ := id X
  have hl : lv_has ls 5 [(0, .ref dk), (1, .int w), (2, .int st), (3, .int od), (4, .int z)] := hl
  refine lv_iload_n hx hb dX5_top_0 rfl (lv_at hl 1 rfl) ?_
  refine lv_iload_n hx hb dX5_top_1 rfl (lv_at hl 2 rfl) ?_
  refine lv_iload_n hx hb dX5_top_2 rfl (lv_at hl 3 rfl) ?_
  refine lv_iload hx hb dX5_top_3 (lv_at hl 4 rfl) ?_
  have hPc := hP.sub (ws' := []) [] rfl
  refine my_rdi (my_runS (n := 4) (As := [.int w, .int st, .int od, .int z]) (rest := []) X PR.blind (PR.pre hPc hK) (c_isGlue l dC dI cI cJ cO w st od z ) gX5_top_X5_isGlue rfl rfl rfl (by decide +kernel) rfl ⟨Nat.le_of_ble_eq_true rfl, Nat.le_of_ble_eq_true rfl⟩ hl.1 rfl (Nat.le_of_ble_eq_true rfl) dX5_top_5 ⟨by first | decide | omega | (dsimp only; omega), by first | decide | omega | (dsimp only; omega)⟩) (fun r_1 hr_1 => ?_)
  subst hr_1
  refine lv_if_ne (tgt := 13) hx hb dX5_top_8 (by decide) (fun c_8 => ?_) (fun c_8 => ?_)
  · have c_8 := b01n (glu_01 w st od z) c_8
    refine lv_aload_n hx hb dX5_top_13 rfl (lv_at hl 0 rfl) ?_
    refine lv_iload_n hx hb dX5_top_14 rfl (lv_at hl 1 rfl) ?_
    refine my_put X hK in_X5_top_X5 tyX5 tyX5_ok nmX5 hP hD hS 0 rfl rfl 2 (by decide) (List.mem_of_getElem? (i := 1) rfl) rfl rfl rfl (Nat.le_of_ble_eq_true rfl) dX5_top_15 (fun H locs hP hD hS => ?_)
    have hP : va_P (dC, dI) vwCl ([(dk, .inr (5, [.int th, .int td, .int w, .int ts, .int to, .int tz, .ref o, .ref pg, .ref sf, .ref su2, .int (nI nx)]))]) H := hP
    have hD : va_D A ([(dk, .inr (5, [.int th, .int td, .int w, .int ts, .int to, .int tz, .ref o, .ref pg, .ref sf, .ref su2, .int (nI nx)]))]) := hD
    refine lv_aload_n hx hb dX5_top_18 rfl (lv_at hl 0 rfl) ?_
    refine lv_iload_n hx hb dX5_top_19 rfl (lv_at hl 2 rfl) ?_
    refine my_put X hK in_X5_top_X5 tyX5 tyX5_ok nmX5 hP hD hS 0 rfl rfl 3 (by decide) (List.mem_of_getElem? (i := 2) rfl) rfl rfl rfl (Nat.le_of_ble_eq_true rfl) dX5_top_20 (fun H locs hP hD hS => ?_)
    have hP : va_P (dC, dI) vwCl ([(dk, .inr (5, [.int th, .int td, .int w, .int st, .int to, .int tz, .ref o, .ref pg, .ref sf, .ref su2, .int (nI nx)]))]) H := hP
    have hD : va_D A ([(dk, .inr (5, [.int th, .int td, .int w, .int st, .int to, .int tz, .ref o, .ref pg, .ref sf, .ref su2, .int (nI nx)]))]) := hD
    refine lv_aload_n hx hb dX5_top_23 rfl (lv_at hl 0 rfl) ?_
    refine lv_iload_n hx hb dX5_top_24 rfl (lv_at hl 3 rfl) ?_
    refine my_put X hK in_X5_top_X5 tyX5 tyX5_ok nmX5 hP hD hS 0 rfl rfl 4 (by decide) (List.mem_of_getElem? (i := 3) rfl) rfl rfl rfl (Nat.le_of_ble_eq_true rfl) dX5_top_25 (fun H locs hP hD hS => ?_)
    have hP : va_P (dC, dI) vwCl ([(dk, .inr (5, [.int th, .int td, .int w, .int st, .int od, .int tz, .ref o, .ref pg, .ref sf, .ref su2, .int (nI nx)]))]) H := hP
    have hD : va_D A ([(dk, .inr (5, [.int th, .int td, .int w, .int st, .int od, .int tz, .ref o, .ref pg, .ref sf, .ref su2, .int (nI nx)]))]) := hD
    refine lv_aload_n hx hb dX5_top_28 rfl (lv_at hl 0 rfl) ?_
    refine lv_iload hx hb dX5_top_29 (lv_at hl 4 rfl) ?_
    refine my_put X hK in_X5_top_X5 tyX5 tyX5_ok nmX5 hP hD hS 0 rfl rfl 5 (by decide) (List.mem_of_getElem? (i := 4) rfl) rfl rfl rfl (Nat.le_of_ble_eq_true rfl) dX5_top_31 (fun H locs hP hD hS => ?_)
    have hP : va_P (dC, dI) vwCl ([(dk, .inr (5, [.int th, .int td, .int w, .int st, .int od, .int z, .ref o, .ref pg, .ref sf, .ref su2, .int (nI nx)]))]) H := hP
    have hD : va_D A ([(dk, .inr (5, [.int th, .int td, .int w, .int st, .int od, .int z, .ref o, .ref pg, .ref sf, .ref su2, .int (nI nx)]))]) := hD
    refine lv_iconst (v := 1) hx hb dX5_top_34 (by decide) ?_
    exact my_zret (WSf := (fun u : Int32 × Int32 × Int32 × Int32 => [(dk, .inr (5, [.int th, .int td, .int u.1, .int u.2.1, .int u.2.2.1, .int u.2.2.2, .ref o, .ref pg, .ref sf, .ref su2, .int (nI nx)]))])) (w, st, od, z) X rfl (by simp [c_8]) (hP) (hD) hS (by first | decide | omega | (dsimp only; omega)) (by first | decide | omega | (dsimp only; omega)) dX5_top_35
  · refine lv_iconst (v := 0) hx hb dX5_top_11 (by decide) ?_
    exact my_zret (WSf := (fun u : Int32 × Int32 × Int32 × Int32 => [(dk, .inr (5, [.int th, .int td, .int u.1, .int u.2.1, .int u.2.2.1, .int u.2.2.2, .ref o, .ref pg, .ref sf, .ref su2, .int (nI nx)]))])) (tw, ts, to, tz) X rfl (by simp [c_8]) (hP) (hD) hS (by first | decide | omega | (dsimp only; omega)) (by first | decide | omega | (dsimp only; omega)) dX5_top_12
theorem in_X5_toCome_X5 : ∀ w ∈ wsX50, w ∈ wsX5_toCome := fun _ h => List.mem_cons_of_mem _ (List.mem_append_left _ (List.mem_append_right _ h))
set_option maxHeartbeats 200000 in
set_option maxRecDepth 100000 in
theorem c_toCome (l : Launch) (dC : Nat → ClassId) (dI : Nat → Nat → Nat) (cI cJ cO : ClassId) (dk : Nat) (th : Int32) (td : Int32) (tw : Int32) (ts : Int32) (to : Int32) (tz : Int32) (nx : Nat) (o : Nat) (pg : Nat) (sf : Nat) (su2 : Nat) (ar : Nat) (cap : Nat) (f : Nat → Int32) (sz : Nat) (hnx : nx ≤ sz) (hsz : sz ≤ cap) (hcap : cap ≤ 4001) : Met l yX5_toCome wsX5_toCome ({ frames := 1, cells := 0, slots := 0, locals := 20 }) (va_Pc [.ref dk] (PR dC dI cI cJ cO [(dk, .inr (5, [.int th, .int td, .int tw, .int ts, .int to, .int tz, .ref o, .ref pg, .ref sf, .ref su2, .int (nI nx)])), (o, .inr (0, [.ref ar, .int (nI sz)])), (ar, .inl (cI, (cap * 8), .inl f))])) (vp_Si (fun r : Int32 => r = nI (sz - nx))) 0 0 (fun _ => False) := by
  refine my_met (ws := wsX5_toCome) (cc := cX5_toCome) (maxL := 1) (ret := (some .int)) (by decide) rfl (Nat.le_of_ble_eq_true rfl) ?_
  intro p e s m below meth c ls X hl hv
  obtain ⟨hP, hK⟩ := hv
  obtain ⟨hx, hb, hr, hml, hown, hts, hlocks, hnm⟩ := id X
  have hl : lv_has ls 1 [(0, .ref dk)] := hl
  refine lv_aload_n hx hb dX5_toCome_0 rfl (lv_at hl 0 rfl) ?_
  refine my_get X hK in_X5_toCome_X5 hP 0 rfl rfl 6 (by decide) (List.mem_of_getElem? (i := 1) rfl) rfl dX5_toCome_1 ?_
  have hPc := hP.sub (ws' := [(o, .inr (0, [.ref ar, .int (nI sz)])), (ar, .inl (cI, (cap * 8), .inl f))]) [1, 2] rfl
  refine my_rdi (my_runV (n := 0) (As := []) (rest := []) (C := RX0) X PR.blind (PR.pre hPc hK) (va_recv hK.1 hPc (ci := 0) (q0 := 0) rfl rfl) (c_size l dC dI cI cJ cO o ar cap f sz ) gX5_toCome_X0_size rfl rfl rfl (by decide +kernel) rfl ⟨Nat.le_of_ble_eq_true rfl, Nat.le_of_ble_eq_true rfl⟩ hl.1 rfl (Nat.le_of_ble_eq_true rfl) dX5_toCome_4 ⟨by first | decide | omega | (dsimp only; omega), by first | decide | omega | (dsimp only; omega)⟩) (fun r_1 hr_1 => ?_)
  subst hr_1
  refine lv_aload_n hx hb dX5_toCome_7 rfl (lv_at hl 0 rfl) ?_
  refine my_get X hK in_X5_toCome_X5 hP 0 rfl rfl 10 (by decide) (List.mem_of_getElem? (i := 2) rfl) rfl dX5_toCome_8 ?_
  refine lv_isub hx hb dX5_toCome_11 ?_
  refine my_topi (pk_sub (a := sz) (b := nx) (by omega)) ?_
  exact my_iretR X (rfl) dX5_toCome_12
theorem in_X5_onPage_X2 : ∀ w ∈ wsX20, w ∈ wsX5_onPage := fun _ h => List.mem_cons_of_mem _ (List.mem_append_right _ h)
theorem in_X5_onPage_X5 : ∀ w ∈ wsX50, w ∈ wsX5_onPage := fun _ h => List.mem_cons_of_mem _ (List.mem_append_left _ (List.mem_append_right _ h))
set_option maxHeartbeats 200000 in
set_option maxRecDepth 100000 in
theorem c_onPage (l : Launch) (dC : Nat → ClassId) (dI : Nat → Nat → Nat) (cI cJ cO : ClassId) (dk : Nat) (th : Int32) (td : Int32) (tw : Int32) (ts : Int32) (to : Int32) (tz : Int32) (nx : Nat) (o : Nat) (pg : Nat) (sf : Nat) (su2 : Nat) (bg : Int32) (fi : Nat) (go : Int32) (be : Int32) (lc : Int64) (su : Nat) (hfi : fi ≤ nx) : Met l yX5_onPage wsX5_onPage ({ frames := 0, cells := 0, slots := 0, locals := 0 }) (va_Pc [.ref dk] (PR dC dI cI cJ cO [(dk, .inr (5, [.int th, .int td, .int tw, .int ts, .int to, .int tz, .ref o, .ref pg, .ref sf, .ref su2, .int (nI nx)])), (pg, .inr (2, [.ref su, .int bg, .int (nI fi), .int go, .int be, .long lc]))])) (vp_Si (fun r : Int32 => r = onP bg nx fi)) 0 0 (fun _ => False) := by
  refine my_met (ws := wsX5_onPage) (cc := cX5_onPage) (maxL := 1) (ret := (some .int)) (by decide) rfl (Nat.le_of_ble_eq_true rfl) ?_
  intro p e s m below meth c ls X hl hv
  obtain ⟨hP, hK⟩ := hv
  obtain ⟨hx, hb, hr, hml, hown, hts, hlocks, hnm⟩ := id X
  have hl : lv_has ls 1 [(0, .ref dk)] := hl
  refine lv_aload_n hx hb dX5_onPage_0 rfl (lv_at hl 0 rfl) ?_
  refine my_get X hK in_X5_onPage_X5 hP 0 rfl rfl 7 (by decide) (List.mem_of_getElem? (i := 1) rfl) rfl dX5_onPage_1 ?_
  refine my_getN X hK in_X5_onPage_X2 hP 1 rfl rfl 1 (by decide) 5 rfl rfl dX5_onPage_4 ?_
  refine lv_if_eq (tgt := 25) hx hb dX5_onPage_7 (by decide) (fun c_7 => ?_) (fun c_7 => ?_)
  · refine lv_iconst (v := 0) hx hb dX5_onPage_25 (by decide) ?_
    exact my_iretR X (by simp [onP, c_7]) dX5_onPage_26
  · refine lv_aload_n hx hb dX5_onPage_10 rfl (lv_at hl 0 rfl) ?_
    refine my_get X hK in_X5_onPage_X5 hP 0 rfl rfl 10 (by decide) (List.mem_of_getElem? (i := 2) rfl) rfl dX5_onPage_11 ?_
    refine lv_aload_n hx hb dX5_onPage_14 rfl (lv_at hl 0 rfl) ?_
    refine my_get X hK in_X5_onPage_X5 hP 0 rfl rfl 7 (by decide) (List.mem_of_getElem? (i := 1) rfl) rfl dX5_onPage_15 ?_
    refine my_getN X hK in_X5_onPage_X2 hP 1 rfl rfl 2 (by decide) 10 rfl rfl dX5_onPage_18 ?_
    refine lv_isub hx hb dX5_onPage_21 ?_
    refine my_topi (pk_sub (a := nx) (b := fi) (by omega)) ?_
    refine lv_goto (tgt := 26) hx hb dX5_onPage_22 (by decide) ?_
    exact my_iretR X (by simp [onP, c_7]) dX5_onPage_26
theorem in_X5_isBreak_X5 : ∀ w ∈ wsX50, w ∈ wsX5_isBreak := fun _ h => List.mem_cons_of_mem _ (List.mem_append_left _ (List.mem_append_right _ h))
set_option maxHeartbeats 200000 in
set_option maxRecDepth 100000 in
theorem c_isBreak (l : Launch) (dC : Nat → ClassId) (dI : Nat → Nat → Nat) (cI cJ cO : ClassId) (dk : Nat) (th : Int32) (td : Int32) (tw : Int32) (ts : Int32) (to : Int32) (tz : Int32) (nx : Nat) (o : Nat) (pg : Nat) (sf : Nat) (su2 : Nat) (ar : Nat) (cap : Nat) (f : Nat → Int32) (sz : Nat) (kd : Int32) (h1 : 1 ≤ nx) (h2 : nx < sz) (hsz : sz ≤ cap) (hcap : cap ≤ 4001) : Met l yX5_isBreak wsX5_isBreak ({ frames := 2, cells := 0, slots := 0, locals := 40 }) (va_Pc [.ref dk, .int kd] (PR dC dI cI cJ cO [(dk, .inr (5, [.int th, .int td, .int tw, .int ts, .int to, .int tz, .ref o, .ref pg, .ref sf, .ref su2, .int (nI nx)])), (o, .inr (0, [.ref ar, .int (nI sz)])), (ar, .inl (cI, (cap * 8), .inl f))])) (vp_Si (fun r : Int32 => r = brk f nx sz kd)) 0 0 (fun _ => False) := by
  refine my_met (ws := wsX5_isBreak) (cc := cX5_isBreak) (maxL := 2) (ret := (some .boolean)) (by decide) rfl (Nat.le_of_ble_eq_true rfl) ?_
  intro p e s m below meth c ls X hl hv
  obtain ⟨hP, hK⟩ := hv
  obtain ⟨hx, hb, hr, hml, hown, hts, hlocks, hnm⟩ := id X
  have hl : lv_has ls 2 [(0, .ref dk), (1, .int kd)] := hl
  refine lv_iload_n hx hb dX5_isBreak_0 rfl (lv_at hl 1 rfl) ?_
  by_cases k1_5 : kd = 5
  · refine lv_tableIn (off := 27) (tgt := 28) hx hb dX5_isBreak_1 (by rw [k1_5]; decide) (by rw [k1_5]; decide) (by rw [k1_5]; rfl) (by decide) ?_
    refine lv_aload_n hx hb dX5_isBreak_28 rfl (lv_at hl 0 rfl) ?_
    refine my_get X hK in_X5_isBreak_X5 hP 0 rfl rfl 6 (by decide) (List.mem_of_getElem? (i := 1) rfl) rfl dX5_isBreak_29 ?_
    refine lv_aload_n hx hb dX5_isBreak_32 rfl (lv_at hl 0 rfl) ?_
    refine my_get X hK in_X5_isBreak_X5 hP 0 rfl rfl 10 (by decide) (List.mem_of_getElem? (i := 2) rfl) rfl dX5_isBreak_33 ?_
    refine lv_iconst (v := 1) hx hb dX5_isBreak_36 (by decide) ?_
    refine lv_isub hx hb dX5_isBreak_37 ?_
    refine my_topi (pk_sub (a := nx) (b := 1) (by omega)) ?_
    refine lv_iconst (v := 0) hx hb dX5_isBreak_38 (by decide) ?_
    have hPc := hP.sub (ws' := [(o, .inr (0, [.ref ar, .int (nI sz)])), (ar, .inl (cI, (cap * 8), .inl f))]) [1, 2] rfl
    refine my_rdi (my_runV (n := 2) (As := [.int (nI (nx - 1)), .int 0]) (rest := []) (C := RX0) X PR.blind (PR.pre hPc hK) (va_recv hK.1 hPc (ci := 0) (q0 := 0) rfl rfl) (c_at l dC dI cI cJ cO o ar cap f sz (nx - 1) 0 (by omega) (by omega) (by omega) (by omega)) gX5_isBreak_X0_at rfl rfl rfl (by decide +kernel) rfl ⟨Nat.le_of_ble_eq_true rfl, Nat.le_of_ble_eq_true rfl⟩ hl.1 rfl (Nat.le_of_ble_eq_true rfl) dX5_isBreak_39 ⟨by first | decide | omega | (dsimp only; omega), by first | decide | omega | (dsimp only; omega)⟩) (fun r_1 hr_1 => ?_)
    subst hr_1
    refine my_topi (show f ((nx - 1) * 8 + 0) = f ((nx - 1) * 8) from rfl) ?_
    have hPc := hP.sub (ws' := []) [] rfl
    refine my_rdi (my_runS (n := 1) (As := [.int (f ((nx - 1) * 8))]) (rest := []) X PR.blind (PR.pre hPc hK) (c_isSolid l dC dI cI cJ cO (f ((nx - 1) * 8)) ) gX5_isBreak_X5_isSolid rfl rfl rfl (by decide +kernel) rfl ⟨Nat.le_of_ble_eq_true rfl, Nat.le_of_ble_eq_true rfl⟩ hl.1 rfl (Nat.le_of_ble_eq_true rfl) dX5_isBreak_42 ⟨by first | decide | omega | (dsimp only; omega), by first | decide | omega | (dsimp only; omega)⟩) (fun r_2 hr_2 => ?_)
    subst hr_2
    exact my_zretR X (nb01 (sol_01 (f ((nx - 1) * 8)))) (by first | (simp [brk, k1_5]; done) | (simp [brk, k1_5]; omega)) dX5_isBreak_45
  by_cases k1_6 : kd = 6
  · refine lv_tableIn (off := 45) (tgt := 46) hx hb dX5_isBreak_1 (by rw [k1_6]; decide) (by rw [k1_6]; decide) (by rw [k1_6]; rfl) (by decide) ?_
    refine lv_aload_n hx hb dX5_isBreak_46 rfl (lv_at hl 0 rfl) ?_
    have hPc := hP.sub (ws' := [(dk, .inr (5, [.int th, .int td, .int tw, .int ts, .int to, .int tz, .ref o, .ref pg, .ref sf, .ref su2, .int (nI nx)])), (o, .inr (0, [.ref ar, .int (nI sz)])), (ar, .inl (cI, (cap * 8), .inl f))]) [0, 1, 2] rfl
    refine my_rdi (my_runV (n := 0) (As := []) (rest := []) (C := RX5) X PR.blind (PR.pre hPc hK) (va_recv hK.1 hPc (ci := 5) (q0 := 0) rfl rfl) (c_toCome l dC dI cI cJ cO dk th td tw ts to tz nx o pg sf su2 ar cap f sz (by omega) (by omega) (by omega)) gX5_isBreak_X5_toCome rfl rfl rfl (by decide +kernel) rfl ⟨Nat.le_of_ble_eq_true rfl, Nat.le_of_ble_eq_true rfl⟩ hl.1 rfl (Nat.le_of_ble_eq_true rfl) dX5_isBreak_47 ⟨by first | decide | omega | (dsimp only; omega), by first | decide | omega | (dsimp only; omega)⟩) (fun r_3 hr_3 => ?_)
    subst hr_3
    refine lv_iconst (v := 1) hx hb dX5_isBreak_50 (by decide) ?_
    refine lv_icmp_le (tgt := 76) hx hb dX5_isBreak_51 (by decide) (fun c_51 => ?_) (fun c_51 => ?_)
    · have c_51 := nc_le (a := (sz - nx)) (b := 1) c_51 (by omega) (by omega)
      refine lv_iconst (v := 0) hx hb dX5_isBreak_76 (by decide) ?_
      exact my_zretR X rfl (by first | (simp [brk, k1_5, k1_6, c_51]; done) | (simp [brk, k1_5, k1_6, c_51]; omega)) dX5_isBreak_77
    · have c_51 := nc_nle (a := (sz - nx)) (b := 1) c_51 (by omega) (by omega)
      refine lv_aload_n hx hb dX5_isBreak_54 rfl (lv_at hl 0 rfl) ?_
      refine my_get X hK in_X5_isBreak_X5 hP 0 rfl rfl 6 (by decide) (List.mem_of_getElem? (i := 1) rfl) rfl dX5_isBreak_55 ?_
      refine lv_aload_n hx hb dX5_isBreak_58 rfl (lv_at hl 0 rfl) ?_
      refine my_get X hK in_X5_isBreak_X5 hP 0 rfl rfl 10 (by decide) (List.mem_of_getElem? (i := 2) rfl) rfl dX5_isBreak_59 ?_
      refine lv_iconst (v := 1) hx hb dX5_isBreak_62 (by decide) ?_
      refine lv_iadd hx hb dX5_isBreak_63 ?_
      refine my_topi (nI_add nx 1) ?_
      refine lv_iconst (v := 0) hx hb dX5_isBreak_64 (by decide) ?_
      have hPc := hP.sub (ws' := [(o, .inr (0, [.ref ar, .int (nI sz)])), (ar, .inl (cI, (cap * 8), .inl f))]) [1, 2] rfl
      refine my_rdi (my_runV (n := 2) (As := [.int (nI (nx + 1)), .int 0]) (rest := []) (C := RX0) X PR.blind (PR.pre hPc hK) (va_recv hK.1 hPc (ci := 0) (q0 := 0) rfl rfl) (c_at l dC dI cI cJ cO o ar cap f sz (nx + 1) 0 (by omega) (by omega) (by omega) (by omega)) gX5_isBreak_X0_at rfl rfl rfl (by decide +kernel) rfl ⟨Nat.le_of_ble_eq_true rfl, Nat.le_of_ble_eq_true rfl⟩ hl.1 rfl (Nat.le_of_ble_eq_true rfl) dX5_isBreak_65 ⟨by first | decide | omega | (dsimp only; omega), by first | decide | omega | (dsimp only; omega)⟩) (fun r_4 hr_4 => ?_)
      subst hr_4
      refine my_topi (show f ((nx + 1) * 8 + 0) = f ((nx + 1) * 8) from rfl) ?_
      refine lv_iconst (v := 5) hx hb dX5_isBreak_68 (by decide) ?_
      refine lv_icmp_ne (tgt := 76) hx hb dX5_isBreak_69 (by decide) (fun c_69 => ?_) (fun c_69 => ?_)
      · refine lv_iconst (v := 0) hx hb dX5_isBreak_76 (by decide) ?_
        exact my_zretR X rfl (by first | (simp [brk, k1_5, k1_6, c_51, c_69]; done) | (simp [brk, k1_5, k1_6, c_51, c_69]; omega)) dX5_isBreak_77
      · refine lv_iconst (v := 1) hx hb dX5_isBreak_72 (by decide) ?_
        refine lv_goto (tgt := 77) hx hb dX5_isBreak_73 (by decide) ?_
        exact my_zretR X rfl (by first | (simp [brk, k1_5, k1_6, c_51, c_69]; done) | (simp [brk, k1_5, k1_6, c_51, c_69]; omega)) dX5_isBreak_77
  by_cases k1_7 : kd = 7
  · refine lv_tableIn (off := 77) (tgt := 78) hx hb dX5_isBreak_1 (by rw [k1_7]; decide) (by rw [k1_7]; decide) (by rw [k1_7]; rfl) (by decide) ?_
    refine lv_aload_n hx hb dX5_isBreak_78 rfl (lv_at hl 0 rfl) ?_
    refine my_get X hK in_X5_isBreak_X5 hP 0 rfl rfl 6 (by decide) (List.mem_of_getElem? (i := 1) rfl) rfl dX5_isBreak_79 ?_
    refine lv_aload_n hx hb dX5_isBreak_82 rfl (lv_at hl 0 rfl) ?_
    refine my_get X hK in_X5_isBreak_X5 hP 0 rfl rfl 10 (by decide) (List.mem_of_getElem? (i := 2) rfl) rfl dX5_isBreak_83 ?_
    refine lv_iconst (v := 1) hx hb dX5_isBreak_86 (by decide) ?_
    have hPc := hP.sub (ws' := [(o, .inr (0, [.ref ar, .int (nI sz)])), (ar, .inl (cI, (cap * 8), .inl f))]) [1, 2] rfl
    refine my_rdi (my_runV (n := 2) (As := [.int (nI nx), .int 1]) (rest := []) (C := RX0) X PR.blind (PR.pre hPc hK) (va_recv hK.1 hPc (ci := 0) (q0 := 0) rfl rfl) (c_at l dC dI cI cJ cO o ar cap f sz nx 1 (by omega) (by omega) (by omega) (by omega)) gX5_isBreak_X0_at rfl rfl rfl (by decide +kernel) rfl ⟨Nat.le_of_ble_eq_true rfl, Nat.le_of_ble_eq_true rfl⟩ hl.1 rfl (Nat.le_of_ble_eq_true rfl) dX5_isBreak_87 ⟨by first | decide | omega | (dsimp only; omega), by first | decide | omega | (dsimp only; omega)⟩) (fun r_5 hr_5 => ?_)
    subst hr_5
    refine lv_sipush (v := 10000) hx hb dX5_isBreak_90 (by decide) ?_
    refine lv_icmp_ge (tgt := 100) hx hb dX5_isBreak_93 (by decide) (fun c_93 => ?_) (fun c_93 => ?_)
    · refine lv_iconst (v := 0) hx hb dX5_isBreak_100 (by decide) ?_
      exact my_zretR X rfl (by first | (simp [brk, k1_5, k1_6, k1_7, c_93]; done) | (simp [brk, k1_5, k1_6, k1_7, c_93]; omega)) dX5_isBreak_101
    · refine lv_iconst (v := 1) hx hb dX5_isBreak_96 (by decide) ?_
      refine lv_goto (tgt := 101) hx hb dX5_isBreak_97 (by decide) ?_
      exact my_zretR X rfl (by first | (simp [brk, k1_5, k1_6, k1_7, c_93]; done) | (simp [brk, k1_5, k1_6, k1_7, c_93]; omega)) dX5_isBreak_101
  have q1_5 : kd.toInt ≠ 5 := i_ne k1_5
  have q1_6 : kd.toInt ≠ 6 := i_ne k1_6
  have q1_7 : kd.toInt ≠ 7 := i_ne k1_7
  refine lv_tableOut (tgt := 102) hx hb dX5_isBreak_1 (by omega) (by decide) ?_
  refine lv_iconst (v := 0) hx hb dX5_isBreak_102 (by decide) ?_
  exact my_zretR X rfl (by first | (simp [brk, k1_5, k1_6, k1_7]; done) | (simp [brk, k1_5, k1_6, k1_7]; omega)) dX5_isBreak_103
theorem in_X5_count_X3 : ∀ w ∈ wsX30, w ∈ wsX5_count := fun _ h => List.mem_cons_of_mem _ (List.mem_append_left _ (List.mem_append_left _ (List.mem_append_right _ h)))
theorem in_X5_count_X5 : ∀ w ∈ wsX50, w ∈ wsX5_count := fun _ h => List.mem_cons_of_mem _ (List.mem_append_left _ (List.mem_append_left _ (List.mem_append_left _ (List.mem_append_right _ h))))
set_option maxHeartbeats 200000 in
set_option maxRecDepth 100000 in
theorem c_count (l : Launch) (dC : Nat → ClassId) (dI : Nat → Nat → Nat) (cI cJ cO : ClassId) (dk : Nat) (th : Int32) (td : Int32) (tw : Int32) (ts : Int32) (to : Int32) (tz : Int32) (nx : Nat) (o : Nat) (pg : Nat) (sf : Nat) (su2 : Nat) (ar : Nat) (cap : Nat) (f : Nat → Int32) (sz : Nat) (bg : Int32) (fi : Nat) (go : Int32) (be : Int32) (lc : Int64) (pa : Nat) (kp : Nat) (la : Nat) (em : Int32) (pf : Nat → Option Nat) (su : Nat) (wh : Int32) (hfi : fi ≤ nx) (hnx : nx ≤ sz) (hsz : sz ≤ cap) (hcap : cap ≤ 4001) : Met l yX5_count wsX5_count ({ frames := 2, cells := 0, slots := 0, locals := 40 }) (va_Pc [.ref dk, .int wh] (PR dC dI cI cJ cO [(dk, .inr (5, [.int th, .int td, .int tw, .int ts, .int to, .int tz, .ref o, .ref pg, .ref sf, .ref su2, .int (nI nx)])), (o, .inr (0, [.ref ar, .int (nI sz)])), (ar, .inl (cI, (cap * 8), .inl f)), (pg, .inr (2, [.ref su, .int bg, .int (nI fi), .int go, .int be, .long lc])), (sf, .inr (3, [.ref pa, .int (nI kp), .int (nI la), .int em])), (pa, .inl (cO, 8, .inr (.inr (.inr (.inr pf)))))])) (vp_Si (fun r : Int32 => r = cnt wh em nx sz fi bg be)) 0 0 (fun _ => False) := by
  refine my_met (ws := wsX5_count) (cc := cX5_count) (maxL := 2) (ret := (some .int)) (by decide) rfl (Nat.le_of_ble_eq_true rfl) ?_
  intro p e s m below meth c ls X hl hv
  obtain ⟨hP, hK⟩ := hv
  obtain ⟨hx, hb, hr, hml, hown, hts, hlocks, hnm⟩ := id X
  have hl : lv_has ls 2 [(0, .ref dk), (1, .int wh)] := hl
  refine lv_iload_n hx hb dX5_count_0 rfl (lv_at hl 1 rfl) ?_
  by_cases k1_0 : wh = 0
  · refine lv_tableIn (off := 31) (tgt := 32) hx hb dX5_count_1 (by rw [k1_0]; decide) (by rw [k1_0]; decide) (by rw [k1_0]; rfl) (by decide) ?_
    refine lv_aload_n hx hb dX5_count_32 rfl (lv_at hl 0 rfl) ?_
    refine my_get X hK in_X5_count_X5 hP 0 rfl rfl 8 (by decide) (List.mem_of_getElem? (i := 1) rfl) rfl dX5_count_33 ?_
    refine my_getN X hK in_X5_count_X3 hP 4 rfl rfl 3 (by decide) 4 rfl rfl dX5_count_36 ?_
    exact my_iretR X (by simp_all only [cnt]; first | rfl | simp_all) dX5_count_39
  by_cases k1_1 : wh = 1
  · refine lv_tableIn (off := 39) (tgt := 40) hx hb dX5_count_1 (by rw [k1_1]; decide) (by rw [k1_1]; decide) (by rw [k1_1]; rfl) (by decide) ?_
    refine lv_aload_n hx hb dX5_count_40 rfl (lv_at hl 0 rfl) ?_
    have hPc := hP.sub (ws' := [(dk, .inr (5, [.int th, .int td, .int tw, .int ts, .int to, .int tz, .ref o, .ref pg, .ref sf, .ref su2, .int (nI nx)])), (o, .inr (0, [.ref ar, .int (nI sz)])), (ar, .inl (cI, (cap * 8), .inl f))]) [0, 1, 2] rfl
    refine my_rdi (my_runV (n := 0) (As := []) (rest := []) (C := RX5) X PR.blind (PR.pre hPc hK) (va_recv hK.1 hPc (ci := 5) (q0 := 0) rfl rfl) (c_toCome l dC dI cI cJ cO dk th td tw ts to tz nx o pg sf su2 ar cap f sz (by omega) (by omega) (by omega)) gX5_count_X5_toCome rfl rfl rfl (by decide +kernel) rfl ⟨Nat.le_of_ble_eq_true rfl, Nat.le_of_ble_eq_true rfl⟩ hl.1 rfl (Nat.le_of_ble_eq_true rfl) dX5_count_41 ⟨by first | decide | omega | (dsimp only; omega), by first | decide | omega | (dsimp only; omega)⟩) (fun r_1 hr_1 => ?_)
    subst hr_1
    exact my_iretR X (by simp_all only [cnt]; first | rfl | simp_all) dX5_count_44
  by_cases k1_2 : wh = 2
  · refine lv_tableIn (off := 44) (tgt := 45) hx hb dX5_count_1 (by rw [k1_2]; decide) (by rw [k1_2]; decide) (by rw [k1_2]; rfl) (by decide) ?_
    refine lv_aload_n hx hb dX5_count_45 rfl (lv_at hl 0 rfl) ?_
    have hPc := hP.sub (ws' := [(dk, .inr (5, [.int th, .int td, .int tw, .int ts, .int to, .int tz, .ref o, .ref pg, .ref sf, .ref su2, .int (nI nx)])), (pg, .inr (2, [.ref su, .int bg, .int (nI fi), .int go, .int be, .long lc]))]) [0, 3] rfl
    refine my_rdi (my_runV (n := 0) (As := []) (rest := []) (C := RX5) X PR.blind (PR.pre hPc hK) (va_recv hK.1 hPc (ci := 5) (q0 := 0) rfl rfl) (c_onPage l dC dI cI cJ cO dk th td tw ts to tz nx o pg sf su2 bg fi go be lc su (by omega)) gX5_count_X5_onPage rfl rfl rfl (by decide +kernel) rfl ⟨Nat.le_of_ble_eq_true rfl, Nat.le_of_ble_eq_true rfl⟩ hl.1 rfl (Nat.le_of_ble_eq_true rfl) dX5_count_46 ⟨by first | decide | omega | (dsimp only; omega), by first | decide | omega | (dsimp only; omega)⟩) (fun r_2 hr_2 => ?_)
    subst hr_2
    exact my_iretR X (by simp_all only [cnt]; first | rfl | simp_all) dX5_count_49
  by_cases k1_3 : wh = 3
  · refine lv_tableIn (off := 49) (tgt := 50) hx hb dX5_count_1 (by rw [k1_3]; decide) (by rw [k1_3]; decide) (by rw [k1_3]; rfl) (by decide) ?_
    refine lv_aload_n hx hb dX5_count_50 rfl (lv_at hl 0 rfl) ?_
    refine my_get X hK in_X5_count_X5 hP 0 rfl rfl 7 (by decide) (List.mem_of_getElem? (i := 2) rfl) rfl dX5_count_51 ?_
    have hPc := hP.sub (ws' := [(pg, .inr (2, [.ref su, .int bg, .int (nI fi), .int go, .int be, .long lc]))]) [3] rfl
    refine my_rdi (my_runV (n := 0) (As := []) (rest := []) (C := RX2) X PR.blind (PR.pre hPc hK) (va_recv hK.1 hPc (ci := 2) (q0 := 0) rfl rfl) (c_hasBest l dC dI cI cJ cO pg bg (nI fi) go be lc su ) gX5_count_X2_hasBest rfl rfl rfl (by decide +kernel) rfl ⟨Nat.le_of_ble_eq_true rfl, Nat.le_of_ble_eq_true rfl⟩ hl.1 rfl (Nat.le_of_ble_eq_true rfl) dX5_count_54 ⟨by first | decide | omega | (dsimp only; omega), by first | decide | omega | (dsimp only; omega)⟩) (fun r_3 hr_3 => ?_)
    subst hr_3
    refine lv_if_eq (tgt := 64) hx hb dX5_count_57 (by decide) (fun c_57 => ?_) (fun c_57 => ?_)
    · refine lv_iconst (v := 0) hx hb dX5_count_64 (by decide) ?_
      exact my_iretR X (by simp_all only [cnt]; first | rfl | simp_all) dX5_count_65
    · refine lv_iconst (v := 1) hx hb dX5_count_60 (by decide) ?_
      refine lv_goto (tgt := 65) hx hb dX5_count_61 (by decide) ?_
      exact my_iretR X (by simp_all only [cnt]; first | rfl | simp_all) dX5_count_65
  have q1_0 : wh.toInt ≠ 0 := i_ne k1_0
  have q1_1 : wh.toInt ≠ 1 := i_ne k1_1
  have q1_2 : wh.toInt ≠ 2 := i_ne k1_2
  have q1_3 : wh.toInt ≠ 3 := i_ne k1_3
  refine lv_tableOut (tgt := 66) hx hb dX5_count_1 (by omega) (by decide) ?_
  refine lv_iconst (v := (-1)) hx hb dX5_count_66 (by decide) ?_
  exact my_iretR X (by simp_all only [cnt]; first | rfl | simp_all) dX5_count_67
theorem in_X5_sum_X2 : ∀ w ∈ wsX20, w ∈ wsX5_sum := fun _ h => List.mem_cons_of_mem _ (List.mem_append_left _ (List.mem_append_right _ h))
theorem in_X5_sum_X4 : ∀ w ∈ wsX40, w ∈ wsX5_sum := fun _ h => List.mem_cons_of_mem _ (List.mem_append_right _ h)
theorem in_X5_sum_X5 : ∀ w ∈ wsX50, w ∈ wsX5_sum := fun _ h => List.mem_cons_of_mem _ (List.mem_append_left _ (List.mem_append_left _ (List.mem_append_right _ h)))
set_option maxHeartbeats 200000 in
set_option maxRecDepth 100000 in
theorem c_sum (l : Launch) (dC : Nat → ClassId) (dI : Nat → Nat → Nat) (cI cJ cO : ClassId) (dk : Nat) (th : Int32) (td : Int32) (tw : Int32) (ts : Int32) (to : Int32) (tz : Int32) (nx : Nat) (o : Nat) (pg : Nat) (sf : Nat) (su2 : Nat) (bg : Int32) (fi : Int32) (go : Int32) (be : Int32) (lc : Int64) (su : Nat) (sa : Nat) (g : Nat → Int64) (z : Int64) (al : Int64) (dp : Int64) (wd : Int64) (lim : Int32) (wh : Int32)  : Met l yX5_sum wsX5_sum ({ frames := 1, cells := 0, slots := 0, locals := 21 }) (va_Pc [.ref dk, .int wh] (PR dC dI cI cJ cO [(dk, .inr (5, [.int th, .int td, .int tw, .int ts, .int to, .int tz, .ref o, .ref pg, .ref sf, .ref su2, .int (nI nx)])), (pg, .inr (2, [.ref su, .int bg, .int fi, .int go, .int be, .long lc])), (su, .inr (4, [.ref sa, .long z, .long al, .long dp, .long wd, .int lim])), (sa, .inl (cJ, 4, .inr (.inl g)))])) (vp_Sl (fun r : Int64 => r = smL wh bg be lc al dp z g)) 0 0 (fun _ => False) := by
  refine my_met (ws := wsX5_sum) (cc := cX5_sum) (maxL := 2) (ret := (some .long)) (by decide) rfl (Nat.le_of_ble_eq_true rfl) ?_
  intro p e s m below meth c ls X hl hv
  obtain ⟨hP, hK⟩ := hv
  obtain ⟨hx, hb, hr, hml, hown, hts, hlocks, hnm⟩ := id X
  have hl : lv_has ls 2 [(0, .ref dk), (1, .int wh)] := hl
  refine lv_aload_n hx hb dX5_sum_0 rfl (lv_at hl 0 rfl) ?_
  refine my_get X hK in_X5_sum_X5 hP 0 rfl rfl 7 (by decide) (List.mem_of_getElem? (i := 1) rfl) rfl dX5_sum_1 ?_
  refine my_getN X hK in_X5_sum_X2 hP 1 rfl rfl 1 (by decide) 5 rfl rfl dX5_sum_4 ?_
  refine lv_if_ne (tgt := 12) hx hb dX5_sum_7 (by decide) (fun c_7 => ?_) (fun c_7 => ?_)
  · refine lv_iload_n hx hb dX5_sum_12 rfl (lv_at hl 1 rfl) ?_
    by_cases k13_0 : wh = 0
    · refine lv_tableIn (off := 35) (tgt := 48) hx hb dX5_sum_13 (by rw [k13_0]; decide) (by rw [k13_0]; decide) (by rw [k13_0]; rfl) (by decide) ?_
      refine lv_aload_n hx hb dX5_sum_48 rfl (lv_at hl 0 rfl) ?_
      refine my_get X hK in_X5_sum_X5 hP 0 rfl rfl 7 (by decide) (List.mem_of_getElem? (i := 1) rfl) rfl dX5_sum_49 ?_
      refine my_getN X hK in_X5_sum_X2 hP 1 rfl rfl 0 (by decide) 6 rfl rfl dX5_sum_52 ?_
      have hPc := hP.sub (ws' := [(su, .inr (4, [.ref sa, .long z, .long al, .long dp, .long wd, .int lim])), (sa, .inl (cJ, 4, .inr (.inl g)))]) [2, 3] rfl
      refine my_rdl (my_runV (n := 0) (As := []) (rest := []) (C := RX4) X PR.blind (PR.pre hPc hK) (va_recv hK.1 hPc (ci := 4) (q0 := 0) rfl rfl) (c_total l dC dI cI cJ cO su sa g z al dp wd lim ) gX5_sum_X4_total rfl rfl rfl (by decide +kernel) rfl ⟨Nat.le_of_ble_eq_true rfl, Nat.le_of_ble_eq_true rfl⟩ hl.1 rfl (Nat.le_of_ble_eq_true rfl) dX5_sum_55 ⟨by first | decide | omega | (dsimp only; omega), by first | decide | omega | (dsimp only; omega)⟩) (fun r_1 hr_1 => ?_)
      subst hr_1
      exact my_lretR X (by simp [smL, soF_0, c_7, k13_0]) dX5_sum_58
    by_cases k13_1 : wh = 1
    · refine lv_tableIn (off := 46) (tgt := 59) hx hb dX5_sum_13 (by rw [k13_1]; decide) (by rw [k13_1]; decide) (by rw [k13_1]; rfl) (by decide) ?_
      refine lv_aload_n hx hb dX5_sum_59 rfl (lv_at hl 0 rfl) ?_
      refine my_get X hK in_X5_sum_X5 hP 0 rfl rfl 7 (by decide) (List.mem_of_getElem? (i := 1) rfl) rfl dX5_sum_60 ?_
      refine my_getN X hK in_X5_sum_X2 hP 1 rfl rfl 0 (by decide) 6 rfl rfl dX5_sum_63 ?_
      refine my_getN X hK in_X5_sum_X4 hP 2 rfl rfl 3 (by decide) 7 rfl rfl dX5_sum_66 ?_
      exact my_lretR X (by simp [smL, soF_0, c_7, k13_0, k13_1]) dX5_sum_69
    by_cases k13_2 : wh = 2
    · refine lv_tableIn (off := 57) (tgt := 70) hx hb dX5_sum_13 (by rw [k13_2]; decide) (by rw [k13_2]; decide) (by rw [k13_2]; rfl) (by decide) ?_
      refine lv_aload_n hx hb dX5_sum_70 rfl (lv_at hl 0 rfl) ?_
      refine my_get X hK in_X5_sum_X5 hP 0 rfl rfl 7 (by decide) (List.mem_of_getElem? (i := 1) rfl) rfl dX5_sum_71 ?_
      refine my_getN X hK in_X5_sum_X2 hP 1 rfl rfl 0 (by decide) 6 rfl rfl dX5_sum_74 ?_
      refine my_getN X hK in_X5_sum_X4 hP 2 rfl rfl 1 (by decide) 8 rfl rfl dX5_sum_77 ?_
      exact my_lretR X (by simp [smL, soF_0, c_7, k13_0, k13_1, k13_2]) dX5_sum_80
    by_cases k13_3 : wh = 3
    · refine lv_tableIn (off := 68) (tgt := 81) hx hb dX5_sum_13 (by rw [k13_3]; decide) (by rw [k13_3]; decide) (by rw [k13_3]; rfl) (by decide) ?_
      refine lv_aload_n hx hb dX5_sum_81 rfl (lv_at hl 0 rfl) ?_
      refine my_get X hK in_X5_sum_X5 hP 0 rfl rfl 7 (by decide) (List.mem_of_getElem? (i := 1) rfl) rfl dX5_sum_82 ?_
      refine my_getN X hK in_X5_sum_X2 hP 1 rfl rfl 0 (by decide) 6 rfl rfl dX5_sum_85 ?_
      refine lv_iconst (v := 0) hx hb dX5_sum_88 (by decide) ?_
      have hPc := hP.sub (ws' := [(su, .inr (4, [.ref sa, .long z, .long al, .long dp, .long wd, .int lim])), (sa, .inl (cJ, 4, .inr (.inl g)))]) [2, 3] rfl
      refine my_rdl (my_runV (n := 1) (As := [.int 0]) (rest := []) (C := RX4) X PR.blind (PR.pre hPc hK) (va_recv hK.1 hPc (ci := 4) (q0 := 0) rfl rfl) (c_stretchOf l dC dI cI cJ cO su sa g z al dp wd lim 0 ) gX5_sum_X4_stretchOf rfl rfl rfl (by decide +kernel) rfl ⟨Nat.le_of_ble_eq_true rfl, Nat.le_of_ble_eq_true rfl⟩ hl.1 rfl (Nat.le_of_ble_eq_true rfl) dX5_sum_89 ⟨by first | decide | omega | (dsimp only; omega), by first | decide | omega | (dsimp only; omega)⟩) (fun r_2 hr_2 => ?_)
      subst hr_2
      exact my_lretR X (by simp [smL, soF_0, c_7, k13_0, k13_1, k13_2, k13_3]) dX5_sum_92
    by_cases k13_4 : wh = 4
    · refine lv_tableIn (off := 80) (tgt := 93) hx hb dX5_sum_13 (by rw [k13_4]; decide) (by rw [k13_4]; decide) (by rw [k13_4]; rfl) (by decide) ?_
      refine lv_aload_n hx hb dX5_sum_93 rfl (lv_at hl 0 rfl) ?_
      refine my_get X hK in_X5_sum_X5 hP 0 rfl rfl 7 (by decide) (List.mem_of_getElem? (i := 1) rfl) rfl dX5_sum_94 ?_
      have hPc := hP.sub (ws' := [(pg, .inr (2, [.ref su, .int bg, .int fi, .int go, .int be, .long lc]))]) [1] rfl
      refine my_rdi (my_runV (n := 0) (As := []) (rest := []) (C := RX2) X PR.blind (PR.pre hPc hK) (va_recv hK.1 hPc (ci := 2) (q0 := 0) rfl rfl) (c_hasBest l dC dI cI cJ cO pg bg fi go be lc su ) gX5_sum_X2_hasBest rfl rfl rfl (by decide +kernel) rfl ⟨Nat.le_of_ble_eq_true rfl, Nat.le_of_ble_eq_true rfl⟩ hl.1 rfl (Nat.le_of_ble_eq_true rfl) dX5_sum_97 ⟨by first | decide | omega | (dsimp only; omega), by first | decide | omega | (dsimp only; omega)⟩) (fun r_3 hr_3 => ?_)
      subst hr_3
      refine lv_if_eq (tgt := 113) hx hb dX5_sum_100 (by decide) (fun c_100 => ?_) (fun c_100 => ?_)
      · refine lv_lconst (v := 0) hx hb dX5_sum_113 (by decide) ?_
        exact my_lretR X (by simp at c_100; simp [smL, soF_0, c_7, k13_0, k13_1, k13_2, k13_3, k13_4, c_100]) dX5_sum_114
      · refine lv_aload_n hx hb dX5_sum_103 rfl (lv_at hl 0 rfl) ?_
        refine my_get X hK in_X5_sum_X5 hP 0 rfl rfl 7 (by decide) (List.mem_of_getElem? (i := 1) rfl) rfl dX5_sum_104 ?_
        refine my_getN X hK in_X5_sum_X2 hP 1 rfl rfl 5 (by decide) 9 rfl rfl dX5_sum_107 ?_
        refine lv_goto (tgt := 114) hx hb dX5_sum_110 (by decide) ?_
        exact my_lretR X (by simp at c_100; simp [smL, soF_0, c_7, k13_0, k13_1, k13_2, k13_3, k13_4, c_100]) dX5_sum_114
    have q13_0 : wh.toInt ≠ 0 := i_ne k13_0
    have q13_1 : wh.toInt ≠ 1 := i_ne k13_1
    have q13_2 : wh.toInt ≠ 2 := i_ne k13_2
    have q13_3 : wh.toInt ≠ 3 := i_ne k13_3
    have q13_4 : wh.toInt ≠ 4 := i_ne k13_4
    refine lv_tableOut (tgt := 115) hx hb dX5_sum_13 (by omega) (by decide) ?_
    refine lv_lconst (v := 0) hx hb dX5_sum_115 (by decide) ?_
    exact my_lretR X (by simp [smL, soF_0, c_7, k13_0, k13_1, k13_2, k13_3, k13_4]) dX5_sum_116
  · refine lv_lconst (v := 0) hx hb dX5_sum_10 (by decide) ?_
    exact my_lretR X (by simp [smL, soF_0, c_7]) dX5_sum_11
