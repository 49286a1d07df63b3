set_option maxHeartbeats 200000 in
set_option maxRecDepth 100000 in
theorem lp_makePlain {p : Program} {l : Launch} {e : Env} {s : State} {m : MethodId} {below : List Frame} {meth : Method} {c : Code} {dC : Nat → ClassId} {dI : Nat → Nat → Nat} {cI cJ cO : ClassId} {A : Nat → Prop} (o : Nat) (ar : Nat) (cap : Nat) (f : Nat → Int32) (sz : Nat) (i : Nat) (kd : Int32) (w : Int32) (hi : i < sz) (hsz : sz ≤ cap) (hcap : cap ≤ 4001) (X : Cx p s m ([.ref o, .int (nI i), .int kd, .int w] : List Value).toArray meth c cX0_makePlain none 5 yX0_makePlain.cls yX0_makePlain.name wsX0_makePlain) (hK : Kn dC dI cI cJ cO s) (hA : ∀ q : Nat, s.heap.size ≤ q → A q) : ∀ (fu9 : Nat) (t : Nat) (ht : t ≤ 8), 8 - t < fu9 → ∀ (H : Heap) (locs : List Loc), va_P (dC, dI) vwCl ([(o, .inr (0, [.ref ar, .int (nI sz)])), (ar, .inl (cI, (cap * 8), .inl (zp f i t)))]) H → va_D A ([(o, .inr (0, [.ref ar, .int (nI sz)])), (ar, .inl (cI, (cap * 8), .inl (zp f i t)))]) → va_S A s.heap H locs → ∀ (ls : Array Slot), lv_has ls 5 [(0, .ref o), (1, .int (nI i)), (2, .int kd), (3, .int w), (4, .int (nI t))] → W p l e ({ frames := 1, cells := 0, slots := 0, locals := 24 }) s m ([.ref o, .int (nI i), .int kd, .int w] : List Value).toArray below meth c H locs (0) (0) (MQ below (va_Qv (fun f1 : Nat → Int32 => f1 = (ip f i (it8 kd w 0 0 0 0 0 0))) (fun (f1 : Nat → Int32) t9 => BW dC dI A [(o, .inr (0, [.ref ar, .int (nI sz)])), (ar, .inl (cI, (cap * 8), .inl f1))] t9) A) ([.ref o, .int (nI i), .int kd, .int w] : List Value).toArray s 0 0 A) (F0 m 3 ls []) := by
  obtain ⟨hx, hb, hr, hml, hown, hts, hlocks, hnm⟩ := id X
  intro fu9
  induction fu9 with
  | zero =>
    intro t ht hfu
    exact absurd hfu (Nat.not_lt_zero _)
  | succ fu9 ih =>
    intro t ht hfu H locs hP hD hS ls hl
    refine lv_iload hx hb dX0_makePlain_3 (lv_at hl 4 rfl) ?_
    refine lv_bipush (v := 8) hx hb dX0_makePlain_5 (by decide) ?_
    refine lv_icmp_ge (tgt := 24) hx hb dX0_makePlain_7 (by decide) (fun c_7 => ?_) (fun c_7 => ?_)
    · have c_7 := nc_le (a := 8) (b := t) c_7 (by omega) (by omega)
      refine lv_aload_n hx hb dX0_makePlain_24 rfl (lv_at hl 0 rfl) ?_
      refine lv_iload_n hx hb dX0_makePlain_25 rfl (lv_at hl 1 rfl) ?_
      refine lv_iconst (v := 0) hx hb dX0_makePlain_26 (by decide) ?_
      refine lv_iload_n hx hb dX0_makePlain_27 rfl (lv_at hl 2 rfl) ?_
      have hPc := hP.sub (ws' := [(o, .inr (0, [.ref ar, .int (nI sz)])), (ar, .inl (cI, (cap * 8), .inl (zp f i t)))]) [0, 1] rfl
      have hDc := hD.sub (ws' := [(o, .inr (0, [.ref ar, .int (nI sz)])), (ar, .inl (cI, (cap * 8), .inl (zp f i t)))]) [0, 1] (by decide) rfl
      refine my_callv (ws := [(o, .inr (0, [.ref ar, .int (nI sz)])), (ar, .inl (cI, (cap * 8), .inl (zp f i t)))]) (F := []) (wr := []) (my_runV (n := 3) (As := [.int (nI i), .int 0, .int kd]) (rest := []) (C := RX0) X PW.blind (PW.pre hPc hDc hK) (va_recv hK.1 hPc (ci := 0) (q0 := 0) rfl rfl) (c_put l dC dI cI cJ cO _ o ar cap (zp f i t) sz i 0 kd (by omega) (by omega) (by omega) (by omega)) gX0_makePlain_X0_put rfl rfl rfl (by decide +kernel) rfl ⟨Nat.le_of_ble_eq_true rfl, Nat.le_of_ble_eq_true rfl⟩ hl.1 rfl (Nat.le_of_ble_eq_true rfl) dX0_makePlain_28 ⟨by first | decide | omega | (dsimp only; omega), by first | decide | omega | (dsimp only; omega)⟩) hS hP hD hA [0, 1] [] rfl rfl (by decide) (by decide) (fun u H locs hw_1 hP hD hS => ?_)
      have hP : va_P (dC, dI) vwCl [(o, .inr (0, [.ref ar, .int (nI sz)])), (ar, .inl (cI, (cap * 8), .inl (upd (zp f i t) (i * 8 + 0) kd)))] H := hP.sub [0, 1] rfl
      have hD : va_D A [(o, .inr (0, [.ref ar, .int (nI sz)])), (ar, .inl (cI, (cap * 8), .inl (upd (zp f i t) (i * 8 + 0) kd)))] := hD.sub [0, 1] (by decide) rfl
      refine lv_aload_n hx hb dX0_makePlain_31 rfl (lv_at hl 0 rfl) ?_
      refine lv_iload_n hx hb dX0_makePlain_32 rfl (lv_at hl 1 rfl) ?_
      refine lv_iconst (v := 1) hx hb dX0_makePlain_33 (by decide) ?_
      refine lv_iload_n hx hb dX0_makePlain_34 rfl (lv_at hl 3 rfl) ?_
      have hPc := hP.sub (ws' := [(o, .inr (0, [.ref ar, .int (nI sz)])), (ar, .inl (cI, (cap * 8), .inl (upd (zp f i t) (i * 8 + 0) kd)))]) [0, 1] rfl
      have hDc := hD.sub (ws' := [(o, .inr (0, [.ref ar, .int (nI sz)])), (ar, .inl (cI, (cap * 8), .inl (upd (zp f i t) (i * 8 + 0) kd)))]) [0, 1] (by decide) rfl
      refine my_callv (ws := [(o, .inr (0, [.ref ar, .int (nI sz)])), (ar, .inl (cI, (cap * 8), .inl (upd (zp f i t) (i * 8 + 0) kd)))]) (F := []) (wr := []) (my_runV (n := 3) (As := [.int (nI i), .int 1, .int w]) (rest := []) (C := RX0) X PW.blind (PW.pre hPc hDc hK) (va_recv hK.1 hPc (ci := 0) (q0 := 0) rfl rfl) (c_put l dC dI cI cJ cO _ o ar cap (upd (zp f i t) (i * 8 + 0) kd) sz i 1 w (by omega) (by omega) (by omega) (by omega)) gX0_makePlain_X0_put rfl rfl rfl (by decide +kernel) rfl ⟨Nat.le_of_ble_eq_true rfl, Nat.le_of_ble_eq_true rfl⟩ hl.1 rfl (Nat.le_of_ble_eq_true rfl) dX0_makePlain_35 ⟨by first | decide | omega | (dsimp only; omega), by first | decide | omega | (dsimp only; omega)⟩) hS hP hD hA [0, 1] [] rfl rfl (by decide) (by decide) (fun u H locs hw_2 hP hD hS => ?_)
      have hP : va_P (dC, dI) vwCl [(o, .inr (0, [.ref ar, .int (nI sz)])), (ar, .inl (cI, (cap * 8), .inl (upd (upd (zp f i t) (i * 8 + 0) kd) (i * 8 + 1) w)))] H := hP.sub [0, 1] rfl
      have hD : va_D A [(o, .inr (0, [.ref ar, .int (nI sz)])), (ar, .inl (cI, (cap * 8), .inl (upd (upd (zp f i t) (i * 8 + 0) kd) (i * 8 + 1) w)))] := hD.sub [0, 1] (by decide) rfl
      exact my_vret (WSf := (fun f1 : Nat → Int32 => [(o, .inr (0, [.ref ar, .int (nI sz)])), (ar, .inl (cI, (cap * 8), .inl f1))])) (upd (upd (zp f i t) (i * 8 + 0) kd) (i * 8 + 1) w) X (by rw [show t = 8 by omega]; exact ip_plain f i kd w) (hP) (hD) hS (by first | decide | omega | (dsimp only; omega)) (by first | decide | omega | (dsimp only; omega)) dX0_makePlain_38
    · have c_7 := nc_nle (a := 8) (b := t) c_7 (by omega) (by omega)
      refine lv_aload_n hx hb dX0_makePlain_10 rfl (lv_at hl 0 rfl) ?_
      refine lv_iload_n hx hb dX0_makePlain_11 rfl (lv_at hl 1 rfl) ?_
      refine lv_iload hx hb dX0_makePlain_12 (lv_at hl 4 rfl) ?_
      refine lv_iconst (v := 0) hx hb dX0_makePlain_14 (by decide) ?_
      have hPc := hP.sub (ws' := [(o, .inr (0, [.ref ar, .int (nI sz)])), (ar, .inl (cI, (cap * 8), .inl (zp f i t)))]) [0, 1] rfl
      have hDc := hD.sub (ws' := [(o, .inr (0, [.ref ar, .int (nI sz)])), (ar, .inl (cI, (cap * 8), .inl (zp f i t)))]) [0, 1] (by decide) rfl
      refine my_callv (ws := [(o, .inr (0, [.ref ar, .int (nI sz)])), (ar, .inl (cI, (cap * 8), .inl (zp f i t)))]) (F := []) (wr := []) (my_runV (n := 3) (As := [.int (nI i), .int (nI t), .int 0]) (rest := []) (C := RX0) X PW.blind (PW.pre hPc hDc hK) (va_recv hK.1 hPc (ci := 0) (q0 := 0) rfl rfl) (c_put l dC dI cI cJ cO _ o ar cap (zp f i t) sz i t 0 (by omega) (by omega) (by omega) (by omega)) gX0_makePlain_X0_put rfl rfl rfl (by decide +kernel) rfl ⟨Nat.le_of_ble_eq_true rfl, Nat.le_of_ble_eq_true rfl⟩ hl.1 rfl (Nat.le_of_ble_eq_true rfl) dX0_makePlain_15 ⟨by first | decide | omega | (dsimp only; omega), by first | decide | omega | (dsimp only; omega)⟩) hS hP hD hA [0, 1] [] rfl rfl (by decide) (by decide) (fun u H locs hw_3 hP hD hS => ?_)
      have hP : va_P (dC, dI) vwCl [(o, .inr (0, [.ref ar, .int (nI sz)])), (ar, .inl (cI, (cap * 8), .inl (upd (zp f i t) (i * 8 + t) 0)))] H := hP.sub [0, 1] rfl
      have hD : va_D A [(o, .inr (0, [.ref ar, .int (nI sz)])), (ar, .inl (cI, (cap * 8), .inl (upd (zp f i t) (i * 8 + t) 0)))] := hD.sub [0, 1] (by decide) rfl
      refine lv_iinc (v := nI (t + 1)) (lv' := [(4, .int (nI (t + 1))), (0, .ref o), (1, .int (nI i)), (2, .int kd), (3, .int w)]) hx hb dX0_makePlain_18 hl (k := 4) rfl (nI_add t 1) (by decide) rfl (fun ls hl => ?_)
      refine lv_goto (tgt := 3) hx hb dX0_makePlain_21 (by decide) ?_
      rw [zp_s f i (by omega)] at hP hD
      exact ih  (t + 1) (by omega) (by omega) _ _ hP hD hS ls (lv_sub hl [1, 2, 3, 4, 0] rfl)
set_option maxHeartbeats 200000 in
set_option maxRecDepth 100000 in
theorem c_makePlain (l : Launch) (dC : Nat → ClassId) (dI : Nat → Nat → Nat) (cI cJ cO : ClassId) (hz : Nat) (o : Nat) (ar : Nat) (cap : Nat) (f : Nat → Int32) (sz : Nat) (i : Nat) (kd : Int32) (w : Int32) (hi : i < sz) (hsz : sz ≤ cap) (hcap : cap ≤ 4001) : Met l yX0_makePlain wsX0_makePlain ({ frames := 1, cells := 0, slots := 0, locals := 24 }) (va_Pc [.ref o, .int (nI i), .int kd, .int w] (PW dC dI cI cJ cO [(o, .inr (0, [.ref ar, .int (nI sz)])), (ar, .inl (cI, (cap * 8), .inl f))] hz)) (va_Qv (fun f1 : Nat → Int32 => f1 = (ip f i (it8 kd w 0 0 0 0 0 0))) (fun (f1 : Nat → Int32) t9 => BW dC dI (va_A [(o, .inr (0, [.ref ar, .int (nI sz)])), (ar, .inl (cI, (cap * 8), .inl f))] hz) [(o, .inr (0, [.ref ar, .int (nI sz)])), (ar, .inl (cI, (cap * 8), .inl f1))] t9) (va_A [(o, .inr (0, [.ref ar, .int (nI sz)])), (ar, .inl (cI, (cap * 8), .inl f))] hz)) 0 0 (va_A [(o, .inr (0, [.ref ar, .int (nI sz)])), (ar, .inl (cI, (cap * 8), .inl f))] hz) := by
  refine my_metW (ws := wsX0_makePlain) (cc := cX0_makePlain) (maxL := 5) (ret := none) (Qc := fun A => va_Qv (fun f1 : Nat → Int32 => f1 = (ip f i (it8 kd w 0 0 0 0 0 0))) (fun (f1 : Nat → Int32) t9 => BW dC dI A [(o, .inr (0, [.ref ar, .int (nI sz)])), (ar, .inl (cI, (cap * 8), .inl f1))] t9) A) (by decide) rfl (Nat.le_of_ble_eq_true rfl) ?_
  intro p e s m below meth c ls A X hl hK hA hP hD hS
  obtain ⟨hx, hb, hr, hml, hown, hts, hlocks, hnm⟩ := id X
  have hl : lv_has ls 5 [(0, .ref o), (1, .int (nI i)), (2, .int kd), (3, .int w)] := hl
  refine lv_iconst (v := 0) hx hb dX0_makePlain_0 (by decide) ?_
  refine lv_istore (lv' := [(4, .int 0), (0, .ref o), (1, .int (nI i)), (2, .int kd), (3, .int w)]) hx hb dX0_makePlain_1 hl (by decide) rfl (fun ls hl => ?_)
  rw [← zp_0 f i] at hP hD
  exact lp_makePlain o ar cap f sz i kd w hi hsz hcap X hK hA (8 - 0 + 1) 0 (by omega) (by omega) _ _ hP hD hS ls (lv_sub hl [1, 2, 3, 4, 0] rfl)
set_option maxHeartbeats 200000 in
set_option maxRecDepth 100000 in
theorem c_makeSolid (l : Launch) (dC : Nat → ClassId) (dI : Nat → Nat → Nat) (cI cJ cO : ClassId) (hz : Nat) (o : Nat) (ar : Nat) (cap : Nat) (f : Nat → Int32) (sz : Nat) (i : Nat) (kd : Int32) (w : Int32) (h : Int32) (d : Int32) (sh : Int32) (hi : i < sz) (hsz : sz ≤ cap) (hcap : cap ≤ 4001) : Met l yX0_makeSolid wsX0_makeSolid ({ frames := 2, cells := 0, slots := 0, locals := 48 }) (va_Pc [.ref o, .int (nI i), .int kd, .int w, .int h, .int d, .int sh] (PW dC dI cI cJ cO [(o, .inr (0, [.ref ar, .int (nI sz)])), (ar, .inl (cI, (cap * 8), .inl f))] hz)) (va_Qv (fun f1 : Nat → Int32 => f1 = (ip f i (it8 kd w h d sh 0 0 0))) (fun (f1 : Nat → Int32) t9 => BW dC dI (va_A [(o, .inr (0, [.ref ar, .int (nI sz)])), (ar, .inl (cI, (cap * 8), .inl f))] hz) [(o, .inr (0, [.ref ar, .int (nI sz)])), (ar, .inl (cI, (cap * 8), .inl f1))] t9) (va_A [(o, .inr (0, [.ref ar, .int (nI sz)])), (ar, .inl (cI, (cap * 8), .inl f))] hz)) 0 0 (va_A [(o, .inr (0, [.ref ar, .int (nI sz)])), (ar, .inl (cI, (cap * 8), .inl f))] hz) := by
  refine my_metW (ws := wsX0_makeSolid) (cc := cX0_makeSolid) (maxL := 7) (ret := none) (Qc := fun A => va_Qv (fun f1 : Nat → Int32 => f1 = (ip f i (it8 kd w h d sh 0 0 0))) (fun (f1 : Nat → Int32) t9 => BW dC dI A [(o, .inr (0, [.ref ar, .int (nI sz)])), (ar, .inl (cI, (cap * 8), .inl f1))] t9) A) (by decide) rfl (Nat.le_of_ble_eq_true rfl) ?_
  intro p e s m below meth c ls A X hl hK hA hP hD hS
  obtain ⟨hx, hb, hr, hml, hown, hts, hlocks, hnm⟩ := id X
  have hl : lv_has ls 7 [(0, .ref o), (1, .int (nI i)), (2, .int kd), (3, .int w), (4, .int h), (5, .int d), (6, .int sh)] := hl
  refine lv_aload_n hx hb dX0_makeSolid_0 rfl (lv_at hl 0 rfl) ?_
  refine lv_iload_n hx hb dX0_makeSolid_1 rfl (lv_at hl 1 rfl) ?_
  refine lv_iload_n hx hb dX0_makeSolid_2 rfl (lv_at hl 2 rfl) ?_
  refine lv_iload_n hx hb dX0_makeSolid_3 rfl (lv_at hl 3 rfl) ?_
  have hPc := hP.sub (ws' := [(o, .inr (0, [.ref ar, .int (nI sz)])), (ar, .inl (cI, (cap * 8), .inl f))]) [0, 1] rfl
  have hDc := hD.sub (ws' := [(o, .inr (0, [.ref ar, .int (nI sz)])), (ar, .inl (cI, (cap * 8), .inl f))]) [0, 1] (by decide) rfl
  refine my_callv (ws := [(o, .inr (0, [.ref ar, .int (nI sz)])), (ar, .inl (cI, (cap * 8), .inl f))]) (F := []) (wr := []) (my_runV (n := 3) (As := [.int (nI i), .int kd, .int w]) (rest := []) (C := RX0) X PW.blind (PW.pre hPc hDc hK) (va_recv hK.1 hPc (ci := 0) (q0 := 0) rfl rfl) (c_makePlain l dC dI cI cJ cO _ o ar cap f sz i kd w (by omega) (by omega) (by omega)) gX0_makeSolid_X0_makePlain rfl rfl rfl (by decide +kernel) rfl ⟨Nat.le_of_ble_eq_true rfl, Nat.le_of_ble_eq_true rfl⟩ hl.1 rfl (Nat.le_of_ble_eq_true rfl) dX0_makeSolid_4 ⟨by first | decide | omega | (dsimp only; omega), by first | decide | omega | (dsimp only; omega)⟩) hS hP hD hA [0, 1] [] rfl rfl (by decide) (by decide) (fun u H locs hw_1 hP hD hS => ?_)
  obtain ⟨f1_2, rfl⟩ : ∃ z, z = u := ⟨_, rfl⟩
  try dsimp only at hw_1
  rw [hw_1] at hP hD
  have hP : va_P (dC, dI) vwCl [(o, .inr (0, [.ref ar, .int (nI sz)])), (ar, .inl (cI, (cap * 8), .inl (ip f i (it8 kd w 0 0 0 0 0 0))))] H := hP.sub [0, 1] rfl
  have hD : va_D A [(o, .inr (0, [.ref ar, .int (nI sz)])), (ar, .inl (cI, (cap * 8), .inl (ip f i (it8 kd w 0 0 0 0 0 0))))] := hD.sub [0, 1] (by decide) rfl
  refine lv_aload_n hx hb dX0_makeSolid_7 rfl (lv_at hl 0 rfl) ?_
  refine lv_iload_n hx hb dX0_makeSolid_8 rfl (lv_at hl 1 rfl) ?_
  refine lv_iconst (v := 2) hx hb dX0_makeSolid_9 (by decide) ?_
  refine lv_iload hx hb dX0_makeSolid_10 (lv_at hl 4 rfl) ?_
  have hPc := hP.sub (ws' := [(o, .inr (0, [.ref ar, .int (nI sz)])), (ar, .inl (cI, (cap * 8), .inl (ip f i (it8 kd w 0 0 0 0 0 0))))]) [0, 1] rfl
  have hDc := hD.sub (ws' := [(o, .inr (0, [.ref ar, .int (nI sz)])), (ar, .inl (cI, (cap * 8), .inl (ip f i (it8 kd w 0 0 0 0 0 0))))]) [0, 1] (by decide) rfl
  refine my_callv (ws := [(o, .inr (0, [.ref ar, .int (nI sz)])), (ar, .inl (cI, (cap * 8), .inl (ip f i (it8 kd w 0 0 0 0 0 0))))]) (F := []) (wr := []) (my_runV (n := 3) (As := [.int (nI i), .int 2, .int h]) (rest := []) (C := RX0) X PW.blind (PW.pre hPc hDc hK) (va_recv hK.1 hPc (ci := 0) (q0 := 0) rfl rfl) (c_put l dC dI cI cJ cO _ o ar cap (ip f i (it8 kd w 0 0 0 0 0 0)) sz i 2 h (by omega) (by omega) (by omega) (by omega)) gX0_makeSolid_X0_put rfl rfl rfl (by decide +kernel) rfl ⟨Nat.le_of_ble_eq_true rfl, Nat.le_of_ble_eq_true rfl⟩ hl.1 rfl (Nat.le_of_ble_eq_true rfl) dX0_makeSolid_12 ⟨by first | decide | omega | (dsimp only; omega), by first | decide | omega | (dsimp only; omega)⟩) hS hP hD hA [0, 1] [] rfl rfl (by decide) (by decide) (fun u H locs hw_4 hP hD hS => ?_)
  have hP : va_P (dC, dI) vwCl [(o, .inr (0, [.ref ar, .int (nI sz)])), (ar, .inl (cI, (cap * 8), .inl (upd (ip f i (it8 kd w 0 0 0 0 0 0)) (i * 8 + 2) h)))] H := hP.sub [0, 1] rfl
  have hD : va_D A [(o, .inr (0, [.ref ar, .int (nI sz)])), (ar, .inl (cI, (cap * 8), .inl (upd (ip f i (it8 kd w 0 0 0 0 0 0)) (i * 8 + 2) h)))] := hD.sub [0, 1] (by decide) rfl
  refine lv_aload_n hx hb dX0_makeSolid_15 rfl (lv_at hl 0 rfl) ?_
  refine lv_iload_n hx hb dX0_makeSolid_16 rfl (lv_at hl 1 rfl) ?_
  refine lv_iconst (v := 3) hx hb dX0_makeSolid_17 (by decide) ?_
  refine lv_iload hx hb dX0_makeSolid_18 (lv_at hl 5 rfl) ?_
  have hPc := hP.sub (ws' := [(o, .inr (0, [.ref ar, .int (nI sz)])), (ar, .inl (cI, (cap * 8), .inl (upd (ip f i (it8 kd w 0 0 0 0 0 0)) (i * 8 + 2) h)))]) [0, 1] rfl
  have hDc := hD.sub (ws' := [(o, .inr (0, [.ref ar, .int (nI sz)])), (ar, .inl (cI, (cap * 8), .inl (upd (ip f i (it8 kd w 0 0 0 0 0 0)) (i * 8 + 2) h)))]) [0, 1] (by decide) rfl
  refine my_callv (ws := [(o, .inr (0, [.ref ar, .int (nI sz)])), (ar, .inl (cI, (cap * 8), .inl (upd (ip f i (it8 kd w 0 0 0 0 0 0)) (i * 8 + 2) h)))]) (F := []) (wr := []) (my_runV (n := 3) (As := [.int (nI i), .int 3, .int d]) (rest := []) (C := RX0) X PW.blind (PW.pre hPc hDc hK) (va_recv hK.1 hPc (ci := 0) (q0 := 0) rfl rfl) (c_put l dC dI cI cJ cO _ o ar cap (upd (ip f i (it8 kd w 0 0 0 0 0 0)) (i * 8 + 2) h) sz i 3 d (by omega) (by omega) (by omega) (by omega)) gX0_makeSolid_X0_put rfl rfl rfl (by decide +kernel) rfl ⟨Nat.le_of_ble_eq_true rfl, Nat.le_of_ble_eq_true rfl⟩ hl.1 rfl (Nat.le_of_ble_eq_true rfl) dX0_makeSolid_20 ⟨by first | decide | omega | (dsimp only; omega), by first | decide | omega | (dsimp only; omega)⟩) hS hP hD hA [0, 1] [] rfl rfl (by decide) (by decide) (fun u H locs hw_5 hP hD hS => ?_)
  have hP : va_P (dC, dI) vwCl [(o, .inr (0, [.ref ar, .int (nI sz)])), (ar, .inl (cI, (cap * 8), .inl (upd (upd (ip f i (it8 kd w 0 0 0 0 0 0)) (i * 8 + 2) h) (i * 8 + 3) d)))] H := hP.sub [0, 1] rfl
  have hD : va_D A [(o, .inr (0, [.ref ar, .int (nI sz)])), (ar, .inl (cI, (cap * 8), .inl (upd (upd (ip f i (it8 kd w 0 0 0 0 0 0)) (i * 8 + 2) h) (i * 8 + 3) d)))] := hD.sub [0, 1] (by decide) rfl
  refine lv_aload_n hx hb dX0_makeSolid_23 rfl (lv_at hl 0 rfl) ?_
  refine lv_iload_n hx hb dX0_makeSolid_24 rfl (lv_at hl 1 rfl) ?_
  refine lv_iconst (v := 4) hx hb dX0_makeSolid_25 (by decide) ?_
  refine lv_iload hx hb dX0_makeSolid_26 (lv_at hl 6 rfl) ?_
  have hPc := hP.sub (ws' := [(o, .inr (0, [.ref ar, .int (nI sz)])), (ar, .inl (cI, (cap * 8), .inl (upd (upd (ip f i (it8 kd w 0 0 0 0 0 0)) (i * 8 + 2) h) (i * 8 + 3) d)))]) [0, 1] rfl
  have hDc := hD.sub (ws' := [(o, .inr (0, [.ref ar, .int (nI sz)])), (ar, .inl (cI, (cap * 8), .inl (upd (upd (ip f i (it8 kd w 0 0 0 0 0 0)) (i * 8 + 2) h) (i * 8 + 3) d)))]) [0, 1] (by decide) rfl
  refine my_callv (ws := [(o, .inr (0, [.ref ar, .int (nI sz)])), (ar, .inl (cI, (cap * 8), .inl (upd (upd (ip f i (it8 kd w 0 0 0 0 0 0)) (i * 8 + 2) h) (i * 8 + 3) d)))]) (F := []) (wr := []) (my_runV (n := 3) (As := [.int (nI i), .int 4, .int sh]) (rest := []) (C := RX0) X PW.blind (PW.pre hPc hDc hK) (va_recv hK.1 hPc (ci := 0) (q0 := 0) rfl rfl) (c_put l dC dI cI cJ cO _ o ar cap (upd (upd (ip f i (it8 kd w 0 0 0 0 0 0)) (i * 8 + 2) h) (i * 8 + 3) d) sz i 4 sh (by omega) (by omega) (by omega) (by omega)) gX0_makeSolid_X0_put rfl rfl rfl (by decide +kernel) rfl ⟨Nat.le_of_ble_eq_true rfl, Nat.le_of_ble_eq_true rfl⟩ hl.1 rfl (Nat.le_of_ble_eq_true rfl) dX0_makeSolid_28 ⟨by first | decide | omega | (dsimp only; omega), by first | decide | omega | (dsimp only; omega)⟩) hS hP hD hA [0, 1] [] rfl rfl (by decide) (by decide) (fun u H locs hw_6 hP hD hS => ?_)
  have hP : va_P (dC, dI) vwCl [(o, .inr (0, [.ref ar, .int (nI sz)])), (ar, .inl (cI, (cap * 8), .inl (upd (upd (upd (ip f i (it8 kd w 0 0 0 0 0 0)) (i * 8 + 2) h) (i * 8 + 3) d) (i * 8 + 4) sh)))] H := hP.sub [0, 1] rfl
  have hD : va_D A [(o, .inr (0, [.ref ar, .int (nI sz)])), (ar, .inl (cI, (cap * 8), .inl (upd (upd (upd (ip f i (it8 kd w 0 0 0 0 0 0)) (i * 8 + 2) h) (i * 8 + 3) d) (i * 8 + 4) sh)))] := hD.sub [0, 1] (by decide) rfl
  exact my_vret (WSf := (fun f1 : Nat → Int32 => [(o, .inr (0, [.ref ar, .int (nI sz)])), (ar, .inl (cI, (cap * 8), .inl f1))])) (upd (upd (upd (ip f i (it8 kd w 0 0 0 0 0 0)) (i * 8 + 2) h) (i * 8 + 3) d) (i * 8 + 4) sh) X (ip_solid f i kd w h d sh) (hP) (hD) hS (by first | decide | omega | (dsimp only; omega)) (by first | decide | omega | (dsimp only; omega)) dX0_makeSolid_31
set_option maxHeartbeats 200000 in
set_option maxRecDepth 100000 in
theorem c_makeGlue (l : Launch) (dC : Nat → ClassId) (dI : Nat → Nat → Nat) (cI cJ cO : ClassId) (hz : Nat) (o : Nat) (ar : Nat) (cap : Nat) (f : Nat → Int32) (sz : Nat) (i : Nat) (w : Int32) (st : Int32) (od : Int32) (z : Int32) (hi : i < sz) (hsz : sz ≤ cap) (hcap : cap ≤ 4001) : Met l yX0_makeGlue wsX0_makeGlue ({ frames := 2, cells := 0, slots := 0, locals := 48 }) (va_Pc [.ref o, .int (nI i), .int w, .int st, .int od, .int z] (PW dC dI cI cJ cO [(o, .inr (0, [.ref ar, .int (nI sz)])), (ar, .inl (cI, (cap * 8), .inl f))] hz)) (va_Qv (fun f1 : Nat → Int32 => f1 = (ip f i (it8 5 w 0 0 0 st od z))) (fun (f1 : Nat → Int32) t9 => BW dC dI (va_A [(o, .inr (0, [.ref ar, .int (nI sz)])), (ar, .inl (cI, (cap * 8), .inl f))] hz) [(o, .inr (0, [.ref ar, .int (nI sz)])), (ar, .inl (cI, (cap * 8), .inl f1))] t9) (va_A [(o, .inr (0, [.ref ar, .int (nI sz)])), (ar, .inl (cI, (cap * 8), .inl f))] hz)) 0 0 (va_A [(o, .inr (0, [.ref ar, .int (nI sz)])), (ar, .inl (cI, (cap * 8), .inl f))] hz) := by
  refine my_metW (ws := wsX0_makeGlue) (cc := cX0_makeGlue) (maxL := 6) (ret := none) (Qc := fun A => va_Qv (fun f1 : Nat → Int32 => f1 = (ip f i (it8 5 w 0 0 0 st od z))) (fun (f1 : Nat → Int32) t9 => BW dC dI A [(o, .inr (0, [.ref ar, .int (nI sz)])), (ar, .inl (cI, (cap * 8), .inl f1))] t9) A) (by decide) rfl (Nat.le_of_ble_eq_true rfl) ?_
  intro p e s m below meth c ls A X hl hK hA hP hD hS
  obtain ⟨hx, hb, hr, hml, hown, hts, hlocks, hnm⟩ := id X
  have hl : lv_has ls 6 [(0, .ref o), (1, .int (nI i)), (2, .int w), (3, .int st), (4, .int od), (5, .int z)] := hl
  refine lv_aload_n hx hb dX0_makeGlue_0 rfl (lv_at hl 0 rfl) ?_
  refine lv_iload_n hx hb dX0_makeGlue_1 rfl (lv_at hl 1 rfl) ?_
  refine lv_iconst (v := 5) hx hb dX0_makeGlue_2 (by decide) ?_
  refine lv_iload_n hx hb dX0_makeGlue_3 rfl (lv_at hl 2 rfl) ?_
  have hPc := hP.sub (ws' := [(o, .inr (0, [.ref ar, .int (nI sz)])), (ar, .inl (cI, (cap * 8), .inl f))]) [0, 1] rfl
  have hDc := hD.sub (ws' := [(o, .inr (0, [.ref ar, .int (nI sz)])), (ar, .inl (cI, (cap * 8), .inl f))]) [0, 1] (by decide) rfl
  refine my_callv (ws := [(o, .inr (0, [.ref ar, .int (nI sz)])), (ar, .inl (cI, (cap * 8), .inl f))]) (F := []) (wr := []) (my_runV (n := 3) (As := [.int (nI i), .int 5, .int w]) (rest := []) (C := RX0) X PW.blind (PW.pre hPc hDc hK) (va_recv hK.1 hPc (ci := 0) (q0 := 0) rfl rfl) (c_makePlain l dC dI cI cJ cO _ o ar cap f sz i 5 w (by omega) (by omega) (by omega)) gX0_makeGlue_X0_makePlain rfl rfl rfl (by decide +kernel) rfl ⟨Nat.le_of_ble_eq_true rfl, Nat.le_of_ble_eq_true rfl⟩ hl.1 rfl (Nat.le_of_ble_eq_true rfl) dX0_makeGlue_4 ⟨by first | decide | omega | (dsimp only; omega), by first | decide | omega | (dsimp only; omega)⟩) hS hP hD hA [0, 1] [] rfl rfl (by decide) (by decide) (fun u H locs hw_1 hP hD hS => ?_)
  obtain ⟨f1_2, rfl⟩ : ∃ z, z = u := ⟨_, rfl⟩
  try dsimp only at hw_1
  rw [hw_1] at hP hD
  have hP : va_P (dC, dI) vwCl [(o, .inr (0, [.ref ar, .int (nI sz)])), (ar, .inl (cI, (cap * 8), .inl (ip f i (it8 5 w 0 0 0 0 0 0))))] H := hP.sub [0, 1] rfl
  have hD : va_D A [(o, .inr (0, [.ref ar, .int (nI sz)])), (ar, .inl (cI, (cap * 8), .inl (ip f i (it8 5 w 0 0 0 0 0 0))))] := hD.sub [0, 1] (by decide) rfl
  refine lv_aload_n hx hb dX0_makeGlue_7 rfl (lv_at hl 0 rfl) ?_
  refine lv_iload_n hx hb dX0_makeGlue_8 rfl (lv_at hl 1 rfl) ?_
  refine lv_iconst (v := 5) hx hb dX0_makeGlue_9 (by decide) ?_
  refine lv_iload_n hx hb dX0_makeGlue_10 rfl (lv_at hl 3 rfl) ?_
  have hPc := hP.sub (ws' := [(o, .inr (0, [.ref ar, .int (nI sz)])), (ar, .inl (cI, (cap * 8), .inl (ip f i (it8 5 w 0 0 0 0 0 0))))]) [0, 1] rfl
  have hDc := hD.sub (ws' := [(o, .inr (0, [.ref ar, .int (nI sz)])), (ar, .inl (cI, (cap * 8), .inl (ip f i (it8 5 w 0 0 0 0 0 0))))]) [0, 1] (by decide) rfl
  refine my_callv (ws := [(o, .inr (0, [.ref ar, .int (nI sz)])), (ar, .inl (cI, (cap * 8), .inl (ip f i (it8 5 w 0 0 0 0 0 0))))]) (F := []) (wr := []) (my_runV (n := 3) (As := [.int (nI i), .int 5, .int st]) (rest := []) (C := RX0) X PW.blind (PW.pre hPc hDc hK) (va_recv hK.1 hPc (ci := 0) (q0 := 0) rfl rfl) (c_put l dC dI cI cJ cO _ o ar cap (ip f i (it8 5 w 0 0 0 0 0 0)) sz i 5 st (by omega) (by omega) (by omega) (by omega)) gX0_makeGlue_X0_put rfl rfl rfl (by decide +kernel) rfl ⟨Nat.le_of_ble_eq_true rfl, Nat.le_of_ble_eq_true rfl⟩ hl.1 rfl (Nat.le_of_ble_eq_true rfl) dX0_makeGlue_11 ⟨by first | decide | omega | (dsimp only; omega), by first | decide | omega | (dsimp only; omega)⟩) hS hP hD hA [0, 1] [] rfl rfl (by decide) (by decide) (fun u H locs hw_4 hP hD hS => ?_)
  have hP : va_P (dC, dI) vwCl [(o, .inr (0, [.ref ar, .int (nI sz)])), (ar, .inl (cI, (cap * 8), .inl (upd (ip f i (it8 5 w 0 0 0 0 0 0)) (i * 8 + 5) st)))] H := hP.sub [0, 1] rfl
  have hD : va_D A [(o, .inr (0, [.ref ar, .int (nI sz)])), (ar, .inl (cI, (cap * 8), .inl (upd (ip f i (it8 5 w 0 0 0 0 0 0)) (i * 8 + 5) st)))] := hD.sub [0, 1] (by decide) rfl
  refine lv_aload_n hx hb dX0_makeGlue_14 rfl (lv_at hl 0 rfl) ?_
  refine lv_iload_n hx hb dX0_makeGlue_15 rfl (lv_at hl 1 rfl) ?_
  refine lv_bipush (v := 6) hx hb dX0_makeGlue_16 (by decide) ?_
  refine lv_iload hx hb dX0_makeGlue_18 (lv_at hl 4 rfl) ?_
  have hPc := hP.sub (ws' := [(o, .inr (0, [.ref ar, .int (nI sz)])), (ar, .inl (cI, (cap * 8), .inl (upd (ip f i (it8 5 w 0 0 0 0 0 0)) (i * 8 + 5) st)))]) [0, 1] rfl
  have hDc := hD.sub (ws' := [(o, .inr (0, [.ref ar, .int (nI sz)])), (ar, .inl (cI, (cap * 8), .inl (upd (ip f i (it8 5 w 0 0 0 0 0 0)) (i * 8 + 5) st)))]) [0, 1] (by decide) rfl
  refine my_callv (ws := [(o, .inr (0, [.ref ar, .int (nI sz)])), (ar, .inl (cI, (cap * 8), .inl (upd (ip f i (it8 5 w 0 0 0 0 0 0)) (i * 8 + 5) st)))]) (F := []) (wr := []) (my_runV (n := 3) (As := [.int (nI i), .int 6, .int od]) (rest := []) (C := RX0) X PW.blind (PW.pre hPc hDc hK) (va_recv hK.1 hPc (ci := 0) (q0 := 0) rfl rfl) (c_put l dC dI cI cJ cO _ o ar cap (upd (ip f i (it8 5 w 0 0 0 0 0 0)) (i * 8 + 5) st) sz i 6 od (by omega) (by omega) (by omega) (by omega)) gX0_makeGlue_X0_put rfl rfl rfl (by decide +kernel) rfl ⟨Nat.le_of_ble_eq_true rfl, Nat.le_of_ble_eq_true rfl⟩ hl.1 rfl (Nat.le_of_ble_eq_true rfl) dX0_makeGlue_20 ⟨by first | decide | omega | (dsimp only; omega), by first | decide | omega | (dsimp only; omega)⟩) hS hP hD hA [0, 1] [] rfl rfl (by decide) (by decide) (fun u H locs hw_5 hP hD hS => ?_)
  have hP : va_P (dC, dI) vwCl [(o, .inr (0, [.ref ar, .int (nI sz)])), (ar, .inl (cI, (cap * 8), .inl (upd (upd (ip f i (it8 5 w 0 0 0 0 0 0)) (i * 8 + 5) st) (i * 8 + 6) od)))] H := hP.sub [0, 1] rfl
  have hD : va_D A [(o, .inr (0, [.ref ar, .int (nI sz)])), (ar, .inl (cI, (cap * 8), .inl (upd (upd (ip f i (it8 5 w 0 0 0 0 0 0)) (i * 8 + 5) st) (i * 8 + 6) od)))] := hD.sub [0, 1] (by decide) rfl
  refine lv_aload_n hx hb dX0_makeGlue_23 rfl (lv_at hl 0 rfl) ?_
  refine lv_iload_n hx hb dX0_makeGlue_24 rfl (lv_at hl 1 rfl) ?_
  refine lv_bipush (v := 7) hx hb dX0_makeGlue_25 (by decide) ?_
  refine lv_iload hx hb dX0_makeGlue_27 (lv_at hl 5 rfl) ?_
  have hPc := hP.sub (ws' := [(o, .inr (0, [.ref ar, .int (nI sz)])), (ar, .inl (cI, (cap * 8), .inl (upd (upd (ip f i (it8 5 w 0 0 0 0 0 0)) (i * 8 + 5) st) (i * 8 + 6) od)))]) [0, 1] rfl
  have hDc := hD.sub (ws' := [(o, .inr (0, [.ref ar, .int (nI sz)])), (ar, .inl (cI, (cap * 8), .inl (upd (upd (ip f i (it8 5 w 0 0 0 0 0 0)) (i * 8 + 5) st) (i * 8 + 6) od)))]) [0, 1] (by decide) rfl
  refine my_callv (ws := [(o, .inr (0, [.ref ar, .int (nI sz)])), (ar, .inl (cI, (cap * 8), .inl (upd (upd (ip f i (it8 5 w 0 0 0 0 0 0)) (i * 8 + 5) st) (i * 8 + 6) od)))]) (F := []) (wr := []) (my_runV (n := 3) (As := [.int (nI i), .int 7, .int z]) (rest := []) (C := RX0) X PW.blind (PW.pre hPc hDc hK) (va_recv hK.1 hPc (ci := 0) (q0 := 0) rfl rfl) (c_put l dC dI cI cJ cO _ o ar cap (upd (upd (ip f i (it8 5 w 0 0 0 0 0 0)) (i * 8 + 5) st) (i * 8 + 6) od) sz i 7 z (by omega) (by omega) (by omega) (by omega)) gX0_makeGlue_X0_put rfl rfl rfl (by decide +kernel) rfl ⟨Nat.le_of_ble_eq_true rfl, Nat.le_of_ble_eq_true rfl⟩ hl.1 rfl (Nat.le_of_ble_eq_true rfl) dX0_makeGlue_29 ⟨by first | decide | omega | (dsimp only; omega), by first | decide | omega | (dsimp only; omega)⟩) hS hP hD hA [0, 1] [] rfl rfl (by decide) (by decide) (fun u H locs hw_6 hP hD hS => ?_)
  have hP : va_P (dC, dI) vwCl [(o, .inr (0, [.ref ar, .int (nI sz)])), (ar, .inl (cI, (cap * 8), .inl (upd (upd (upd (ip f i (it8 5 w 0 0 0 0 0 0)) (i * 8 + 5) st) (i * 8 + 6) od) (i * 8 + 7) z)))] H := hP.sub [0, 1] rfl
  have hD : va_D A [(o, .inr (0, [.ref ar, .int (nI sz)])), (ar, .inl (cI, (cap * 8), .inl (upd (upd (upd (ip f i (it8 5 w 0 0 0 0 0 0)) (i * 8 + 5) st) (i * 8 + 6) od) (i * 8 + 7) z)))] := hD.sub [0, 1] (by decide) rfl
  exact my_vret (WSf := (fun f1 : Nat → Int32 => [(o, .inr (0, [.ref ar, .int (nI sz)])), (ar, .inl (cI, (cap * 8), .inl f1))])) (upd (upd (upd (ip f i (it8 5 w 0 0 0 0 0 0)) (i * 8 + 5) st) (i * 8 + 6) od) (i * 8 + 7) z) X (ip_glue f i w st od z) (hP) (hD) hS (by first | decide | omega | (dsimp only; omega)) (by first | decide | omega | (dsimp only; omega)) dX0_makeGlue_32
theorem in_X0_clear_X0 : ∀ w ∈ wsX00, w ∈ wsX0_clear := fun _ h => List.mem_cons_of_mem _ (List.mem_append_right _ h)
set_option maxHeartbeats 200000 in
set_option maxRecDepth 100000 in
theorem c_iclear (l : Launch) (dC : Nat → ClassId) (dI : Nat → Nat → Nat) (cI cJ cO : ClassId) (hz : Nat) (o : Nat) (ar : Nat) (cap : Nat) (f : Nat → Int32) (sz : Nat)  : Met l yX0_clear wsX0_clear ({ frames := 0, cells := 0, slots := 0, locals := 0 }) (va_Pc [.ref o] (PW dC dI cI cJ cO [(o, .inr (0, [.ref ar, .int (nI sz)])), (ar, .inl (cI, (cap * 8), .inl f))] hz)) (va_Qv (fun _ : Unit => True) (fun (_ : Unit) t9 => BW dC dI (va_A [(o, .inr (0, [.ref ar, .int (nI sz)])), (ar, .inl (cI, (cap * 8), .inl f))] hz) [(o, .inr (0, [.ref ar, .int (nI 0)])), (ar, .inl (cI, (cap * 8), .inl f))] t9) (va_A [(o, .inr (0, [.ref ar, .int (nI sz)])), (ar, .inl (cI, (cap * 8), .inl f))] hz)) 0 0 (va_A [(o, .inr (0, [.ref ar, .int (nI sz)])), (ar, .inl (cI, (cap * 8), .inl f))] hz) := by
  refine my_metW (ws := wsX0_clear) (cc := cX0_clear) (maxL := 1) (ret := none) (Qc := fun A => va_Qv (fun _ : Unit => True) (fun (_ : Unit) t9 => BW dC dI A [(o, .inr (0, [.ref ar, .int (nI 0)])), (ar, .inl (cI, (cap * 8), .inl f))] t9) A) (by decide) rfl (Nat.le_of_ble_eq_true rfl) ?_
  intro p e s m below meth c ls A X hl hK hA hP hD hS
  obtain ⟨hx, hb, hr, hml, hown, hts, hlocks, hnm⟩ := id X
  have hl : lv_has ls 1 [(0, .ref o)] := hl
  refine lv_aload_n hx hb dX0_clear_0 rfl (lv_at hl 0 rfl) ?_
  refine lv_iconst (v := 0) hx hb dX0_clear_1 (by decide) ?_
  refine my_put X hK in_X0_clear_X0 tyX0 tyX0_ok nmX0 hP hD hS 0 rfl rfl 1 (by decide) (List.mem_of_getElem? (i := 1) rfl) rfl rfl rfl (Nat.le_of_ble_eq_true rfl) dX0_clear_2 (fun H locs hP hD hS => ?_)
  have hP : va_P (dC, dI) vwCl ([(o, .inr (0, [.ref ar, .int 0])), (ar, .inl (cI, (cap * 8), .inl f))]) H := hP
  have hD : va_D A ([(o, .inr (0, [.ref ar, .int 0])), (ar, .inl (cI, (cap * 8), .inl f))]) := hD
  exact my_vret (WSf := (fun _ : Unit => [(o, .inr (0, [.ref ar, .int (nI 0)])), (ar, .inl (cI, (cap * 8), .inl f))])) () X (trivial) (hP) (hD) hS (by first | decide | omega | (dsimp only; omega)) (by first | decide | omega | (dsimp only; omega)) dX0_clear_5
theorem in_X0_dropFirst_X0 : ∀ w ∈ wsX00, w ∈ wsX0_dropFirst := fun _ h => List.mem_cons_of_mem _ (List.mem_append_right _ h)
set_option maxHeartbeats 200000 in
set_option maxRecDepth 100000 in
theorem c_dropFirst (l : Launch) (dC : Nat → ClassId) (dI : Nat → Nat → Nat) (cI cJ cO : ClassId) (hz : Nat) (o : Nat) (ar : Nat) (cap : Nat) (f : Nat → Int32) (sz : Nat) (n : Nat) (hn : n ≤ sz) (hsz : sz ≤ cap) (hcap : cap ≤ 4001) : Met l yX0_dropFirst wsX0_dropFirst ({ frames := 1, cells := 0, slots := 0, locals := 40 }) (va_Pc [.ref o, .int (nI n)] (PW dC dI cI cJ cO [(o, .inr (0, [.ref ar, .int (nI sz)])), (ar, .inl (cI, (cap * 8), .inl f))] hz)) (va_Qv (fun f1 : Nat → Int32 => ∀ j, j < (sz - n) * 8 → f1 j = f (n * 8 + j)) (fun (f1 : Nat → Int32) t9 => BW dC dI (va_A [(o, .inr (0, [.ref ar, .int (nI sz)])), (ar, .inl (cI, (cap * 8), .inl f))] hz) [(o, .inr (0, [.ref ar, .int (nI (sz - n))])), (ar, .inl (cI, (cap * 8), .inl f1))] t9) (va_A [(o, .inr (0, [.ref ar, .int (nI sz)])), (ar, .inl (cI, (cap * 8), .inl f))] hz)) 0 0 (va_A [(o, .inr (0, [.ref ar, .int (nI sz)])), (ar, .inl (cI, (cap * 8), .inl f))] hz) := by
  refine my_metW (ws := wsX0_dropFirst) (cc := cX0_dropFirst) (maxL := 2) (ret := none) (Qc := fun A => va_Qv (fun f1 : Nat → Int32 => ∀ j, j < (sz - n) * 8 → f1 j = f (n * 8 + j)) (fun (f1 : Nat → Int32) t9 => BW dC dI A [(o, .inr (0, [.ref ar, .int (nI (sz - n))])), (ar, .inl (cI, (cap * 8), .inl f1))] t9) A) (by decide) rfl (Nat.le_of_ble_eq_true rfl) ?_
  intro p e s m below meth c ls A X hl hK hA hP hD hS
  obtain ⟨hx, hb, hr, hml, hown, hts, hlocks, hnm⟩ := id X
  have hl : lv_has ls 2 [(0, .ref o), (1, .int (nI n))] := hl
  refine lv_iload_n hx hb dX0_dropFirst_0 rfl (lv_at hl 1 rfl) ?_
  refine lv_if_le (tgt := 12) hx hb dX0_dropFirst_1 (by decide) (fun c_1 => ?_) (fun c_1 => ?_)
  · have c_1 := nc_le (a := n) (b := 0) c_1 (by omega) (by omega)
    have hn0 : n = 0 := by omega
    have hs0 : sz = sz - n := by omega
    rw [hs0] at hP hD
    exact my_vret (WSf := (fun f1 : Nat → Int32 => [(o, .inr (0, [.ref ar, .int (nI (sz - n))])), (ar, .inl (cI, (cap * 8), .inl f1))])) f X (fun j _ => by rw [hn0]; simp) (hP) (hD) hS (by first | decide | omega | (dsimp only; omega)) (by first | decide | omega | (dsimp only; omega)) dX0_dropFirst_12
  · have c_1 := nc_nle (a := n) (b := 0) c_1 (by omega) (by omega)
    refine lv_iload_n hx hb dX0_dropFirst_4 rfl (lv_at hl 1 rfl) ?_
    refine lv_aload_n hx hb dX0_dropFirst_5 rfl (lv_at hl 0 rfl) ?_
    refine my_get X hK in_X0_dropFirst_X0 hP 0 rfl rfl 1 (by decide) (List.mem_of_getElem? (i := 1) rfl) rfl dX0_dropFirst_6 ?_
    refine lv_icmp_le (tgt := 13) hx hb dX0_dropFirst_9 (by decide) (fun c_9 => ?_) (fun c_9 => ?_)
    · have c_9 := nc_le (a := n) (b := sz) c_9 (by omega) (by omega)
      refine lv_aload_n hx hb dX0_dropFirst_13 rfl (lv_at hl 0 rfl) ?_
      refine my_get X hK in_X0_dropFirst_X0 hP 0 rfl rfl 0 (by decide) (List.mem_of_getElem? (i := 2) rfl) rfl dX0_dropFirst_14 ?_
      refine lv_iload_n hx hb dX0_dropFirst_17 rfl (lv_at hl 1 rfl) ?_
      refine lv_bipush (v := 8) hx hb dX0_dropFirst_18 (by decide) ?_
      refine lv_imul hx hb dX0_dropFirst_20 ?_
      refine my_topi (pk_mul n 8) ?_
      refine lv_aload_n hx hb dX0_dropFirst_21 rfl (lv_at hl 0 rfl) ?_
      refine my_get X hK in_X0_dropFirst_X0 hP 0 rfl rfl 0 (by decide) (List.mem_of_getElem? (i := 2) rfl) rfl dX0_dropFirst_22 ?_
      refine lv_iconst (v := 0) hx hb dX0_dropFirst_25 (by decide) ?_
      refine lv_aload_n hx hb dX0_dropFirst_26 rfl (lv_at hl 0 rfl) ?_
      refine my_get X hK in_X0_dropFirst_X0 hP 0 rfl rfl 1 (by decide) (List.mem_of_getElem? (i := 1) rfl) rfl dX0_dropFirst_27 ?_
      refine lv_iload_n hx hb dX0_dropFirst_30 rfl (lv_at hl 1 rfl) ?_
      refine lv_isub hx hb dX0_dropFirst_31 ?_
      refine my_topi (pk_sub (a := sz) (b := n) (by omega)) ?_
      refine lv_bipush (v := 8) hx hb dX0_dropFirst_32 (by decide) ?_
      refine lv_imul hx hb dX0_dropFirst_34 ?_
      refine my_topi (pk_mul (sz - n) 8) ?_
      refine my_copyi (sp := (n * 8)) (dp := 0) (n := ((sz - n) * 8)) X hK (List.mem_of_getElem? (i := 3) rfl) (List.mem_of_getElem? (i := 4) rfl) (List.mem_of_getElem? (i := 5) rfl) (List.mem_of_getElem? (i := 6) rfl) hP hD hS 1 1 rfl rfl rfl rfl rfl (by omega) (by omega) (by omega) (by omega) (Nat.le_of_ble_eq_true rfl) (Nat.le_of_ble_eq_true rfl) hl.1 dX0_dropFirst_35 (fun H locs hP hD hS => ?_)
      have hP : va_P (dC, dI) vwCl ([(o, .inr (0, [.ref ar, .int (nI sz)])), (ar, .inl (cI, (cap * 8), .inl (va_cpy f f (n * 8) 0 ((sz - n) * 8))))]) H := hP
      have hD : va_D A ([(o, .inr (0, [.ref ar, .int (nI sz)])), (ar, .inl (cI, (cap * 8), .inl (va_cpy f f (n * 8) 0 ((sz - n) * 8))))]) := hD
      refine lv_aload_n hx hb dX0_dropFirst_38 rfl (lv_at hl 0 rfl) ?_
      refine lv_dup hx hb dX0_dropFirst_39 rfl ?_
      refine my_get X hK in_X0_dropFirst_X0 hP 0 rfl rfl 1 (by decide) (List.mem_of_getElem? (i := 1) rfl) rfl dX0_dropFirst_40 ?_
      refine lv_iload_n hx hb dX0_dropFirst_43 rfl (lv_at hl 1 rfl) ?_
      refine lv_isub hx hb dX0_dropFirst_44 ?_
      refine my_topi (pk_sub (a := sz) (b := n) (by omega)) ?_
      refine my_put X hK in_X0_dropFirst_X0 tyX0 tyX0_ok nmX0 hP hD hS 0 rfl rfl 1 (by decide) (List.mem_of_getElem? (i := 1) rfl) rfl rfl rfl (Nat.le_of_ble_eq_true rfl) dX0_dropFirst_45 (fun H locs hP hD hS => ?_)
      have hP : va_P (dC, dI) vwCl ([(o, .inr (0, [.ref ar, .int (nI (sz - n))])), (ar, .inl (cI, (cap * 8), .inl (va_cpy f f (n * 8) 0 ((sz - n) * 8))))]) H := hP
      have hD : va_D A ([(o, .inr (0, [.ref ar, .int (nI (sz - n))])), (ar, .inl (cI, (cap * 8), .inl (va_cpy f f (n * 8) 0 ((sz - n) * 8))))]) := hD
      exact my_vret (WSf := (fun f1 : Nat → Int32 => [(o, .inr (0, [.ref ar, .int (nI (sz - n))])), (ar, .inl (cI, (cap * 8), .inl f1))])) (va_cpy f f (n * 8) 0 ((sz - n) * 8)) X (fun j hj => my_cpy (by omega)) (hP) (hD) hS (by first | decide | omega | (dsimp only; omega)) (by first | decide | omega | (dsimp only; omega)) dX0_dropFirst_48
    · have c_9 := nc_nle (a := n) (b := sz) c_9 (by omega) (by omega)
      exact False.elim (by omega)
theorem in_X0_copyFrom_X0 : ∀ w ∈ wsX00, w ∈ wsX0_copyFrom := fun _ h => List.mem_cons_of_mem _ (List.mem_append_right _ h)
set_option maxHeartbeats 200000 in
set_option maxRecDepth 100000 in
theorem c_copyFrom (l : Launch) (dC : Nat → ClassId) (dI : Nat → Nat → Nat) (cI cJ cO : ClassId) (hz : Nat) (o : Nat) (ar : Nat) (cap : Nat) (f : Nat → Int32) (sz : Nat) (o2 : Nat) (ar2 : Nat) (cap2 : Nat) (f2 : Nat → Int32) (sz2 : Nat) (fs : Nat) (en : Nat) (h1 : fs ≤ en) (h2 : en ≤ sz2) (h3 : sz2 ≤ cap2) (h4 : cap2 ≤ 4001) (h5 : cap ≤ 4001) : Met l yX0_copyFrom wsX0_copyFrom ({ frames := 3, cells := gmc (en - fs) cap, slots := gms (en - fs) cap, locals := 84 }) (va_Pc [.ref o, .ref o2, .int (nI fs), .int (nI en)] (PW dC dI cI cJ cO [(o, .inr (0, [.ref ar, .int (nI sz)])), (ar, .inl (cI, (cap * 8), .inl f)), (o2, .inr (0, [.ref ar2, .int (nI sz2)])), (ar2, .inl (cI, (cap2 * 8), .inl f2))] hz)) (va_Qv (fun u : Nat × Nat × (Nat → Int32) => u.2.1 = gcap (en - fs) cap ∧ ∀ j, j < (en - fs) * 8 → u.2.2 j = f2 (fs * 8 + j)) (fun (u : Nat × Nat × (Nat → Int32)) t9 => BW dC dI (va_A [(o, .inr (0, [.ref ar, .int (nI sz)])), (ar, .inl (cI, (cap * 8), .inl f)), (o2, .inr (0, [.ref ar2, .int (nI sz2)])), (ar2, .inl (cI, (cap2 * 8), .inl f2))] hz) [(o, .inr (0, [.ref u.1, .int (nI (en - fs))])), (u.1, .inl (cI, (u.2.1 * 8), .inl u.2.2)), (o2, .inr (0, [.ref ar2, .int (nI sz2)])), (ar2, .inl (cI, (cap2 * 8), .inl f2))] t9) (va_A [(o, .inr (0, [.ref ar, .int (nI sz)])), (ar, .inl (cI, (cap * 8), .inl f)), (o2, .inr (0, [.ref ar2, .int (nI sz2)])), (ar2, .inl (cI, (cap2 * 8), .inl f2))] hz)) (gmc (en - fs) cap) (gms (en - fs) cap) (va_A [(o, .inr (0, [.ref ar, .int (nI sz)])), (ar, .inl (cI, (cap * 8), .inl f)), (o2, .inr (0, [.ref ar2, .int (nI sz2)])), (ar2, .inl (cI, (cap2 * 8), .inl f2))] hz) := by
  refine my_metW (ws := wsX0_copyFrom) (cc := cX0_copyFrom) (maxL := 5) (ret := none) (Qc := fun A => va_Qv (fun u : Nat × Nat × (Nat → Int32) => u.2.1 = gcap (en - fs) cap ∧ ∀ j, j < (en - fs) * 8 → u.2.2 j = f2 (fs * 8 + j)) (fun (u : Nat × Nat × (Nat → Int32)) t9 => BW dC dI A [(o, .inr (0, [.ref u.1, .int (nI (en - fs))])), (u.1, .inl (cI, (u.2.1 * 8), .inl u.2.2)), (o2, .inr (0, [.ref ar2, .int (nI sz2)])), (ar2, .inl (cI, (cap2 * 8), .inl f2))] t9) A) (by decide) rfl (Nat.le_of_ble_eq_true rfl) ?_
  intro p e s m below meth c ls A X hl hK hA hP hD hS
  obtain ⟨hx, hb, hr, hml, hown, hts, hlocks, hnm⟩ := id X
  have hl : lv_has ls 5 [(0, .ref o), (1, .ref o2), (2, .int (nI fs)), (3, .int (nI en))] := hl
  refine lv_aload_n hx hb dX0_copyFrom_0 rfl (lv_at hl 0 rfl) ?_
  refine lv_iconst (v := 0) hx hb dX0_copyFrom_1 (by decide) ?_
  refine my_put X hK in_X0_copyFrom_X0 tyX0 tyX0_ok nmX0 hP hD hS 0 rfl rfl 1 (by decide) (List.mem_of_getElem? (i := 1) rfl) rfl rfl rfl (Nat.le_of_ble_eq_true rfl) dX0_copyFrom_2 (fun H locs hP hD hS => ?_)
  have hP : va_P (dC, dI) vwCl ([(o, .inr (0, [.ref ar, .int 0])), (ar, .inl (cI, (cap * 8), .inl f)), (o2, .inr (0, [.ref ar2, .int (nI sz2)])), (ar2, .inl (cI, (cap2 * 8), .inl f2))]) H := hP
  have hD : va_D A ([(o, .inr (0, [.ref ar, .int 0])), (ar, .inl (cI, (cap * 8), .inl f)), (o2, .inr (0, [.ref ar2, .int (nI sz2)])), (ar2, .inl (cI, (cap2 * 8), .inl f2))]) := hD
  refine lv_iload_n hx hb dX0_copyFrom_5 rfl (lv_at hl 2 rfl) ?_
  refine lv_if_lt (tgt := 22) hx hb dX0_copyFrom_6 (by decide) (fun c_6 => ?_) (fun c_6 => ?_)
  · have c_6 := nc_lt (a := fs) (b := 0) c_6 (by omega) (by omega)
    exact False.elim (by omega)
  · have c_6 := nc_nlt (a := fs) (b := 0) c_6 (by omega) (by omega)
    refine lv_iload_n hx hb dX0_copyFrom_9 rfl (lv_at hl 3 rfl) ?_
    refine lv_aload_n hx hb dX0_copyFrom_10 rfl (lv_at hl 1 rfl) ?_
    refine my_get X hK in_X0_copyFrom_X0 hP 2 rfl rfl 1 (by decide) (List.mem_of_getElem? (i := 1) rfl) rfl dX0_copyFrom_11 ?_
    refine lv_icmp_gt (tgt := 22) hx hb dX0_copyFrom_14 (by decide) (fun c_14 => ?_) (fun c_14 => ?_)
    · have c_14 := nc_lt (a := sz2) (b := en) c_14 (by omega) (by omega)
      exact False.elim (by omega)
    · have c_14 := nc_nlt (a := sz2) (b := en) c_14 (by omega) (by omega)
      refine lv_iload_n hx hb dX0_copyFrom_17 rfl (lv_at hl 2 rfl) ?_
      refine lv_iload_n hx hb dX0_copyFrom_18 rfl (lv_at hl 3 rfl) ?_
      refine lv_icmp_le (tgt := 23) hx hb dX0_copyFrom_19 (by decide) (fun c_19 => ?_) (fun c_19 => ?_)
      · have c_19 := nc_le (a := fs) (b := en) c_19 (by omega) (by omega)
        refine lv_iload_n hx hb dX0_copyFrom_23 rfl (lv_at hl 3 rfl) ?_
        refine lv_iload_n hx hb dX0_copyFrom_24 rfl (lv_at hl 2 rfl) ?_
        refine lv_isub hx hb dX0_copyFrom_25 ?_
        refine my_topi (pk_sub (a := en) (b := fs) (by omega)) ?_
        refine lv_istore (lv' := [(4, .int (nI (en - fs))), (0, .ref o), (1, .ref o2), (2, .int (nI fs)), (3, .int (nI en))]) hx hb dX0_copyFrom_26 hl (by decide) rfl (fun ls hl => ?_)
        refine lv_aload_n hx hb dX0_copyFrom_28 rfl (lv_at hl 1 rfl) ?_
        refine lv_iload hx hb dX0_copyFrom_29 (lv_at hl 0 rfl) ?_
        have hPc := hP.sub (ws' := [(o, .inr (0, [.ref ar, .int 0])), (ar, .inl (cI, (cap * 8), .inl f))]) [0, 1] rfl
        have hDc := hD.sub (ws' := [(o, .inr (0, [.ref ar, .int 0])), (ar, .inl (cI, (cap * 8), .inl f))]) [0, 1] (by decide) rfl
        refine my_callv (ws := [(o, .inr (0, [.ref ar, .int 0])), (ar, .inl (cI, (cap * 8), .inl f)), (o2, .inr (0, [.ref ar2, .int (nI sz2)])), (ar2, .inl (cI, (cap2 * 8), .inl f2))]) (F := []) (wr := [(o2, .inr (0, [.ref ar2, .int (nI sz2)])), (ar2, .inl (cI, (cap2 * 8), .inl f2))]) (my_runV (n := 1) (As := [.int (nI (en - fs))]) (rest := []) (C := RX0) X PW.blind (PW.pre hPc hDc hK) (va_recv hK.1 hPc (ci := 0) (q0 := 0) rfl rfl) (c_makeRoom l dC dI cI cJ cO _ o ar cap f 0 (en - fs) (by omega) (by omega)) gX0_copyFrom_X0_makeRoom rfl rfl rfl (by decide +kernel) rfl ⟨Nat.le_of_ble_eq_true rfl, Nat.le_of_ble_eq_true rfl⟩ hl.1 rfl (Nat.le_of_ble_eq_true rfl) dX0_copyFrom_31 ⟨by show 0 + _ ≤ gmc (en - fs) cap; omega, by show 0 + _ ≤ gms (en - fs) cap; omega⟩) hS hP hD hA [0, 1] [2, 3] rfl rfl (by decide) (by decide) (fun u H locs hw_1 hP hD hS => ?_)
        obtain ⟨ar1_2, cap1_3, f1_4⟩ := u
        try dsimp only at hw_1
        have hP : va_P (dC, dI) vwCl [(o, .inr (0, [.ref ar1_2, .int (nI 0)])), (o2, .inr (0, [.ref ar2, .int (nI sz2)])), (ar2, .inl (cI, (cap2 * 8), .inl f2)), (ar1_2, .inl (cI, (cap1_3 * 8), .inl f1_4))] H := hP.sub [2, 0, 1, 3] rfl
        have hD : va_D A [(o, .inr (0, [.ref ar1_2, .int (nI 0)])), (o2, .inr (0, [.ref ar2, .int (nI sz2)])), (ar2, .inl (cI, (cap2 * 8), .inl f2)), (ar1_2, .inl (cI, (cap1_3 * 8), .inl f1_4))] := hD.sub [2, 0, 1, 3] (by decide) rfl
        have hge := gcap_ge (en - fs) cap (by omega)
        have hle := gcap_le (en - fs) cap h5
        obtain ⟨hc1, hf1⟩ := hw_1
        refine lv_iload hx hb dX0_copyFrom_34 (lv_at hl 0 rfl) ?_
        refine lv_bipush (v := 8) hx hb dX0_copyFrom_36 (by decide) ?_
        refine lv_imul hx hb dX0_copyFrom_38 ?_
        refine my_topi (pk_mul (en - fs) 8) ?_
        refine lv_aload_n hx hb dX0_copyFrom_39 rfl (lv_at hl 1 rfl) ?_
        refine my_get X hK in_X0_copyFrom_X0 hP 0 rfl rfl 0 (by decide) (List.mem_of_getElem? (i := 2) rfl) rfl dX0_copyFrom_40 ?_
        refine va_alen (v := nI (cap1_3 * 8)) hx hb hK.1 hP 3 0 rfl rfl rfl dX0_copyFrom_43 ?_
        refine lv_icmp_gt (tgt := 74) hx hb dX0_copyFrom_44 (by decide) (fun c_44 => ?_) (fun c_44 => ?_)
        · have c_44 := nc_lt (a := cap1_3 * 8) (b := (en - fs) * 8) c_44 (by omega) (by omega)
          exact False.elim (by omega)
        · have c_44 := nc_nlt (a := cap1_3 * 8) (b := (en - fs) * 8) c_44 (by omega) (by omega)
          refine lv_aload_n hx hb dX0_copyFrom_47 rfl (lv_at hl 2 rfl) ?_
          refine my_get X hK in_X0_copyFrom_X0 hP 1 rfl rfl 0 (by decide) (List.mem_of_getElem? (i := 2) rfl) rfl dX0_copyFrom_48 ?_
          refine lv_iload_n hx hb dX0_copyFrom_51 rfl (lv_at hl 3 rfl) ?_
          refine lv_bipush (v := 8) hx hb dX0_copyFrom_52 (by decide) ?_
          refine lv_imul hx hb dX0_copyFrom_54 ?_
          refine my_topi (pk_mul fs 8) ?_
          refine lv_aload_n hx hb dX0_copyFrom_55 rfl (lv_at hl 1 rfl) ?_
          refine my_get X hK in_X0_copyFrom_X0 hP 0 rfl rfl 0 (by decide) (List.mem_of_getElem? (i := 2) rfl) rfl dX0_copyFrom_56 ?_
          refine lv_iconst (v := 0) hx hb dX0_copyFrom_59 (by decide) ?_
          refine lv_iload hx hb dX0_copyFrom_60 (lv_at hl 0 rfl) ?_
          refine lv_bipush (v := 8) hx hb dX0_copyFrom_62 (by decide) ?_
          refine lv_imul hx hb dX0_copyFrom_64 ?_
          refine my_topi (pk_mul (en - fs) 8) ?_
          refine my_copyi (sp := (fs * 8)) (dp := 0) (n := ((en - fs) * 8)) X hK (List.mem_of_getElem? (i := 3) rfl) (List.mem_of_getElem? (i := 4) rfl) (List.mem_of_getElem? (i := 5) rfl) (List.mem_of_getElem? (i := 6) rfl) hP hD hS 2 3 rfl rfl rfl rfl rfl (by omega) (by omega) (by omega) (by omega) (Nat.le_of_ble_eq_true rfl) (Nat.le_of_ble_eq_true rfl) hl.1 dX0_copyFrom_65 (fun H locs hP hD hS => ?_)
          have hP : va_P (dC, dI) vwCl ([(o, .inr (0, [.ref ar1_2, .int (nI 0)])), (o2, .inr (0, [.ref ar2, .int (nI sz2)])), (ar2, .inl (cI, (cap2 * 8), .inl f2)), (ar1_2, .inl (cI, (cap1_3 * 8), .inl (va_cpy f2 f1_4 (fs * 8) 0 ((en - fs) * 8))))]) H := hP
          have hD : va_D A ([(o, .inr (0, [.ref ar1_2, .int (nI 0)])), (o2, .inr (0, [.ref ar2, .int (nI sz2)])), (ar2, .inl (cI, (cap2 * 8), .inl f2)), (ar1_2, .inl (cI, (cap1_3 * 8), .inl (va_cpy f2 f1_4 (fs * 8) 0 ((en - fs) * 8))))]) := hD
          refine lv_aload_n hx hb dX0_copyFrom_68 rfl (lv_at hl 1 rfl) ?_
          refine lv_iload hx hb dX0_copyFrom_69 (lv_at hl 0 rfl) ?_
          refine my_put X hK in_X0_copyFrom_X0 tyX0 tyX0_ok nmX0 hP hD hS 0 rfl rfl 1 (by decide) (List.mem_of_getElem? (i := 1) rfl) rfl rfl rfl (Nat.le_of_ble_eq_true rfl) dX0_copyFrom_71 (fun H locs hP hD hS => ?_)
          have hP : va_P (dC, dI) vwCl ([(o, .inr (0, [.ref ar1_2, .int (nI (en - fs))])), (o2, .inr (0, [.ref ar2, .int (nI sz2)])), (ar2, .inl (cI, (cap2 * 8), .inl f2)), (ar1_2, .inl (cI, (cap1_3 * 8), .inl (va_cpy f2 f1_4 (fs * 8) 0 ((en - fs) * 8))))]) H := hP
          have hD : va_D A ([(o, .inr (0, [.ref ar1_2, .int (nI (en - fs))])), (o2, .inr (0, [.ref ar2, .int (nI sz2)])), (ar2, .inl (cI, (cap2 * 8), .inl f2)), (ar1_2, .inl (cI, (cap1_3 * 8), .inl (va_cpy f2 f1_4 (fs * 8) 0 ((en - fs) * 8))))]) := hD
          exact my_vret (WSf := (fun u : Nat × Nat × (Nat → Int32) => [(o, .inr (0, [.ref u.1, .int (nI (en - fs))])), (u.1, .inl (cI, (u.2.1 * 8), .inl u.2.2)), (o2, .inr (0, [.ref ar2, .int (nI sz2)])), (ar2, .inl (cI, (cap2 * 8), .inl f2))])) (ar1_2, cap1_3, va_cpy f2 f1_4 (fs * 8) 0 ((en - fs) * 8)) X (⟨hc1, fun j hj => my_cpy (by omega)⟩) (hP.sub [0, 3, 1, 2] rfl) (hD.sub [0, 3, 1, 2] (by decide) rfl) hS (by omega) (by omega) dX0_copyFrom_74
      · have c_19 := nc_nle (a := fs) (b := en) c_19 (by omega) (by omega)
        exact False.elim (by omega)
theorem in_X0_init_X0 : ∀ w ∈ wsX00, w ∈ wsX0_init := fun _ h => List.mem_cons_of_mem _ (List.mem_append_right _ h)
set_option maxHeartbeats 200000 in
set_option maxRecDepth 100000 in
theorem c_Items_init (l : Launch) (dC : Nat → ClassId) (dI : Nat → Nat → Nat) (cI cJ cO : ClassId) (hz : Nat) (o : Nat) (rm : Nat) (h0 : 0 < rm) (h1 : rm ≤ 4001) : Met l yX0_init wsX0_init ({ frames := 1, cells := 1, slots := rm * 8, locals := 12 }) (va_Pc [.ref o, .int (nI rm)] (PW dC dI cI cJ cO [(o, .inr (0, [.null, .int 0]))] hz)) (va_Qv (fun q : Nat => True) (fun (q : Nat) t9 => BW dC dI (va_A [(o, .inr (0, [.null, .int 0]))] hz) [(o, .inr (0, [.ref q, .int (nI 0)])), (q, .inl (cI, (rm * 8), .inl (fun _ => 0)))] t9) (va_A [(o, .inr (0, [.null, .int 0]))] hz)) 1 (rm * 8) (va_A [(o, .inr (0, [.null, .int 0]))] hz) := by
  refine my_metW (ws := wsX0_init) (cc := cX0_init) (maxL := 2) (ret := none) (Qc := fun A => va_Qv (fun q : Nat => True) (fun (q : Nat) t9 => BW dC dI A [(o, .inr (0, [.ref q, .int (nI 0)])), (q, .inl (cI, (rm * 8), .inl (fun _ => 0)))] t9) A) (by decide) rfl (Nat.le_of_ble_eq_true rfl) ?_
  intro p e s m below meth c ls A X hl hK hA hP hD hS
  obtain ⟨hx, hb, hr, hml, hown, hts, hlocks, hnm⟩ := id X
  have hl : lv_has ls 2 [(0, .ref o), (1, .int (nI rm))] := hl
  refine lv_aload_n hx hb dX0_init_0 rfl (lv_at hl 0 rfl) ?_
  refine W.objInit hx hb hown (hts _ (List.mem_of_getElem? (i := 1) rfl)) (hts _ (List.mem_of_getElem? (i := 2) rfl)) (hts _ (List.mem_of_getElem? (i := 3) rfl)) rfl (by rw [hml]; exact hl.1) rfl dX0_init_1 (Nat.le_of_ble_eq_true rfl) (Nat.le_of_ble_eq_true rfl) ?_
  refine W.eq (g2 := F0 m 4 ls []) rfl ?_
  refine lv_aload_n hx hb dX0_init_4 rfl (lv_at hl 0 rfl) ?_
  refine lv_iload_n hx hb dX0_init_5 rfl (lv_at hl 1 rfl) ?_
  refine lv_if_le (tgt := 16) hx hb dX0_init_6 (by decide) (fun c_6 => ?_) (fun c_6 => ?_)
  · have c_6 := nc_le (a := rm) (b := 0) c_6 (by omega) (by omega)
    exact False.elim (by omega)
  · have c_6 := nc_nle (a := rm) (b := 0) c_6 (by omega) (by omega)
    refine lv_iload_n hx hb dX0_init_9 rfl (lv_at hl 1 rfl) ?_
    refine lv_bipush (v := 8) hx hb dX0_init_10 (by decide) ?_
    refine lv_imul hx hb dX0_init_12 ?_
    refine my_topi (pk_mul rm 8) ?_
    refine lv_goto (tgt := 18) hx hb dX0_init_13 (by decide) ?_
    refine my_newi (N := (rm * 8)) X hK (List.mem_of_getElem? (i := 4) rfl) hP hD hS hA (rfl) (by omega) (by omega) (by first | decide | omega | (dsimp only; omega)) (by first | decide | omega | (dsimp only; omega)) dX0_init_18 (fun q_1 H hP hD hS => ?_)
    have hP : va_P (dC, dI) vwCl ([(o, .inr (0, [.null, .int 0])), (q_1, .inl (cI, (rm * 8), .inl (fun _ => 0)))]) H := hP
    have hD : va_D A ([(o, .inr (0, [.null, .int 0])), (q_1, .inl (cI, (rm * 8), .inl (fun _ => 0)))]) := hD
    refine my_put X hK in_X0_init_X0 tyX0 tyX0_ok nmX0 hP hD hS 0 rfl rfl 0 (by decide) (List.mem_of_getElem? (i := 5) rfl) rfl rfl rfl (Nat.le_of_ble_eq_true rfl) dX0_init_20 (fun H locs hP hD hS => ?_)
    have hP : va_P (dC, dI) vwCl ([(o, .inr (0, [.ref q_1, .int 0])), (q_1, .inl (cI, (rm * 8), .inl (fun _ => 0)))]) H := hP
    have hD : va_D A ([(o, .inr (0, [.ref q_1, .int 0])), (q_1, .inl (cI, (rm * 8), .inl (fun _ => 0)))]) := hD
    exact my_vret (WSf := (fun q : Nat => [(o, .inr (0, [.ref q, .int (nI 0)])), (q, .inl (cI, (rm * 8), .inl (fun _ => 0)))])) q_1 X (trivial) (hP) (hD) hS (by omega) (by omega) dX0_init_23
