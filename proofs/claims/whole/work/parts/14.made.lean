set_option maxHeartbeats 200000 in
set_option maxRecDepth 100000 in
theorem c_within (l : Launch) (dC : Nat → ClassId) (dI : Nat → Nat → Nat) (cI cJ cO : ClassId) (v : Int64)  : Met l yX1_within wsX1_within ({ frames := 1, cells := 0, slots := 0, locals := 21 }) (va_Pc [.long v] (PR dC dI cI cJ cO [])) (vp_Si (fun r : Int32 => r = wth v)) 0 0 (fun _ => False) := by
  refine my_met (ws := wsX1_within) (cc := cX1_within) (maxL := 2) (ret := (some .int)) (by decide) rfl (Nat.le_of_ble_eq_true rfl) ?_
  intro p e s m below meth c ls X hl hv
  obtain ⟨hP, hK⟩ := hv
  obtain ⟨hx, hb, hr, hml, hown, hts, hlocks, hnm⟩ := id X
  have hl : lv_has ls 2 [(0, .long v)] := hl
  refine lv_ldc2 (v := (-2147483647)) hx hb hown (hts _ (List.mem_of_getElem? (i := 1) rfl)) dX1_within_0 ?_
  refine lv_ldc2 (v := (2147483647)) hx hb hown (hts _ (List.mem_of_getElem? (i := 2) rfl)) dX1_within_3 ?_
  refine lv_lload_n hx hb dX1_within_6 rfl (lv_at hl 0 rfl) ?_
  refine va_mmin_long hx hb (hml.trans hl.1.symm) hown (hts _ (List.mem_of_getElem? (i := 3) rfl)) (hts _ (List.mem_of_getElem? (i := 4) rfl)) (hts _ (List.mem_of_getElem? (i := 5) rfl)) (hts _ (List.mem_of_getElem? (i := 6) rfl)) (Nat.le_of_ble_eq_true rfl) (Nat.le_of_ble_eq_true rfl) (by first | decide | omega | (dsimp only; omega)) (by first | decide | omega | (dsimp only; omega)) dX1_within_7 ?_
  refine va_mmax_long hx hb (hml.trans hl.1.symm) hown (hts _ (List.mem_of_getElem? (i := 7) rfl)) (hts _ (List.mem_of_getElem? (i := 8) rfl)) (hts _ (List.mem_of_getElem? (i := 5) rfl)) (hts _ (List.mem_of_getElem? (i := 9) rfl)) (Nat.le_of_ble_eq_true rfl) (Nat.le_of_ble_eq_true rfl) (by first | decide | omega | (dsimp only; omega)) (by first | decide | omega | (dsimp only; omega)) dX1_within_10 ?_
  refine lv_l2i (v := (if (if v < (2147483647) then v else (2147483647)) < (-2147483647) then (-2147483647) else (if v < (2147483647) then v else (2147483647))).toInt32) hx hb dX1_within_13 rfl ?_
  exact my_iretR X (rfl) dX1_within_14
theorem in_X1_shareOf_X1 : ∀ w ∈ wsX10, w ∈ wsX1_shareOf := fun _ h => List.mem_cons_of_mem _ (List.mem_append_left _ (List.mem_append_right _ h))
set_option maxHeartbeats 200000 in
set_option maxRecDepth 100000 in
theorem c_shareOf (l : Launch) (dC : Nat → ClassId) (dI : Nat → Nat → Nat) (cI cJ cO : ClassId) (mp : Nat) (mh : Int32) (md : Int32) (mw : Int32) (o : Nat) (ar : Nat) (cap : Nat) (f : Nat → Int32) (sz : Nat) (k : Nat) (od : Int32) (hk : k < sz) (hsz : sz ≤ cap) (hcap : cap ≤ 4001) : Met l yX1_shareOf wsX1_shareOf ({ frames := 1, cells := 0, slots := 0, locals := 23 }) (va_Pc [.ref mp, .int (nI k), .int od] (PR dC dI cI cJ cO [(mp, .inr (1, [.ref o, .int mh, .int md, .int mw])), (o, .inr (0, [.ref ar, .int (nI sz)])), (ar, .inl (cI, (cap * 8), .inl f))])) (vp_Si (fun r : Int32 => r = shr (fun j => f (k * 8 + j)) od)) 0 0 (fun _ => False) := by
  refine my_met (ws := wsX1_shareOf) (cc := cX1_shareOf) (maxL := 3) (ret := (some .int)) (by decide) rfl (Nat.le_of_ble_eq_true rfl) ?_
  intro p e s m below meth c ls X hl hv
  obtain ⟨hP, hK⟩ := hv
  obtain ⟨hx, hb, hr, hml, hown, hts, hlocks, hnm⟩ := id X
  have hl : lv_has ls 3 [(0, .ref mp), (1, .int (nI k)), (2, .int od)] := hl
  refine lv_iload_n hx hb dX1_shareOf_0 rfl (lv_at hl 2 rfl) ?_
  refine lv_iconst (v := (-1)) hx hb dX1_shareOf_1 (by decide) ?_
  refine lv_icmp_ne (tgt := 16) hx hb dX1_shareOf_2 (by decide) (fun c_2 => ?_) (fun c_2 => ?_)
  · refine lv_aload_n hx hb dX1_shareOf_16 rfl (lv_at hl 0 rfl) ?_
    refine my_get X hK in_X1_shareOf_X1 hP 0 rfl rfl 0 (by decide) (List.mem_of_getElem? (i := 1) rfl) rfl dX1_shareOf_17 ?_
    refine lv_iload_n hx hb dX1_shareOf_20 rfl (lv_at hl 1 rfl) ?_
    refine lv_bipush (v := 6) hx hb dX1_shareOf_21 (by decide) ?_
    have hPc := hP.sub (ws' := [(o, .inr (0, [.ref ar, .int (nI sz)])), (ar, .inl (cI, (cap * 8), .inl f))]) [1, 2] rfl
    refine my_rdi (my_runV (n := 2) (As := [.int (nI k), .int 6]) (rest := []) (C := RX0) X PR.blind (PR.pre hPc hK) (va_recv hK.1 hPc (ci := 0) (q0 := 0) rfl rfl) (c_at l dC dI cI cJ cO o ar cap f sz k 6 (by omega) (by omega) (by omega) (by omega)) gX1_shareOf_X0_at rfl rfl rfl (by decide +kernel) rfl ⟨Nat.le_of_ble_eq_true rfl, Nat.le_of_ble_eq_true rfl⟩ hl.1 rfl (Nat.le_of_ble_eq_true rfl) dX1_shareOf_23 ⟨by first | decide | omega | (dsimp only; omega), by first | decide | omega | (dsimp only; omega)⟩) (fun r_1 hr_1 => ?_)
    subst hr_1
    refine lv_iload_n hx hb dX1_shareOf_26 rfl (lv_at hl 2 rfl) ?_
    refine lv_icmp_ne (tgt := 42) hx hb dX1_shareOf_27 (by decide) (fun c_27 => ?_) (fun c_27 => ?_)
    · refine lv_iconst (v := 0) hx hb dX1_shareOf_42 (by decide) ?_
      exact my_iretR X (by simp [shr, c_2, c_27]) dX1_shareOf_43
    · refine lv_aload_n hx hb dX1_shareOf_30 rfl (lv_at hl 0 rfl) ?_
      refine my_get X hK in_X1_shareOf_X1 hP 0 rfl rfl 0 (by decide) (List.mem_of_getElem? (i := 1) rfl) rfl dX1_shareOf_31 ?_
      refine lv_iload_n hx hb dX1_shareOf_34 rfl (lv_at hl 1 rfl) ?_
      refine lv_iconst (v := 5) hx hb dX1_shareOf_35 (by decide) ?_
      have hPc := hP.sub (ws' := [(o, .inr (0, [.ref ar, .int (nI sz)])), (ar, .inl (cI, (cap * 8), .inl f))]) [1, 2] rfl
      refine my_rdi (my_runV (n := 2) (As := [.int (nI k), .int 5]) (rest := []) (C := RX0) X PR.blind (PR.pre hPc hK) (va_recv hK.1 hPc (ci := 0) (q0 := 0) rfl rfl) (c_at l dC dI cI cJ cO o ar cap f sz k 5 (by omega) (by omega) (by omega) (by omega)) gX1_shareOf_X0_at rfl rfl rfl (by decide +kernel) rfl ⟨Nat.le_of_ble_eq_true rfl, Nat.le_of_ble_eq_true rfl⟩ hl.1 rfl (Nat.le_of_ble_eq_true rfl) dX1_shareOf_36 ⟨by first | decide | omega | (dsimp only; omega), by first | decide | omega | (dsimp only; omega)⟩) (fun r_2 hr_2 => ?_)
      subst hr_2
      refine lv_goto (tgt := 43) hx hb dX1_shareOf_39 (by decide) ?_
      exact my_iretR X (by simp [shr, c_2, c_27]) dX1_shareOf_43
  · refine lv_aload_n hx hb dX1_shareOf_5 rfl (lv_at hl 0 rfl) ?_
    refine my_get X hK in_X1_shareOf_X1 hP 0 rfl rfl 0 (by decide) (List.mem_of_getElem? (i := 1) rfl) rfl dX1_shareOf_6 ?_
    refine lv_iload_n hx hb dX1_shareOf_9 rfl (lv_at hl 1 rfl) ?_
    refine lv_bipush (v := 7) hx hb dX1_shareOf_10 (by decide) ?_
    have hPc := hP.sub (ws' := [(o, .inr (0, [.ref ar, .int (nI sz)])), (ar, .inl (cI, (cap * 8), .inl f))]) [1, 2] rfl
    refine my_rdi (my_runV (n := 2) (As := [.int (nI k), .int 7]) (rest := []) (C := RX0) X PR.blind (PR.pre hPc hK) (va_recv hK.1 hPc (ci := 0) (q0 := 0) rfl rfl) (c_at l dC dI cI cJ cO o ar cap f sz k 7 (by omega) (by omega) (by omega) (by omega)) gX1_shareOf_X0_at rfl rfl rfl (by decide +kernel) rfl ⟨Nat.le_of_ble_eq_true rfl, Nat.le_of_ble_eq_true rfl⟩ hl.1 rfl (Nat.le_of_ble_eq_true rfl) dX1_shareOf_12 ⟨by first | decide | omega | (dsimp only; omega), by first | decide | omega | (dsimp only; omega)⟩) (fun r_3 hr_3 => ?_)
    subst hr_3
    exact my_iretR X (by simp [shr, c_2]) dX1_shareOf_15
theorem in_X1_spread_X1 : ∀ w ∈ wsX10, w ∈ wsX1_spread := fun _ h => List.mem_cons_of_mem _ (List.mem_append_left _ (List.mem_append_right _ h))
set_option maxHeartbeats 200000 in
set_option maxRecDepth 100000 in
theorem lp_spread {p : Program} {l : Launch} {e : Env} {s : State} {m : MethodId} {below : List Frame} {meth : Method} {c : Code} {dC : Nat → ClassId} {dI : Nat → Nat → Nat} {cI cJ cO : ClassId} {A : Nat → Prop} (mp : Nat) (mh : Int32) (md : Int32) (mw : Int32) (o : Nat) (ar : Nat) (cap : Nat) (f : Nat → Int32) (sz : Nat) (ex : Int64) (sv : Int64) (od : Int32) (hsz : sz ≤ cap) (hcap : cap ≤ 4001) (X : Cx p s m ([.ref mp, .long ex, .long sv, .int od] : List Value).toArray meth c cX1_spread none 13 yX1_spread.cls yX1_spread.name wsX1_spread) (hK : Kn dC dI cI cJ cO s) (hA : ∀ q : Nat, s.heap.size ≤ q → A q) : ∀ (fu9 : Nat) (i : Nat) (hi : i ≤ sz), sz - i < fu9 → ∀ (H : Heap) (locs : List Loc), va_P (dC, dI) vwCl ([(mp, .inr (1, [.ref o, .int mh, .int md, .int mw])), (o, .inr (0, [.ref ar, .int (nI sz)])), (ar, .inl (cI, (cap * 8), .inl (spF f ex sv od i)))]) H → va_D A ([(mp, .inr (1, [.ref o, .int mh, .int md, .int mw])), (o, .inr (0, [.ref ar, .int (nI sz)])), (ar, .inl (cI, (cap * 8), .inl (spF f ex sv od i)))]) → va_S A s.heap H locs → ∀ (ls : Array Slot), lv_has ls 13 [(0, .ref mp), (1, .long ex), (3, .long sv), (5, .int od), (6, .long (spB f od i)), (8, .int (nI i))] → W p l e ({ frames := 2, cells := 0, slots := 0, locals := 45 }) s m ([.ref mp, .long ex, .long sv, .int od] : List Value).toArray below meth c H locs (0) (0) (MQ below (va_Qv (fun f1 : Nat → Int32 => f1 = (spF f ex sv od sz)) (fun (f1 : Nat → Int32) t9 => BW dC dI A [(mp, .inr (1, [.ref o, .int mh, .int md, .int mw])), (o, .inr (0, [.ref ar, .int (nI sz)])), (ar, .inl (cI, (cap * 8), .inl f1))] t9) A) ([.ref mp, .long ex, .long sv, .int od] : List Value).toArray s 0 0 A) (F0 m 6 ls []) := by
  obtain ⟨hx, hb, hr, hml, hown, hts, hlocks, hnm⟩ := id X
  intro fu9
  induction fu9 with
  | zero =>
    intro i hi hfu
    exact absurd hfu (Nat.not_lt_zero _)
  | succ fu9 ih =>
    intro i hi hfu H locs hP hD hS ls hl
    refine lv_iload hx hb dX1_spread_6 (lv_at hl 5 rfl) ?_
    refine lv_aload_n hx hb dX1_spread_8 rfl (lv_at hl 0 rfl) ?_
    refine my_get X hK in_X1_spread_X1 hP 0 rfl rfl 0 (by decide) (List.mem_of_getElem? (i := 1) rfl) rfl dX1_spread_9 ?_
    have hPc := hP.sub (ws' := [(o, .inr (0, [.ref ar, .int (nI sz)])), (ar, .inl (cI, (cap * 8), .inl (spF f ex sv od i)))]) [1, 2] rfl
    refine my_rdi (my_runV (n := 0) (As := []) (rest := [.int (nI i)]) (C := RX0) X PR.blind (PR.pre hPc hK) (va_recv hK.1 hPc (ci := 0) (q0 := 0) rfl rfl) (c_size l dC dI cI cJ cO o ar cap (spF f ex sv od i) sz ) gX1_spread_X0_size rfl rfl rfl (by decide +kernel) rfl ⟨Nat.le_of_ble_eq_true rfl, Nat.le_of_ble_eq_true rfl⟩ hl.1 rfl (Nat.le_of_ble_eq_true rfl) dX1_spread_12 ⟨by first | decide | omega | (dsimp only; omega), by first | decide | omega | (dsimp only; omega)⟩) (fun r_1 hr_1 => ?_)
    subst hr_1
    refine lv_icmp_ge (tgt := 102) hx hb dX1_spread_15 (by decide) (fun c_15 => ?_) (fun c_15 => ?_)
    · have c_15 := nc_le (a := sz) (b := i) c_15 (by omega) (by omega)
      exact my_vret (WSf := (fun f1 : Nat → Int32 => [(mp, .inr (1, [.ref o, .int mh, .int md, .int mw])), (o, .inr (0, [.ref ar, .int (nI sz)])), (ar, .inl (cI, (cap * 8), .inl f1))])) (spF f ex sv od i) X (by rw [show i = sz by omega]) (hP) (hD) hS (by first | decide | omega | (dsimp only; omega)) (by first | decide | omega | (dsimp only; omega)) dX1_spread_102
    · have c_15 := nc_nle (a := sz) (b := i) c_15 (by omega) (by omega)
      refine lv_aload_n hx hb dX1_spread_18 rfl (lv_at hl 0 rfl) ?_
      refine my_get X hK in_X1_spread_X1 hP 0 rfl rfl 0 (by decide) (List.mem_of_getElem? (i := 1) rfl) rfl dX1_spread_19 ?_
      refine lv_iload hx hb dX1_spread_22 (lv_at hl 5 rfl) ?_
      refine lv_iconst (v := 0) hx hb dX1_spread_24 (by decide) ?_
      have hPc := hP.sub (ws' := [(o, .inr (0, [.ref ar, .int (nI sz)])), (ar, .inl (cI, (cap * 8), .inl (spF f ex sv od i)))]) [1, 2] rfl
      refine my_rdi (my_runV (n := 2) (As := [.int (nI i), .int 0]) (rest := []) (C := RX0) X PR.blind (PR.pre hPc hK) (va_recv hK.1 hPc (ci := 0) (q0 := 0) rfl rfl) (c_at l dC dI cI cJ cO o ar cap (spF f ex sv od i) sz i 0 (by omega) (by omega) (by omega) (by omega)) gX1_spread_X0_at rfl rfl rfl (by decide +kernel) rfl ⟨Nat.le_of_ble_eq_true rfl, Nat.le_of_ble_eq_true rfl⟩ hl.1 rfl (Nat.le_of_ble_eq_true rfl) dX1_spread_25 ⟨by first | decide | omega | (dsimp only; omega), by first | decide | omega | (dsimp only; omega)⟩) (fun r_2 hr_2 => ?_)
      subst hr_2
      refine my_topi (show (spF f ex sv od i) (i * 8 + 0) = (spF f ex sv od i) (i * 8) from rfl) ?_
      refine my_topi (spF_k f ex sv od i i) ?_
      refine lv_iconst (v := 5) hx hb dX1_spread_28 (by decide) ?_
      refine lv_icmp_ne (tgt := 96) hx hb dX1_spread_29 (by decide) (fun c_29 => ?_) (fun c_29 => ?_)
      · refine lv_iinc (v := nI (i + 1)) (lv' := [(8, .int (nI (i + 1))), (0, .ref mp), (1, .long ex), (3, .long sv), (5, .int od), (6, .long (spB f od i))]) hx hb dX1_spread_96 hl (k := 5) rfl (nI_add i 1) (by decide) rfl (fun ls hl => ?_)
        refine lv_goto (tgt := 6) hx hb dX1_spread_99 (by decide) ?_
        rw [spF_n f ex sv od i c_29] at hP hD
        have eb : spB f od i = spB f od (i + 1) := by simp only [spB]; rw [if_neg c_29]
        rw [eb] at hl
        exact ih  (i + 1) (by omega) (by omega) _ _ hP hD hS ls (lv_sub hl [1, 2, 3, 4, 5, 0] rfl)
      · refine lv_lload hx hb dX1_spread_32 (lv_at hl 4 rfl) ?_
        refine lv_aload_n hx hb dX1_spread_34 rfl (lv_at hl 0 rfl) ?_
        refine lv_iload hx hb dX1_spread_35 (lv_at hl 5 rfl) ?_
        refine lv_iload hx hb dX1_spread_37 (lv_at hl 3 rfl) ?_
        have hPc := hP.sub (ws' := [(mp, .inr (1, [.ref o, .int mh, .int md, .int mw])), (o, .inr (0, [.ref ar, .int (nI sz)])), (ar, .inl (cI, (cap * 8), .inl (spF f ex sv od i)))]) [0, 1, 2] rfl
        refine my_rdi (my_runV (n := 2) (As := [.int (nI i), .int od]) (rest := [.long (spB f od i)]) (C := RX1) X PR.blind (PR.pre hPc hK) (va_recv hK.1 hPc (ci := 1) (q0 := 0) rfl rfl) (c_shareOf l dC dI cI cJ cO mp mh md mw o ar cap (spF f ex sv od i) sz i od (by omega) (by omega) (by omega)) gX1_spread_X1_shareOf rfl rfl rfl (by decide +kernel) rfl ⟨Nat.le_of_ble_eq_true rfl, Nat.le_of_ble_eq_true rfl⟩ hl.1 rfl (Nat.le_of_ble_eq_true rfl) dX1_spread_39 ⟨by first | decide | omega | (dsimp only; omega), by first | decide | omega | (dsimp only; omega)⟩) (fun r_3 hr_3 => ?_)
        subst hr_3
        refine my_topi (spF_sh f ex sv od od i i) ?_
        refine lv_i2l (v := (shr (fun j => f (i * 8 + j)) od).toInt64) hx hb dX1_spread_42 rfl ?_
        refine lv_ladd hx hb dX1_spread_43 ?_
        refine my_topl (y := spB f od (i + 1)) (by simp only [spB]; rw [if_pos c_29]) ?_
        refine lv_lstore (lv' := [(9, .long (spB f od (i + 1))), (0, .ref mp), (1, .long ex), (3, .long sv), (5, .int od), (6, .long (spB f od i)), (8, .int (nI i))]) hx hb dX1_spread_44 hl (by decide) rfl (fun ls hl => ?_)
        refine lv_lload_n hx hb dX1_spread_46 rfl (lv_at hl 2 rfl) ?_
        refine lv_lload hx hb dX1_spread_47 (lv_at hl 0 rfl) ?_
        refine lv_lmul hx hb dX1_spread_49 ?_
        refine lv_lload_n hx hb dX1_spread_50 rfl (lv_at hl 3 rfl) ?_
        have hPc := hP.sub (ws' := []) [] rfl
        refine my_rdl (my_runSN (n := 2) (As := [.long (ex * (spB f od (i + 1))), .long sv]) (rest := []) X hK PR.blind (PR.pre hPc hK) (c_near l dC dI cI cJ cO (ex * (spB f od (i + 1))) sv ) gX1_spread_X5_near_n80 rfl rfl rfl 3 rfl (List.mem_of_getElem? (i := 19) rfl) (List.mem_of_getElem? (i := 18) rfl) (by decide +kernel) rfl ⟨Nat.le_of_ble_eq_true rfl, Nat.le_of_ble_eq_true rfl⟩ hl.1 rfl (Nat.le_of_ble_eq_true rfl) dX1_spread_51 ⟨by first | decide | omega | (dsimp only; omega), by first | decide | omega | (dsimp only; omega)⟩) (fun r_4 hr_4 => ?_)
        subst hr_4
        refine lv_lload_n hx hb dX1_spread_54 rfl (lv_at hl 2 rfl) ?_
        refine lv_lload hx hb dX1_spread_55 (lv_at hl 5 rfl) ?_
        refine lv_lmul hx hb dX1_spread_57 ?_
        refine lv_lload_n hx hb dX1_spread_58 rfl (lv_at hl 3 rfl) ?_
        have hPc := hP.sub (ws' := []) [] rfl
        refine my_rdl (my_runSN (n := 2) (As := [.long (ex * (spB f od i)), .long sv]) (rest := [.long (nea (ex * (spB f od (i + 1))) sv)]) X hK PR.blind (PR.pre hPc hK) (c_near l dC dI cI cJ cO (ex * (spB f od i)) sv ) gX1_spread_X5_near_n80 rfl rfl rfl 3 rfl (List.mem_of_getElem? (i := 19) rfl) (List.mem_of_getElem? (i := 18) rfl) (by decide +kernel) rfl ⟨Nat.le_of_ble_eq_true rfl, Nat.le_of_ble_eq_true rfl⟩ hl.1 rfl (Nat.le_of_ble_eq_true rfl) dX1_spread_59 ⟨by first | decide | omega | (dsimp only; omega), by first | decide | omega | (dsimp only; omega)⟩) (fun r_5 hr_5 => ?_)
        subst hr_5
        refine lv_lsub hx hb dX1_spread_62 ?_
        refine lv_lstore (lv' := [(11, .long ((nea (ex * (spB f od (i + 1))) sv) - (nea (ex * (spB f od i)) sv))), (9, .long (spB f od (i + 1))), (0, .ref mp), (1, .long ex), (3, .long sv), (5, .int od), (6, .long (spB f od i)), (8, .int (nI i))]) hx hb dX1_spread_63 hl (by decide) rfl (fun ls hl => ?_)
        refine lv_aload_n hx hb dX1_spread_65 rfl (lv_at hl 2 rfl) ?_
        refine my_get X hK in_X1_spread_X1 hP 0 rfl rfl 0 (by decide) (List.mem_of_getElem? (i := 1) rfl) rfl dX1_spread_66 ?_
        refine lv_iload hx hb dX1_spread_69 (lv_at hl 7 rfl) ?_
        refine lv_iconst (v := 1) hx hb dX1_spread_71 (by decide) ?_
        refine lv_aload_n hx hb dX1_spread_72 rfl (lv_at hl 2 rfl) ?_
        refine my_get X hK in_X1_spread_X1 hP 0 rfl rfl 0 (by decide) (List.mem_of_getElem? (i := 1) rfl) rfl dX1_spread_73 ?_
        refine lv_iload hx hb dX1_spread_76 (lv_at hl 7 rfl) ?_
        refine lv_iconst (v := 1) hx hb dX1_spread_78 (by decide) ?_
        have hPc := hP.sub (ws' := [(o, .inr (0, [.ref ar, .int (nI sz)])), (ar, .inl (cI, (cap * 8), .inl (spF f ex sv od i)))]) [1, 2] rfl
        refine my_rdi (my_runV (n := 2) (As := [.int (nI i), .int 1]) (rest := [.int 1, .int (nI i), .ref o]) (C := RX0) X PR.blind (PR.pre hPc hK) (va_recv hK.1 hPc (ci := 0) (q0 := 0) rfl rfl) (c_at l dC dI cI cJ cO o ar cap (spF f ex sv od i) sz i 1 (by omega) (by omega) (by omega) (by omega)) gX1_spread_X0_at rfl rfl rfl (by decide +kernel) rfl ⟨Nat.le_of_ble_eq_true rfl, Nat.le_of_ble_eq_true rfl⟩ hl.1 rfl (Nat.le_of_ble_eq_true rfl) dX1_spread_79 ⟨by first | decide | omega | (dsimp only; omega), by first | decide | omega | (dsimp only; omega)⟩) (fun r_6 hr_6 => ?_)
        subst hr_6
        refine my_topi (spF_o f ex sv od i i 1 (Or.inr (Nat.le_refl _)) (by decide)) ?_
        refine lv_i2l (v := (f (i * 8 + 1)).toInt64) hx hb dX1_spread_82 rfl ?_
        refine lv_lload hx hb dX1_spread_83 (lv_at hl 0 rfl) ?_
        refine lv_ladd hx hb dX1_spread_85 ?_
        have hPc := hP.sub (ws' := []) [] rfl
        refine my_rdi (my_runS (n := 1) (As := [.long (((f (i * 8 + 1)).toInt64) + ((nea (ex * (spB f od (i + 1))) sv) - (nea (ex * (spB f od i)) sv)))]) (rest := [.int 1, .int (nI i), .ref o]) X PR.blind (PR.pre hPc hK) (c_within l dC dI cI cJ cO (((f (i * 8 + 1)).toInt64) + ((nea (ex * (spB f od (i + 1))) sv) - (nea (ex * (spB f od i)) sv))) ) gX1_spread_X1_within rfl rfl rfl (by decide +kernel) rfl ⟨Nat.le_of_ble_eq_true rfl, Nat.le_of_ble_eq_true rfl⟩ hl.1 rfl (Nat.le_of_ble_eq_true rfl) dX1_spread_86 ⟨by first | decide | omega | (dsimp only; omega), by first | decide | omega | (dsimp only; omega)⟩) (fun r_7 hr_7 => ?_)
        subst hr_7
        have hPc := hP.sub (ws' := [(o, .inr (0, [.ref ar, .int (nI sz)])), (ar, .inl (cI, (cap * 8), .inl (spF f ex sv od i)))]) [1, 2] rfl
        have hDc := hD.sub (ws' := [(o, .inr (0, [.ref ar, .int (nI sz)])), (ar, .inl (cI, (cap * 8), .inl (spF f ex sv od i)))]) [1, 2] (by decide) rfl
        refine my_callv (ws := [(mp, .inr (1, [.ref o, .int mh, .int md, .int mw])), (o, .inr (0, [.ref ar, .int (nI sz)])), (ar, .inl (cI, (cap * 8), .inl (spF f ex sv od i)))]) (F := []) (wr := [(mp, .inr (1, [.ref o, .int mh, .int md, .int mw]))]) (my_runV (n := 3) (As := [.int (nI i), .int 1, .int (wth (((f (i * 8 + 1)).toInt64) + ((nea (ex * (spB f od (i + 1))) sv) - (nea (ex * (spB f od i)) sv))))]) (rest := []) (C := RX0) X PW.blind (PW.pre hPc hDc hK) (va_recv hK.1 hPc (ci := 0) (q0 := 0) rfl rfl) (c_put l dC dI cI cJ cO _ o ar cap (spF f ex sv od i) sz i 1 (wth (((f (i * 8 + 1)).toInt64) + ((nea (ex * (spB f od (i + 1))) sv) - (nea (ex * (spB f od i)) sv)))) (by omega) (by omega) (by omega) (by omega)) gX1_spread_X0_put rfl rfl rfl (by decide +kernel) rfl ⟨Nat.le_of_ble_eq_true rfl, Nat.le_of_ble_eq_true rfl⟩ hl.1 rfl (Nat.le_of_ble_eq_true rfl) dX1_spread_89 ⟨by first | decide | omega | (dsimp only; omega), by first | decide | omega | (dsimp only; omega)⟩) hS hP hD hA [1, 2] [0] rfl rfl (by decide) (by decide) (fun u H locs hw_8 hP hD hS => ?_)
        have hP : va_P (dC, dI) vwCl [(mp, .inr (1, [.ref o, .int mh, .int md, .int mw])), (o, .inr (0, [.ref ar, .int (nI sz)])), (ar, .inl (cI, (cap * 8), .inl (upd (spF f ex sv od i) (i * 8 + 1) (wth (((f (i * 8 + 1)).toInt64) + ((nea (ex * (spB f od (i + 1))) sv) - (nea (ex * (spB f od i)) sv)))))))] H := hP.sub [0, 1, 2] rfl
        have hD : va_D A [(mp, .inr (1, [.ref o, .int mh, .int md, .int mw])), (o, .inr (0, [.ref ar, .int (nI sz)])), (ar, .inl (cI, (cap * 8), .inl (upd (spF f ex sv od i) (i * 8 + 1) (wth (((f (i * 8 + 1)).toInt64) + ((nea (ex * (spB f od (i + 1))) sv) - (nea (ex * (spB f od i)) sv)))))))] := hD.sub [0, 1, 2] (by decide) rfl
        refine lv_lload hx hb dX1_spread_92 (lv_at hl 1 rfl) ?_
        refine lv_lstore (lv' := [(6, .long (spB f od (i + 1))), (11, .long ((nea (ex * (spB f od (i + 1))) sv) - (nea (ex * (spB f od i)) sv))), (9, .long (spB f od (i + 1))), (0, .ref mp), (1, .long ex), (3, .long sv), (5, .int od), (8, .int (nI i))]) hx hb dX1_spread_94 hl (by decide) rfl (fun ls hl => ?_)
        refine lv_iinc (v := nI (i + 1)) (lv' := [(8, .int (nI (i + 1))), (6, .long (spB f od (i + 1))), (11, .long ((nea (ex * (spB f od (i + 1))) sv) - (nea (ex * (spB f od i)) sv))), (9, .long (spB f od (i + 1))), (0, .ref mp), (1, .long ex), (3, .long sv), (5, .int od)]) hx hb dX1_spread_96 hl (k := 7) rfl (nI_add i 1) (by decide) rfl (fun ls hl => ?_)
        refine lv_goto (tgt := 6) hx hb dX1_spread_99 (by decide) ?_
        rw [spF_y f ex sv od i c_29] at hP hD
        exact ih  (i + 1) (by omega) (by omega) _ _ hP hD hS ls (lv_sub hl [4, 5, 6, 7, 1, 0] rfl)
set_option maxHeartbeats 200000 in
set_option maxRecDepth 100000 in
theorem c_spread (l : Launch) (dC : Nat → ClassId) (dI : Nat → Nat → Nat) (cI cJ cO : ClassId) (hz : Nat) (mp : Nat) (mh : Int32) (md : Int32) (mw : Int32) (o : Nat) (ar : Nat) (cap : Nat) (f : Nat → Int32) (sz : Nat) (ex : Int64) (sv : Int64) (od : Int32) (hsz : sz ≤ cap) (hcap : cap ≤ 4001) : Met l yX1_spread wsX1_spread ({ frames := 2, cells := 0, slots := 0, locals := 45 }) (va_Pc [.ref mp, .long ex, .long sv, .int od] (PW dC dI cI cJ cO [(mp, .inr (1, [.ref o, .int mh, .int md, .int mw])), (o, .inr (0, [.ref ar, .int (nI sz)])), (ar, .inl (cI, (cap * 8), .inl f))] hz)) (va_Qv (fun f1 : Nat → Int32 => f1 = (spF f ex sv od sz)) (fun (f1 : Nat → Int32) t9 => BW dC dI (va_A [(mp, .inr (1, [.ref o, .int mh, .int md, .int mw])), (o, .inr (0, [.ref ar, .int (nI sz)])), (ar, .inl (cI, (cap * 8), .inl f))] hz) [(mp, .inr (1, [.ref o, .int mh, .int md, .int mw])), (o, .inr (0, [.ref ar, .int (nI sz)])), (ar, .inl (cI, (cap * 8), .inl f1))] t9) (va_A [(mp, .inr (1, [.ref o, .int mh, .int md, .int mw])), (o, .inr (0, [.ref ar, .int (nI sz)])), (ar, .inl (cI, (cap * 8), .inl f))] hz)) 0 0 (va_A [(mp, .inr (1, [.ref o, .int mh, .int md, .int mw])), (o, .inr (0, [.ref ar, .int (nI sz)])), (ar, .inl (cI, (cap * 8), .inl f))] hz) := by
  refine my_metW (ws := wsX1_spread) (cc := cX1_spread) (maxL := 13) (ret := none) (Qc := fun A => va_Qv (fun f1 : Nat → Int32 => f1 = (spF f ex sv od sz)) (fun (f1 : Nat → Int32) t9 => BW dC dI A [(mp, .inr (1, [.ref o, .int mh, .int md, .int mw])), (o, .inr (0, [.ref ar, .int (nI sz)])), (ar, .inl (cI, (cap * 8), .inl f1))] t9) A) (by decide) rfl (Nat.le_of_ble_eq_true rfl) ?_
  intro p e s m below meth c ls A X hl hK hA hP hD hS
  obtain ⟨hx, hb, hr, hml, hown, hts, hlocks, hnm⟩ := id X
  have hl : lv_has ls 13 [(0, .ref mp), (1, .long ex), (3, .long sv), (5, .int od)] := hl
  refine lv_lconst (v := 0) hx hb dX1_spread_0 (by decide) ?_
  refine lv_lstore (lv' := [(6, .long 0), (0, .ref mp), (1, .long ex), (3, .long sv), (5, .int od)]) hx hb dX1_spread_1 hl (by decide) rfl (fun ls hl => ?_)
  refine lv_iconst (v := 0) hx hb dX1_spread_3 (by decide) ?_
  refine lv_istore (lv' := [(8, .int 0), (6, .long 0), (0, .ref mp), (1, .long ex), (3, .long sv), (5, .int od)]) hx hb dX1_spread_4 hl (by decide) rfl (fun ls hl => ?_)
  rw [← spF_0 f ex sv od] at hP hD
  exact lp_spread mp mh md mw o ar cap f sz ex sv od hsz hcap X hK hA (sz - 0 + 1) 0 (by omega) (by omega) _ _ hP hD hS ls (lv_sub hl [2, 3, 4, 5, 1, 0] rfl)
theorem in_X1_setGlue_X4 : ∀ w ∈ wsX40, w ∈ wsX1_setGlue := fun _ h => List.mem_cons_of_mem _ (List.mem_append_left _ (List.mem_append_left _ (List.mem_append_right _ h)))
set_option maxHeartbeats 200000 in
set_option maxRecDepth 100000 in
theorem c_setGlue (l : Launch) (dC : Nat → ClassId) (dI : Nat → Nat → Nat) (cI cJ cO : ClassId) (hz : Nat) (mp : Nat) (mh : Int32) (md : Int32) (mw : Int32) (o : Nat) (ar : Nat) (cap : Nat) (f : Nat → Int32) (sz : Nat) (su : Nat) (sa : Nat) (g : Nat → Int64) (z : Int64) (al : Int64) (dp : Int64) (wd : Int64) (lim : Int32) (ex : Int64) (hsz : sz ≤ cap) (hcap : cap ≤ 4001) : Met l yX1_setGlue wsX1_setGlue ({ frames := 3, cells := 0, slots := 0, locals := 77 }) (va_Pc [.ref mp, .long ex, .ref su] (PW dC dI cI cJ cO [(mp, .inr (1, [.ref o, .int mh, .int md, .int mw])), (o, .inr (0, [.ref ar, .int (nI sz)])), (ar, .inl (cI, (cap * 8), .inl f)), (su, .inr (4, [.ref sa, .long z, .long al, .long dp, .long wd, .int lim])), (sa, .inl (cJ, 4, .inr (.inl g)))] hz)) (va_Qv (fun f1 : Nat → Int32 => f1 = (stG f ex g z sz)) (fun (f1 : Nat → Int32) t9 => BW dC dI (va_A [(mp, .inr (1, [.ref o, .int mh, .int md, .int mw])), (o, .inr (0, [.ref ar, .int (nI sz)])), (ar, .inl (cI, (cap * 8), .inl f)), (su, .inr (4, [.ref sa, .long z, .long al, .long dp, .long wd, .int lim])), (sa, .inl (cJ, 4, .inr (.inl g)))] hz) [(mp, .inr (1, [.ref o, .int mh, .int md, .int mw])), (o, .inr (0, [.ref ar, .int (nI sz)])), (ar, .inl (cI, (cap * 8), .inl f1)), (su, .inr (4, [.ref sa, .long z, .long al, .long dp, .long wd, .int lim])), (sa, .inl (cJ, 4, .inr (.inl g)))] t9) (va_A [(mp, .inr (1, [.ref o, .int mh, .int md, .int mw])), (o, .inr (0, [.ref ar, .int (nI sz)])), (ar, .inl (cI, (cap * 8), .inl f)), (su, .inr (4, [.ref sa, .long z, .long al, .long dp, .long wd, .int lim])), (sa, .inl (cJ, 4, .inr (.inl g)))] hz)) 0 0 (va_A [(mp, .inr (1, [.ref o, .int mh, .int md, .int mw])), (o, .inr (0, [.ref ar, .int (nI sz)])), (ar, .inl (cI, (cap * 8), .inl f)), (su, .inr (4, [.ref sa, .long z, .long al, .long dp, .long wd, .int lim])), (sa, .inl (cJ, 4, .inr (.inl g)))] hz) := by
  refine my_metW (ws := wsX1_setGlue) (cc := cX1_setGlue) (maxL := 5) (ret := none) (Qc := fun A => va_Qv (fun f1 : Nat → Int32 => f1 = (stG f ex g z sz)) (fun (f1 : Nat → Int32) t9 => BW dC dI A [(mp, .inr (1, [.ref o, .int mh, .int md, .int mw])), (o, .inr (0, [.ref ar, .int (nI sz)])), (ar, .inl (cI, (cap * 8), .inl f1)), (su, .inr (4, [.ref sa, .long z, .long al, .long dp, .long wd, .int lim])), (sa, .inl (cJ, 4, .inr (.inl g)))] t9) A) (by decide) rfl (Nat.le_of_ble_eq_true rfl) ?_
  intro p e s m below meth c ls A X hl hK hA hP hD hS
  obtain ⟨hx, hb, hr, hml, hown, hts, hlocks, hnm⟩ := id X
  have hl : lv_has ls 5 [(0, .ref mp), (1, .long ex), (3, .ref su)] := hl
  refine lv_aload_n hx hb dX1_setGlue_0 rfl (lv_at hl 2 rfl) ?_
  have hPc := hP.sub (ws' := [(su, .inr (4, [.ref sa, .long z, .long al, .long dp, .long wd, .int lim])), (sa, .inl (cJ, 4, .inr (.inl g)))]) [3, 4] rfl
  refine my_rdi (my_runV (n := 0) (As := []) (rest := []) (C := RX4) X PR.blind (PR.pre hPc hK) (va_recv hK.1 hPc (ci := 4) (q0 := 0) rfl rfl) (c_highestOrder l dC dI cI cJ cO su sa g z al dp wd lim ) gX1_setGlue_X4_highestOrder rfl rfl rfl (by decide +kernel) rfl ⟨Nat.le_of_ble_eq_true rfl, Nat.le_of_ble_eq_true rfl⟩ hl.1 rfl (Nat.le_of_ble_eq_true rfl) dX1_setGlue_1 ⟨by first | decide | omega | (dsimp only; omega), by first | decide | omega | (dsimp only; omega)⟩) (fun r_1 hr_1 => ?_)
  subst hr_1
  refine lv_istore (lv' := [(4, .int (hiO g)), (0, .ref mp), (1, .long ex), (3, .ref su)]) hx hb dX1_setGlue_4 hl (by decide) rfl (fun ls hl => ?_)
  refine lv_lload_n hx hb dX1_setGlue_6 rfl (lv_at hl 2 rfl) ?_
  refine lv_lconst (v := 0) hx hb dX1_setGlue_7 (by decide) ?_
  refine my_lif_le (tgt := 34) hx hb dX1_setGlue_8 dX1_setGlue_9 (by decide) (fun c_8 => ?_) (fun c_8 => ?_)
  · refine lv_lload_n hx hb dX1_setGlue_34 rfl (lv_at hl 2 rfl) ?_
    refine lv_lconst (v := 0) hx hb dX1_setGlue_35 (by decide) ?_
    refine my_lif_ge (tgt := 58) hx hb dX1_setGlue_36 dX1_setGlue_37 (by decide) (fun c_36 => ?_) (fun c_36 => ?_)
    · exact my_vret (WSf := (fun f1 : Nat → Int32 => [(mp, .inr (1, [.ref o, .int mh, .int md, .int mw])), (o, .inr (0, [.ref ar, .int (nI sz)])), (ar, .inl (cI, (cap * 8), .inl f1)), (su, .inr (4, [.ref sa, .long z, .long al, .long dp, .long wd, .int lim])), (sa, .inl (cJ, 4, .inr (.inl g)))])) f X (by simp [stG, maL, c_8, c_36]) (hP) (hD) hS (by first | decide | omega | (dsimp only; omega)) (by first | decide | omega | (dsimp only; omega)) dX1_setGlue_58
    · refine lv_aload_n hx hb dX1_setGlue_40 rfl (lv_at hl 1 rfl) ?_
      refine lv_lload_n hx hb dX1_setGlue_41 rfl (lv_at hl 2 rfl) ?_
      refine lv_aload_n hx hb dX1_setGlue_42 rfl (lv_at hl 3 rfl) ?_
      refine my_getN X hK in_X1_setGlue_X4 hP 3 rfl rfl 1 (by decide) 16 rfl rfl dX1_setGlue_43 ?_
      refine lv_lneg hx hb dX1_setGlue_46 ?_
      refine va_mmax_long hx hb (hml.trans hl.1.symm) hown (hts _ (List.mem_of_getElem? (i := 1) rfl)) (hts _ (List.mem_of_getElem? (i := 2) rfl)) (hts _ (List.mem_of_getElem? (i := 3) rfl)) (hts _ (List.mem_of_getElem? (i := 4) rfl)) (Nat.le_of_ble_eq_true rfl) (Nat.le_of_ble_eq_true rfl) (by first | decide | omega | (dsimp only; omega)) (by first | decide | omega | (dsimp only; omega)) dX1_setGlue_47 ?_
      refine lv_aload_n hx hb dX1_setGlue_50 rfl (lv_at hl 3 rfl) ?_
      refine my_getN X hK in_X1_setGlue_X4 hP 3 rfl rfl 1 (by decide) 16 rfl rfl dX1_setGlue_51 ?_
      refine lv_iconst (v := (-1)) hx hb dX1_setGlue_54 (by decide) ?_
      have hPc := hP.sub (ws' := [(mp, .inr (1, [.ref o, .int mh, .int md, .int mw])), (o, .inr (0, [.ref ar, .int (nI sz)])), (ar, .inl (cI, (cap * 8), .inl f))]) [0, 1, 2] rfl
      have hDc := hD.sub (ws' := [(mp, .inr (1, [.ref o, .int mh, .int md, .int mw])), (o, .inr (0, [.ref ar, .int (nI sz)])), (ar, .inl (cI, (cap * 8), .inl f))]) [0, 1, 2] (by decide) rfl
      refine my_callv (ws := [(mp, .inr (1, [.ref o, .int mh, .int md, .int mw])), (o, .inr (0, [.ref ar, .int (nI sz)])), (ar, .inl (cI, (cap * 8), .inl f)), (su, .inr (4, [.ref sa, .long z, .long al, .long dp, .long wd, .int lim])), (sa, .inl (cJ, 4, .inr (.inl g)))]) (F := []) (wr := [(su, .inr (4, [.ref sa, .long z, .long al, .long dp, .long wd, .int lim])), (sa, .inl (cJ, 4, .inr (.inl g)))]) (my_runV (n := 3) (As := [.long (if (-z) < ex then ex else (-z)), .long z, .int (-1)]) (rest := []) (C := RX1) X PW.blind (PW.pre hPc hDc hK) (va_recv hK.1 hPc (ci := 1) (q0 := 0) rfl rfl) (c_spread l dC dI cI cJ cO _ mp mh md mw o ar cap f sz (if (-z) < ex then ex else (-z)) z (-1) (by omega) (by omega)) gX1_setGlue_X1_spread rfl rfl rfl (by decide +kernel) rfl ⟨Nat.le_of_ble_eq_true rfl, Nat.le_of_ble_eq_true rfl⟩ hl.1 rfl (Nat.le_of_ble_eq_true rfl) dX1_setGlue_55 ⟨by first | decide | omega | (dsimp only; omega), by first | decide | omega | (dsimp only; omega)⟩) hS hP hD hA [0, 1, 2] [3, 4] rfl rfl (by decide) (by decide) (fun u H locs hw_2 hP hD hS => ?_)
      obtain ⟨f1_3, rfl⟩ : ∃ z, z = u := ⟨_, rfl⟩
      try dsimp only at hw_2
      rw [hw_2] at hP hD
      have hP : va_P (dC, dI) vwCl [(mp, .inr (1, [.ref o, .int mh, .int md, .int mw])), (o, .inr (0, [.ref ar, .int (nI sz)])), (ar, .inl (cI, (cap * 8), .inl (spF f (if (-z) < ex then ex else (-z)) z (-1) sz))), (su, .inr (4, [.ref sa, .long z, .long al, .long dp, .long wd, .int lim])), (sa, .inl (cJ, 4, .inr (.inl g)))] H := hP.sub [2, 3, 4, 0, 1] rfl
      have hD : va_D A [(mp, .inr (1, [.ref o, .int mh, .int md, .int mw])), (o, .inr (0, [.ref ar, .int (nI sz)])), (ar, .inl (cI, (cap * 8), .inl (spF f (if (-z) < ex then ex else (-z)) z (-1) sz))), (su, .inr (4, [.ref sa, .long z, .long al, .long dp, .long wd, .int lim])), (sa, .inl (cJ, 4, .inr (.inl g)))] := hD.sub [2, 3, 4, 0, 1] (by decide) rfl
      exact my_vret (WSf := (fun f1 : Nat → Int32 => [(mp, .inr (1, [.ref o, .int mh, .int md, .int mw])), (o, .inr (0, [.ref ar, .int (nI sz)])), (ar, .inl (cI, (cap * 8), .inl f1)), (su, .inr (4, [.ref sa, .long z, .long al, .long dp, .long wd, .int lim])), (sa, .inl (cJ, 4, .inr (.inl g)))])) (spF f (if (-z) < ex then ex else (-z)) z (-1) sz) X (by simp [stG, maL, c_8, c_36]) (hP) (hD) hS (by first | decide | omega | (dsimp only; omega)) (by first | decide | omega | (dsimp only; omega)) dX1_setGlue_58
  · refine lv_iload hx hb dX1_setGlue_12 (lv_at hl 0 rfl) ?_
    refine lv_iconst (v := (-1)) hx hb dX1_setGlue_14 (by decide) ?_
    refine lv_icmp_eq (tgt := 34) hx hb dX1_setGlue_15 (by decide) (fun c_15 => ?_) (fun c_15 => ?_)
    · refine lv_lload_n hx hb dX1_setGlue_34 rfl (lv_at hl 2 rfl) ?_
      refine lv_lconst (v := 0) hx hb dX1_setGlue_35 (by decide) ?_
      refine my_lif_ge (tgt := 58) hx hb dX1_setGlue_36 dX1_setGlue_37 (by decide) (fun c_36 => ?_) (fun c_36 => ?_)
      · exact my_vret (WSf := (fun f1 : Nat → Int32 => [(mp, .inr (1, [.ref o, .int mh, .int md, .int mw])), (o, .inr (0, [.ref ar, .int (nI sz)])), (ar, .inl (cI, (cap * 8), .inl f1)), (su, .inr (4, [.ref sa, .long z, .long al, .long dp, .long wd, .int lim])), (sa, .inl (cJ, 4, .inr (.inl g)))])) f X (by simp [stG, maL, c_8, c_15, c_36]) (hP) (hD) hS (by first | decide | omega | (dsimp only; omega)) (by first | decide | omega | (dsimp only; omega)) dX1_setGlue_58
      · refine lv_aload_n hx hb dX1_setGlue_40 rfl (lv_at hl 1 rfl) ?_
        refine lv_lload_n hx hb dX1_setGlue_41 rfl (lv_at hl 2 rfl) ?_
        refine lv_aload_n hx hb dX1_setGlue_42 rfl (lv_at hl 3 rfl) ?_
        refine my_getN X hK in_X1_setGlue_X4 hP 3 rfl rfl 1 (by decide) 16 rfl rfl dX1_setGlue_43 ?_
        refine lv_lneg hx hb dX1_setGlue_46 ?_
        refine va_mmax_long hx hb (hml.trans hl.1.symm) hown (hts _ (List.mem_of_getElem? (i := 1) rfl)) (hts _ (List.mem_of_getElem? (i := 2) rfl)) (hts _ (List.mem_of_getElem? (i := 3) rfl)) (hts _ (List.mem_of_getElem? (i := 4) rfl)) (Nat.le_of_ble_eq_true rfl) (Nat.le_of_ble_eq_true rfl) (by first | decide | omega | (dsimp only; omega)) (by first | decide | omega | (dsimp only; omega)) dX1_setGlue_47 ?_
        refine lv_aload_n hx hb dX1_setGlue_50 rfl (lv_at hl 3 rfl) ?_
        refine my_getN X hK in_X1_setGlue_X4 hP 3 rfl rfl 1 (by decide) 16 rfl rfl dX1_setGlue_51 ?_
        refine lv_iconst (v := (-1)) hx hb dX1_setGlue_54 (by decide) ?_
        have hPc := hP.sub (ws' := [(mp, .inr (1, [.ref o, .int mh, .int md, .int mw])), (o, .inr (0, [.ref ar, .int (nI sz)])), (ar, .inl (cI, (cap * 8), .inl f))]) [0, 1, 2] rfl
        have hDc := hD.sub (ws' := [(mp, .inr (1, [.ref o, .int mh, .int md, .int mw])), (o, .inr (0, [.ref ar, .int (nI sz)])), (ar, .inl (cI, (cap * 8), .inl f))]) [0, 1, 2] (by decide) rfl
        refine my_callv (ws := [(mp, .inr (1, [.ref o, .int mh, .int md, .int mw])), (o, .inr (0, [.ref ar, .int (nI sz)])), (ar, .inl (cI, (cap * 8), .inl f)), (su, .inr (4, [.ref sa, .long z, .long al, .long dp, .long wd, .int lim])), (sa, .inl (cJ, 4, .inr (.inl g)))]) (F := []) (wr := [(su, .inr (4, [.ref sa, .long z, .long al, .long dp, .long wd, .int lim])), (sa, .inl (cJ, 4, .inr (.inl g)))]) (my_runV (n := 3) (As := [.long (if (-z) < ex then ex else (-z)), .long z, .int (-1)]) (rest := []) (C := RX1) X PW.blind (PW.pre hPc hDc hK) (va_recv hK.1 hPc (ci := 1) (q0 := 0) rfl rfl) (c_spread l dC dI cI cJ cO _ mp mh md mw o ar cap f sz (if (-z) < ex then ex else (-z)) z (-1) (by omega) (by omega)) gX1_setGlue_X1_spread rfl rfl rfl (by decide +kernel) rfl ⟨Nat.le_of_ble_eq_true rfl, Nat.le_of_ble_eq_true rfl⟩ hl.1 rfl (Nat.le_of_ble_eq_true rfl) dX1_setGlue_55 ⟨by first | decide | omega | (dsimp only; omega), by first | decide | omega | (dsimp only; omega)⟩) hS hP hD hA [0, 1, 2] [3, 4] rfl rfl (by decide) (by decide) (fun u H locs hw_5 hP hD hS => ?_)
        obtain ⟨f1_6, rfl⟩ : ∃ z, z = u := ⟨_, rfl⟩
        try dsimp only at hw_5
        rw [hw_5] at hP hD
        have hP : va_P (dC, dI) vwCl [(mp, .inr (1, [.ref o, .int mh, .int md, .int mw])), (o, .inr (0, [.ref ar, .int (nI sz)])), (ar, .inl (cI, (cap * 8), .inl (spF f (if (-z) < ex then ex else (-z)) z (-1) sz))), (su, .inr (4, [.ref sa, .long z, .long al, .long dp, .long wd, .int lim])), (sa, .inl (cJ, 4, .inr (.inl g)))] H := hP.sub [2, 3, 4, 0, 1] rfl
        have hD : va_D A [(mp, .inr (1, [.ref o, .int mh, .int md, .int mw])), (o, .inr (0, [.ref ar, .int (nI sz)])), (ar, .inl (cI, (cap * 8), .inl (spF f (if (-z) < ex then ex else (-z)) z (-1) sz))), (su, .inr (4, [.ref sa, .long z, .long al, .long dp, .long wd, .int lim])), (sa, .inl (cJ, 4, .inr (.inl g)))] := hD.sub [2, 3, 4, 0, 1] (by decide) rfl
        exact my_vret (WSf := (fun f1 : Nat → Int32 => [(mp, .inr (1, [.ref o, .int mh, .int md, .int mw])), (o, .inr (0, [.ref ar, .int (nI sz)])), (ar, .inl (cI, (cap * 8), .inl f1)), (su, .inr (4, [.ref sa, .long z, .long al, .long dp, .long wd, .int lim])), (sa, .inl (cJ, 4, .inr (.inl g)))])) (spF f (if (-z) < ex then ex else (-z)) z (-1) sz) X (by simp [stG, maL, c_8, c_15, c_36]) (hP) (hD) hS (by first | decide | omega | (dsimp only; omega)) (by first | decide | omega | (dsimp only; omega)) dX1_setGlue_58
    · refine lv_aload_n hx hb dX1_setGlue_18 rfl (lv_at hl 1 rfl) ?_
      refine lv_lload_n hx hb dX1_setGlue_19 rfl (lv_at hl 2 rfl) ?_
      refine lv_aload_n hx hb dX1_setGlue_20 rfl (lv_at hl 3 rfl) ?_
      refine lv_iload hx hb dX1_setGlue_21 (lv_at hl 0 rfl) ?_
      have hPc := hP.sub (ws' := [(su, .inr (4, [.ref sa, .long z, .long al, .long dp, .long wd, .int lim])), (sa, .inl (cJ, 4, .inr (.inl g)))]) [3, 4] rfl
      refine my_rdl (my_runV (n := 1) (As := [.int (hiO g)]) (rest := [.long ex, .ref mp]) (C := RX4) X PR.blind (PR.pre hPc hK) (va_recv hK.1 hPc (ci := 4) (q0 := 0) rfl rfl) (c_stretchOf l dC dI cI cJ cO su sa g z al dp wd lim (hiO g) ) gX1_setGlue_X4_stretchOf rfl rfl rfl (by decide +kernel) rfl ⟨Nat.le_of_ble_eq_true rfl, Nat.le_of_ble_eq_true rfl⟩ hl.1 rfl (Nat.le_of_ble_eq_true rfl) dX1_setGlue_23 ⟨by first | decide | omega | (dsimp only; omega), by first | decide | omega | (dsimp only; omega)⟩) (fun r_8 hr_8 => ?_)
      subst hr_8
      refine lv_iload hx hb dX1_setGlue_26 (lv_at hl 0 rfl) ?_
      have hPc := hP.sub (ws' := [(mp, .inr (1, [.ref o, .int mh, .int md, .int mw])), (o, .inr (0, [.ref ar, .int (nI sz)])), (ar, .inl (cI, (cap * 8), .inl f))]) [0, 1, 2] rfl
      have hDc := hD.sub (ws' := [(mp, .inr (1, [.ref o, .int mh, .int md, .int mw])), (o, .inr (0, [.ref ar, .int (nI sz)])), (ar, .inl (cI, (cap * 8), .inl f))]) [0, 1, 2] (by decide) rfl
      refine my_callv (ws := [(mp, .inr (1, [.ref o, .int mh, .int md, .int mw])), (o, .inr (0, [.ref ar, .int (nI sz)])), (ar, .inl (cI, (cap * 8), .inl f)), (su, .inr (4, [.ref sa, .long z, .long al, .long dp, .long wd, .int lim])), (sa, .inl (cJ, 4, .inr (.inl g)))]) (F := []) (wr := [(su, .inr (4, [.ref sa, .long z, .long al, .long dp, .long wd, .int lim])), (sa, .inl (cJ, 4, .inr (.inl g)))]) (my_runV (n := 3) (As := [.long ex, .long (soF g (hiO g)), .int (hiO g)]) (rest := []) (C := RX1) X PW.blind (PW.pre hPc hDc hK) (va_recv hK.1 hPc (ci := 1) (q0 := 0) rfl rfl) (c_spread l dC dI cI cJ cO _ mp mh md mw o ar cap f sz ex (soF g (hiO g)) (hiO g) (by omega) (by omega)) gX1_setGlue_X1_spread rfl rfl rfl (by decide +kernel) rfl ⟨Nat.le_of_ble_eq_true rfl, Nat.le_of_ble_eq_true rfl⟩ hl.1 rfl (Nat.le_of_ble_eq_true rfl) dX1_setGlue_28 ⟨by first | decide | omega | (dsimp only; omega), by first | decide | omega | (dsimp only; omega)⟩) hS hP hD hA [0, 1, 2] [3, 4] rfl rfl (by decide) (by decide) (fun u H locs hw_9 hP hD hS => ?_)
      obtain ⟨f1_10, rfl⟩ : ∃ z, z = u := ⟨_, rfl⟩
      try dsimp only at hw_9
      rw [hw_9] at hP hD
      have hP : va_P (dC, dI) vwCl [(mp, .inr (1, [.ref o, .int mh, .int md, .int mw])), (o, .inr (0, [.ref ar, .int (nI sz)])), (ar, .inl (cI, (cap * 8), .inl (spF f ex (soF g (hiO g)) (hiO g) sz))), (su, .inr (4, [.ref sa, .long z, .long al, .long dp, .long wd, .int lim])), (sa, .inl (cJ, 4, .inr (.inl g)))] H := hP.sub [2, 3, 4, 0, 1] rfl
      have hD : va_D A [(mp, .inr (1, [.ref o, .int mh, .int md, .int mw])), (o, .inr (0, [.ref ar, .int (nI sz)])), (ar, .inl (cI, (cap * 8), .inl (spF f ex (soF g (hiO g)) (hiO g) sz))), (su, .inr (4, [.ref sa, .long z, .long al, .long dp, .long wd, .int lim])), (sa, .inl (cJ, 4, .inr (.inl g)))] := hD.sub [2, 3, 4, 0, 1] (by decide) rfl
      refine lv_goto (tgt := 58) hx hb dX1_setGlue_31 (by decide) ?_
      exact my_vret (WSf := (fun f1 : Nat → Int32 => [(mp, .inr (1, [.ref o, .int mh, .int md, .int mw])), (o, .inr (0, [.ref ar, .int (nI sz)])), (ar, .inl (cI, (cap * 8), .inl f1)), (su, .inr (4, [.ref sa, .long z, .long al, .long dp, .long wd, .int lim])), (sa, .inl (cJ, 4, .inr (.inl g)))])) (spF f ex (soF g (hiO g)) (hiO g) sz) X (by simp [stG, maL, c_8, c_15]) (hP) (hD) hS (by first | decide | omega | (dsimp only; omega)) (by first | decide | omega | (dsimp only; omega)) dX1_setGlue_58
theorem in_X1_make_X1 : ∀ w ∈ wsX10, w ∈ wsX1_make := fun _ h => List.mem_cons_of_mem _ (List.mem_append_left _ (List.mem_append_left _ (List.mem_append_right _ h)))
theorem in_X1_make_X4 : ∀ w ∈ wsX40, w ∈ wsX1_make := fun _ h => List.mem_cons_of_mem _ (List.mem_append_left _ (List.mem_append_right _ h))
set_option maxHeartbeats 200000 in
set_option maxRecDepth 100000 in
theorem c_make (l : Launch) (dC : Nat → ClassId) (dI : Nat → Nat → Nat) (cI cJ cO : ClassId) (hz : Nat) (mp : Nat) (mh : Int32) (md : Int32) (mw : Int32) (o : Nat) (ar : Nat) (cap : Nat) (f : Nat → Int32) (sz : Nat) (o2 : Nat) (ar2 : Nat) (cap2 : Nat) (f2 : Nat → Int32) (sz2 : Nat) (su : Nat) (sa : Nat) (g : Nat → Int64) (z : Int64) (al : Int64) (dp : Int64) (wd : Int64) (lim : Int32) (fs : Nat) (en : Nat) (go : Int32) (h1 : fs ≤ en) (h2 : en ≤ sz2) (h3 : sz2 ≤ cap2) (h4 : cap2 ≤ 4001) (h5 : cap ≤ 4001) : Met l yX1_make wsX1_make ({ frames := 4, cells := gmc (en - fs) cap, slots := gms (en - fs) cap, locals := 108 }) (va_Pc [.ref mp, .ref o2, .int (nI fs), .int (nI en), .int go, .ref su] (PW dC dI cI cJ cO [(mp, .inr (1, [.ref o, .int mh, .int md, .int mw])), (o, .inr (0, [.ref ar, .int (nI sz)])), (ar, .inl (cI, (cap * 8), .inl f)), (o2, .inr (0, [.ref ar2, .int (nI sz2)])), (ar2, .inl (cI, (cap2 * 8), .inl f2)), (su, .inr (4, [.ref sa, .long z, .long al, .long dp, .long wd, .int lim])), (sa, .inl (cJ, 4, .inr (.inl g)))] hz)) (va_Qv (fun u : Nat × Nat × (Nat → Int32) => u.2.1 = gcap (en - fs) cap ∧ ∃ fc : Nat → Int32, (∀ j, j < (en - fs) * 8 → fc j = f2 (fs * 8 + j)) ∧ u.2.2 = stG fc (go.toInt64 - (al - dp)) g z (en - fs)) (fun (u : Nat × Nat × (Nat → Int32)) t9 => BW dC dI (va_A [(mp, .inr (1, [.ref o, .int mh, .int md, .int mw])), (o, .inr (0, [.ref ar, .int (nI sz)])), (ar, .inl (cI, (cap * 8), .inl f)), (o2, .inr (0, [.ref ar2, .int (nI sz2)])), (ar2, .inl (cI, (cap2 * 8), .inl f2)), (su, .inr (4, [.ref sa, .long z, .long al, .long dp, .long wd, .int lim])), (sa, .inl (cJ, 4, .inr (.inl g)))] hz) [(mp, .inr (1, [.ref o, .int go, .int dp.toInt32, .int wd.toInt32])), (o, .inr (0, [.ref u.1, .int (nI (en - fs))])), (u.1, .inl (cI, (u.2.1 * 8), .inl u.2.2)), (o2, .inr (0, [.ref ar2, .int (nI sz2)])), (ar2, .inl (cI, (cap2 * 8), .inl f2)), (su, .inr (4, [.ref sa, .long z, .long al, .long dp, .long wd, .int lim])), (sa, .inl (cJ, 4, .inr (.inl g)))] t9) (va_A [(mp, .inr (1, [.ref o, .int mh, .int md, .int mw])), (o, .inr (0, [.ref ar, .int (nI sz)])), (ar, .inl (cI, (cap * 8), .inl f)), (o2, .inr (0, [.ref ar2, .int (nI sz2)])), (ar2, .inl (cI, (cap2 * 8), .inl f2)), (su, .inr (4, [.ref sa, .long z, .long al, .long dp, .long wd, .int lim])), (sa, .inl (cJ, 4, .inr (.inl g)))] hz)) (gmc (en - fs) cap) (gms (en - fs) cap) (va_A [(mp, .inr (1, [.ref o, .int mh, .int md, .int mw])), (o, .inr (0, [.ref ar, .int (nI sz)])), (ar, .inl (cI, (cap * 8), .inl f)), (o2, .inr (0, [.ref ar2, .int (nI sz2)])), (ar2, .inl (cI, (cap2 * 8), .inl f2)), (su, .inr (4, [.ref sa, .long z, .long al, .long dp, .long wd, .int lim])), (sa, .inl (cJ, 4, .inr (.inl g)))] hz) := by
  refine my_metW (ws := wsX1_make) (cc := cX1_make) (maxL := 6) (ret := none) (Qc := fun A => va_Qv (fun u : Nat × Nat × (Nat → Int32) => u.2.1 = gcap (en - fs) cap ∧ ∃ fc : Nat → Int32, (∀ j, j < (en - fs) * 8 → fc j = f2 (fs * 8 + j)) ∧ u.2.2 = stG fc (go.toInt64 - (al - dp)) g z (en - fs)) (fun (u : Nat × Nat × (Nat → Int32)) t9 => BW dC dI A [(mp, .inr (1, [.ref o, .int go, .int dp.toInt32, .int wd.toInt32])), (o, .inr (0, [.ref u.1, .int (nI (en - fs))])), (u.1, .inl (cI, (u.2.1 * 8), .inl u.2.2)), (o2, .inr (0, [.ref ar2, .int (nI sz2)])), (ar2, .inl (cI, (cap2 * 8), .inl f2)), (su, .inr (4, [.ref sa, .long z, .long al, .long dp, .long wd, .int lim])), (sa, .inl (cJ, 4, .inr (.inl g)))] t9) A) (by decide) rfl (Nat.le_of_ble_eq_true rfl) ?_
  intro p e s m below meth c ls A X hl hK hA hP hD hS
  obtain ⟨hx, hb, hr, hml, hown, hts, hlocks, hnm⟩ := id X
  have hl : lv_has ls 6 [(0, .ref mp), (1, .ref o2), (2, .int (nI fs)), (3, .int (nI en)), (4, .int go), (5, .ref su)] := hl
  refine lv_aload_n hx hb dX1_make_0 rfl (lv_at hl 0 rfl) ?_
  refine my_get X hK in_X1_make_X1 hP 0 rfl rfl 0 (by decide) (List.mem_of_getElem? (i := 1) rfl) rfl dX1_make_1 ?_
  refine lv_aload_n hx hb dX1_make_4 rfl (lv_at hl 1 rfl) ?_
  refine lv_iload_n hx hb dX1_make_5 rfl (lv_at hl 2 rfl) ?_
  refine lv_iload_n hx hb dX1_make_6 rfl (lv_at hl 3 rfl) ?_
  have hPc := hP.sub (ws' := [(o, .inr (0, [.ref ar, .int (nI sz)])), (ar, .inl (cI, (cap * 8), .inl f)), (o2, .inr (0, [.ref ar2, .int (nI sz2)])), (ar2, .inl (cI, (cap2 * 8), .inl f2))]) [1, 2, 3, 4] rfl
  have hDc := hD.sub (ws' := [(o, .inr (0, [.ref ar, .int (nI sz)])), (ar, .inl (cI, (cap * 8), .inl f)), (o2, .inr (0, [.ref ar2, .int (nI sz2)])), (ar2, .inl (cI, (cap2 * 8), .inl f2))]) [1, 2, 3, 4] (by decide) rfl
  refine my_callv (ws := [(mp, .inr (1, [.ref o, .int mh, .int md, .int mw])), (o, .inr (0, [.ref ar, .int (nI sz)])), (ar, .inl (cI, (cap * 8), .inl f)), (o2, .inr (0, [.ref ar2, .int (nI sz2)])), (ar2, .inl (cI, (cap2 * 8), .inl f2)), (su, .inr (4, [.ref sa, .long z, .long al, .long dp, .long wd, .int lim])), (sa, .inl (cJ, 4, .inr (.inl g)))]) (F := []) (wr := [(mp, .inr (1, [.ref o, .int mh, .int md, .int mw])), (su, .inr (4, [.ref sa, .long z, .long al, .long dp, .long wd, .int lim])), (sa, .inl (cJ, 4, .inr (.inl g)))]) (my_runV (n := 3) (As := [.ref o2, .int (nI fs), .int (nI en)]) (rest := []) (C := RX0) X PW.blind (PW.pre hPc hDc hK) (va_recv hK.1 hPc (ci := 0) (q0 := 0) rfl rfl) (c_copyFrom l dC dI cI cJ cO _ o ar cap f sz o2 ar2 cap2 f2 sz2 fs en (by omega) (by omega) (by omega) (by omega) (by omega)) gX1_make_X0_copyFrom rfl rfl rfl (by decide +kernel) rfl ⟨Nat.le_of_ble_eq_true rfl, Nat.le_of_ble_eq_true rfl⟩ hl.1 rfl (Nat.le_of_ble_eq_true rfl) dX1_make_7 ⟨by show 0 + _ ≤ gmc (en - fs) cap; omega, by show 0 + _ ≤ gms (en - fs) cap; omega⟩) hS hP hD hA [1, 2, 3, 4] [0, 5, 6] rfl rfl (by decide) (by decide) (fun u H locs hw_1 hP hD hS => ?_)
  obtain ⟨ar1_2, cap1_3, f1_4⟩ := u
  try dsimp only at hw_1
  have hP : va_P (dC, dI) vwCl [(mp, .inr (1, [.ref o, .int mh, .int md, .int mw])), (o, .inr (0, [.ref ar1_2, .int (nI (en - fs))])), (o2, .inr (0, [.ref ar2, .int (nI sz2)])), (ar2, .inl (cI, (cap2 * 8), .inl f2)), (su, .inr (4, [.ref sa, .long z, .long al, .long dp, .long wd, .int lim])), (sa, .inl (cJ, 4, .inr (.inl g))), (ar1_2, .inl (cI, (cap1_3 * 8), .inl f1_4))] H := hP.sub [0, 3, 5, 6, 1, 2, 4] rfl
  have hD : va_D A [(mp, .inr (1, [.ref o, .int mh, .int md, .int mw])), (o, .inr (0, [.ref ar1_2, .int (nI (en - fs))])), (o2, .inr (0, [.ref ar2, .int (nI sz2)])), (ar2, .inl (cI, (cap2 * 8), .inl f2)), (su, .inr (4, [.ref sa, .long z, .long al, .long dp, .long wd, .int lim])), (sa, .inl (cJ, 4, .inr (.inl g))), (ar1_2, .inl (cI, (cap1_3 * 8), .inl f1_4))] := hD.sub [0, 3, 5, 6, 1, 2, 4] (by decide) rfl
  have hge := gcap_ge (en - fs) cap (by omega)
  have hle := gcap_le (en - fs) cap h5
  obtain ⟨hc1, hf1⟩ := hw_1
  refine lv_aload_n hx hb dX1_make_10 rfl (lv_at hl 0 rfl) ?_
  refine lv_iload hx hb dX1_make_11 (lv_at hl 4 rfl) ?_
  refine my_put X hK in_X1_make_X1 tyX1 tyX1_ok nmX1 hP hD hS 0 rfl rfl 1 (by decide) (List.mem_of_getElem? (i := 2) rfl) rfl rfl rfl (Nat.le_of_ble_eq_true rfl) dX1_make_13 (fun H locs hP hD hS => ?_)
  have hP : va_P (dC, dI) vwCl ([(mp, .inr (1, [.ref o, .int go, .int md, .int mw])), (o, .inr (0, [.ref ar1_2, .int (nI (en - fs))])), (o2, .inr (0, [.ref ar2, .int (nI sz2)])), (ar2, .inl (cI, (cap2 * 8), .inl f2)), (su, .inr (4, [.ref sa, .long z, .long al, .long dp, .long wd, .int lim])), (sa, .inl (cJ, 4, .inr (.inl g))), (ar1_2, .inl (cI, (cap1_3 * 8), .inl f1_4))]) H := hP
  have hD : va_D A ([(mp, .inr (1, [.ref o, .int go, .int md, .int mw])), (o, .inr (0, [.ref ar1_2, .int (nI (en - fs))])), (o2, .inr (0, [.ref ar2, .int (nI sz2)])), (ar2, .inl (cI, (cap2 * 8), .inl f2)), (su, .inr (4, [.ref sa, .long z, .long al, .long dp, .long wd, .int lim])), (sa, .inl (cJ, 4, .inr (.inl g))), (ar1_2, .inl (cI, (cap1_3 * 8), .inl f1_4))]) := hD
  refine lv_aload_n hx hb dX1_make_16 rfl (lv_at hl 0 rfl) ?_
  refine lv_aload hx hb dX1_make_17 (lv_at hl 5 rfl) ?_
  refine my_getN X hK in_X1_make_X4 hP 4 rfl rfl 3 (by decide) 14 rfl rfl dX1_make_19 ?_
  refine lv_l2i (v := dp.toInt32) hx hb dX1_make_22 rfl ?_
  refine my_put X hK in_X1_make_X1 tyX1 tyX1_ok nmX1 hP hD hS 0 rfl rfl 2 (by decide) (List.mem_of_getElem? (i := 3) rfl) rfl rfl rfl (Nat.le_of_ble_eq_true rfl) dX1_make_23 (fun H locs hP hD hS => ?_)
  have hP : va_P (dC, dI) vwCl ([(mp, .inr (1, [.ref o, .int go, .int dp.toInt32, .int mw])), (o, .inr (0, [.ref ar1_2, .int (nI (en - fs))])), (o2, .inr (0, [.ref ar2, .int (nI sz2)])), (ar2, .inl (cI, (cap2 * 8), .inl f2)), (su, .inr (4, [.ref sa, .long z, .long al, .long dp, .long wd, .int lim])), (sa, .inl (cJ, 4, .inr (.inl g))), (ar1_2, .inl (cI, (cap1_3 * 8), .inl f1_4))]) H := hP
  have hD : va_D A ([(mp, .inr (1, [.ref o, .int go, .int dp.toInt32, .int mw])), (o, .inr (0, [.ref ar1_2, .int (nI (en - fs))])), (o2, .inr (0, [.ref ar2, .int (nI sz2)])), (ar2, .inl (cI, (cap2 * 8), .inl f2)), (su, .inr (4, [.ref sa, .long z, .long al, .long dp, .long wd, .int lim])), (sa, .inl (cJ, 4, .inr (.inl g))), (ar1_2, .inl (cI, (cap1_3 * 8), .inl f1_4))]) := hD
  refine lv_aload_n hx hb dX1_make_26 rfl (lv_at hl 0 rfl) ?_
  refine lv_aload hx hb dX1_make_27 (lv_at hl 5 rfl) ?_
  refine my_getN X hK in_X1_make_X4 hP 4 rfl rfl 4 (by decide) 15 rfl rfl dX1_make_29 ?_
  refine lv_l2i (v := wd.toInt32) hx hb dX1_make_32 rfl ?_
  refine my_put X hK in_X1_make_X1 tyX1 tyX1_ok nmX1 hP hD hS 0 rfl rfl 3 (by decide) (List.mem_of_getElem? (i := 4) rfl) rfl rfl rfl (Nat.le_of_ble_eq_true rfl) dX1_make_33 (fun H locs hP hD hS => ?_)
  have hP : va_P (dC, dI) vwCl ([(mp, .inr (1, [.ref o, .int go, .int dp.toInt32, .int wd.toInt32])), (o, .inr (0, [.ref ar1_2, .int (nI (en - fs))])), (o2, .inr (0, [.ref ar2, .int (nI sz2)])), (ar2, .inl (cI, (cap2 * 8), .inl f2)), (su, .inr (4, [.ref sa, .long z, .long al, .long dp, .long wd, .int lim])), (sa, .inl (cJ, 4, .inr (.inl g))), (ar1_2, .inl (cI, (cap1_3 * 8), .inl f1_4))]) H := hP
  have hD : va_D A ([(mp, .inr (1, [.ref o, .int go, .int dp.toInt32, .int wd.toInt32])), (o, .inr (0, [.ref ar1_2, .int (nI (en - fs))])), (o2, .inr (0, [.ref ar2, .int (nI sz2)])), (ar2, .inl (cI, (cap2 * 8), .inl f2)), (su, .inr (4, [.ref sa, .long z, .long al, .long dp, .long wd, .int lim])), (sa, .inl (cJ, 4, .inr (.inl g))), (ar1_2, .inl (cI, (cap1_3 * 8), .inl f1_4))]) := hD
  refine lv_aload_n hx hb dX1_make_36 rfl (lv_at hl 0 rfl) ?_
  refine lv_iload hx hb dX1_make_37 (lv_at hl 4 rfl) ?_
  refine lv_i2l (v := go.toInt64) hx hb dX1_make_39 rfl ?_
  refine lv_aload hx hb dX1_make_40 (lv_at hl 5 rfl) ?_
  have hPc := hP.sub (ws' := [(su, .inr (4, [.ref sa, .long z, .long al, .long dp, .long wd, .int lim])), (sa, .inl (cJ, 4, .inr (.inl g)))]) [4, 5] rfl
  refine my_rdl (my_runV (n := 0) (As := []) (rest := [.long go.toInt64, .ref mp]) (C := RX4) X PR.blind (PR.pre hPc hK) (va_recv hK.1 hPc (ci := 4) (q0 := 0) rfl rfl) (c_total l dC dI cI cJ cO su sa g z al dp wd lim ) gX1_make_X4_total rfl rfl rfl (by decide +kernel) rfl ⟨Nat.le_of_ble_eq_true rfl, Nat.le_of_ble_eq_true rfl⟩ hl.1 rfl (Nat.le_of_ble_eq_true rfl) dX1_make_42 ⟨by first | decide | omega | (dsimp only; omega), by first | decide | omega | (dsimp only; omega)⟩) (fun r_5 hr_5 => ?_)
  subst hr_5
  refine lv_lsub hx hb dX1_make_45 ?_
  refine lv_aload hx hb dX1_make_46 (lv_at hl 5 rfl) ?_
  have hPc := hP.sub (ws' := [(mp, .inr (1, [.ref o, .int go, .int dp.toInt32, .int wd.toInt32])), (o, .inr (0, [.ref ar1_2, .int (nI (en - fs))])), (ar1_2, .inl (cI, (cap1_3 * 8), .inl f1_4)), (su, .inr (4, [.ref sa, .long z, .long al, .long dp, .long wd, .int lim])), (sa, .inl (cJ, 4, .inr (.inl g)))]) [0, 1, 6, 4, 5] rfl
  have hDc := hD.sub (ws' := [(mp, .inr (1, [.ref o, .int go, .int dp.toInt32, .int wd.toInt32])), (o, .inr (0, [.ref ar1_2, .int (nI (en - fs))])), (ar1_2, .inl (cI, (cap1_3 * 8), .inl f1_4)), (su, .inr (4, [.ref sa, .long z, .long al, .long dp, .long wd, .int lim])), (sa, .inl (cJ, 4, .inr (.inl g)))]) [0, 1, 6, 4, 5] (by decide) rfl
  refine my_callv (ws := [(mp, .inr (1, [.ref o, .int go, .int dp.toInt32, .int wd.toInt32])), (o, .inr (0, [.ref ar1_2, .int (nI (en - fs))])), (o2, .inr (0, [.ref ar2, .int (nI sz2)])), (ar2, .inl (cI, (cap2 * 8), .inl f2)), (su, .inr (4, [.ref sa, .long z, .long al, .long dp, .long wd, .int lim])), (sa, .inl (cJ, 4, .inr (.inl g))), (ar1_2, .inl (cI, (cap1_3 * 8), .inl f1_4))]) (F := []) (wr := [(o2, .inr (0, [.ref ar2, .int (nI sz2)])), (ar2, .inl (cI, (cap2 * 8), .inl f2))]) (my_runV (n := 2) (As := [.long (go.toInt64 - (al - dp)), .ref su]) (rest := []) (C := RX1) X PW.blind (PW.pre hPc hDc hK) (va_recv hK.1 hPc (ci := 1) (q0 := 0) rfl rfl) (c_setGlue l dC dI cI cJ cO _ mp go dp.toInt32 wd.toInt32 o ar1_2 cap1_3 f1_4 (en - fs) su sa g z al dp wd lim (go.toInt64 - (al - dp)) (by omega) (by omega)) gX1_make_X1_setGlue rfl rfl rfl (by decide +kernel) rfl ⟨Nat.le_of_ble_eq_true rfl, Nat.le_of_ble_eq_true rfl⟩ hl.1 rfl (Nat.le_of_ble_eq_true rfl) dX1_make_48 ⟨by first | decide | omega | (dsimp only; omega), by first | decide | omega | (dsimp only; omega)⟩) hS hP hD hA [0, 1, 6, 4, 5] [2, 3] rfl rfl (by decide) (by decide) (fun u H locs hw_6 hP hD hS => ?_)
  obtain ⟨f1_7, rfl⟩ : ∃ z, z = u := ⟨_, rfl⟩
  try dsimp only at hw_6
  rw [hw_6] at hP hD
  have hP : va_P (dC, dI) vwCl [(mp, .inr (1, [.ref o, .int go, .int dp.toInt32, .int wd.toInt32])), (o, .inr (0, [.ref ar1_2, .int (nI (en - fs))])), (o2, .inr (0, [.ref ar2, .int (nI sz2)])), (ar2, .inl (cI, (cap2 * 8), .inl f2)), (su, .inr (4, [.ref sa, .long z, .long al, .long dp, .long wd, .int lim])), (sa, .inl (cJ, 4, .inr (.inl g))), (ar1_2, .inl (cI, (cap1_3 * 8), .inl (stG f1_4 (go.toInt64 - (al - dp)) g z (en - fs))))] H := hP.sub [2, 3, 0, 1, 5, 6, 4] rfl
  have hD : va_D A [(mp, .inr (1, [.ref o, .int go, .int dp.toInt32, .int wd.toInt32])), (o, .inr (0, [.ref ar1_2, .int (nI (en - fs))])), (o2, .inr (0, [.ref ar2, .int (nI sz2)])), (ar2, .inl (cI, (cap2 * 8), .inl f2)), (su, .inr (4, [.ref sa, .long z, .long al, .long dp, .long wd, .int lim])), (sa, .inl (cJ, 4, .inr (.inl g))), (ar1_2, .inl (cI, (cap1_3 * 8), .inl (stG f1_4 (go.toInt64 - (al - dp)) g z (en - fs))))] := hD.sub [2, 3, 0, 1, 5, 6, 4] (by decide) rfl
  exact my_vret (WSf := (fun u : Nat × Nat × (Nat → Int32) => [(mp, .inr (1, [.ref o, .int go, .int dp.toInt32, .int wd.toInt32])), (o, .inr (0, [.ref u.1, .int (nI (en - fs))])), (u.1, .inl (cI, (u.2.1 * 8), .inl u.2.2)), (o2, .inr (0, [.ref ar2, .int (nI sz2)])), (ar2, .inl (cI, (cap2 * 8), .inl f2)), (su, .inr (4, [.ref sa, .long z, .long al, .long dp, .long wd, .int lim])), (sa, .inl (cJ, 4, .inr (.inl g)))])) (ar1_2, cap1_3, (stG f1_4 (go.toInt64 - (al - dp)) g z (en - fs))) X (⟨hc1, _, hf1, rfl⟩) (hP.sub [0, 1, 6, 2, 3, 4, 5] rfl) (hD.sub [0, 1, 6, 2, 3, 4, 5] (by decide) rfl) hS (by omega) (by omega) dX1_make_51
theorem in_X1_init_X0 : ∀ w ∈ wsX00, w ∈ wsX1_init := fun _ h => List.mem_cons_of_mem _ (List.mem_append_left _ (List.mem_append_right _ h))
theorem in_X1_init_X1 : ∀ w ∈ wsX10, w ∈ wsX1_init := fun _ h => List.mem_cons_of_mem _ (List.mem_append_right _ h)
set_option maxHeartbeats 200000 in
set_option maxRecDepth 100000 in
theorem c_MadePage_init (l : Launch) (dC : Nat → ClassId) (dI : Nat → Nat → Nat) (cI cJ cO : ClassId) (hz : Nat) (mp : Nat)  : Met l yX1_init wsX1_init ({ frames := 2, cells := 2, slots := 66, locals := 33 }) (va_Pc [.ref mp] (PW dC dI cI cJ cO [(mp, .inr (1, [.null, .int 0, .int 0, .int 0]))] hz)) (va_Qv (fun u : Nat × Nat => True) (fun (u : Nat × Nat) t9 => BW dC dI (va_A [(mp, .inr (1, [.null, .int 0, .int 0, .int 0]))] hz) [(mp, .inr (1, [.ref u.1, .int 0, .int 0, .int 0])), (u.1, .inr (0, [.ref u.2, .int (nI 0)])), (u.2, .inl (cI, (8 * 8), .inl (fun _ => 0)))] t9) (va_A [(mp, .inr (1, [.null, .int 0, .int 0, .int 0]))] hz)) 2 66 (va_A [(mp, .inr (1, [.null, .int 0, .int 0, .int 0]))] hz) := by
  refine my_metW (ws := wsX1_init) (cc := cX1_init) (maxL := 1) (ret := none) (Qc := fun A => va_Qv (fun u : Nat × Nat => True) (fun (u : Nat × Nat) t9 => BW dC dI A [(mp, .inr (1, [.ref u.1, .int 0, .int 0, .int 0])), (u.1, .inr (0, [.ref u.2, .int (nI 0)])), (u.2, .inl (cI, (8 * 8), .inl (fun _ => 0)))] t9) A) (by decide) rfl (Nat.le_of_ble_eq_true rfl) ?_
  intro p e s m below meth c ls A X hl hK hA hP hD hS
  obtain ⟨hx, hb, hr, hml, hown, hts, hlocks, hnm⟩ := id X
  have hl : lv_has ls 1 [(0, .ref mp)] := hl
  refine lv_aload_n hx hb dX1_init_0 rfl (lv_at hl 0 rfl) ?_
  refine W.objInit hx hb hown (hts _ (List.mem_of_getElem? (i := 1) rfl)) (hts _ (List.mem_of_getElem? (i := 2) rfl)) (hts _ (List.mem_of_getElem? (i := 3) rfl)) rfl (by rw [hml]; exact hl.1) rfl dX1_init_1 (Nat.le_of_ble_eq_true rfl) (Nat.le_of_ble_eq_true rfl) ?_
  refine W.eq (g2 := F0 m 4 ls []) rfl ?_
  refine lv_aload_n hx hb dX1_init_4 rfl (lv_at hl 0 rfl) ?_
  refine va_new (ci := 0) (fs := [.null, .int 0]) (C := RX0) (T := TX0) (N := 2) hx hb hts in_X1_init_X0 tyX0 tyX0_ok hown (hts _ (List.mem_of_getElem? (i := 4) rfl)) (hts _ (List.mem_of_getElem? (i := 5) rfl)) (hts _ (List.mem_of_getElem? (i := 6) rfl)) hK.1 hP hD hS hA rfl (by decide) (by first | decide | omega | (dsimp only; omega)) (by first | decide | omega | (dsimp only; omega)) dX1_init_5 (fun q_1 H hP hD hS => ?_)
  have hP : va_P (dC, dI) vwCl ([(mp, .inr (1, [.null, .int 0, .int 0, .int 0])), (q_1, .inr (0, [.null, .int 0]))]) H := hP
  have hD : va_D A ([(mp, .inr (1, [.null, .int 0, .int 0, .int 0])), (q_1, .inr (0, [.null, .int 0]))]) := hD
  refine lv_dup hx hb dX1_init_8 rfl ?_
  refine lv_bipush (v := 8) hx hb dX1_init_9 (by decide) ?_
  have hPc := hP.sub (ws' := [(q_1, .inr (0, [.null, .int 0]))]) [1] rfl
  have hDc := hD.sub (ws' := [(q_1, .inr (0, [.null, .int 0]))]) [1] (by decide) rfl
  refine my_callv (ws := [(mp, .inr (1, [.null, .int 0, .int 0, .int 0])), (q_1, .inr (0, [.null, .int 0]))]) (F := []) (wr := [(mp, .inr (1, [.null, .int 0, .int 0, .int 0]))]) (my_runI (n := 1) (As := [.int 8]) (rest := [.ref q_1, .ref mp]) X PW.blind (PW.pre hPc hDc hK) (c_Items_init l dC dI cI cJ cO _ q_1 8 (by omega) (by omega)) gX1_init_X0_init rfl rfl rfl (List.mem_of_getElem? (i := 6) rfl) (List.mem_of_getElem? (i := 8) rfl) (List.mem_of_getElem? (i := 9) rfl) rfl (by decide +kernel) rfl ⟨Nat.le_of_ble_eq_true rfl, Nat.le_of_ble_eq_true rfl⟩ hl.1 rfl (Nat.le_of_ble_eq_true rfl) dX1_init_11 ⟨by first | decide | omega | (dsimp only; omega), by first | decide | omega | (dsimp only; omega)⟩) hS hP hD hA [1] [0] rfl rfl (by decide) (by decide) (fun u H locs hw_2 hP hD hS => ?_)
  obtain ⟨q_3, rfl⟩ : ∃ z, z = u := ⟨_, rfl⟩
  have hP : va_P (dC, dI) vwCl [(mp, .inr (1, [.null, .int 0, .int 0, .int 0])), (q_1, .inr (0, [.ref q_3, .int (nI 0)])), (q_3, .inl (cI, (8 * 8), .inl (fun _ => 0)))] H := hP.sub [0, 1, 2] rfl
  have hD : va_D A [(mp, .inr (1, [.null, .int 0, .int 0, .int 0])), (q_1, .inr (0, [.ref q_3, .int (nI 0)])), (q_3, .inl (cI, (8 * 8), .inl (fun _ => 0)))] := hD.sub [0, 1, 2] (by decide) rfl
  refine my_putF X hK in_X1_init_X1 tyX1 tyX1_ok nmX1 hP hD hS 0 rfl rfl 0 (by decide) (List.mem_of_getElem? (i := 7) rfl) rfl rfl rfl rfl (Nat.le_of_ble_eq_true rfl) dX1_init_14 (fun H locs hP hD hS => ?_)
  have hP : va_P (dC, dI) vwCl ([(mp, .inr (1, [.ref q_1, .int 0, .int 0, .int 0])), (q_1, .inr (0, [.ref q_3, .int (nI 0)])), (q_3, .inl (cI, (8 * 8), .inl (fun _ => 0)))]) H := hP
  have hD : va_D A ([(mp, .inr (1, [.ref q_1, .int 0, .int 0, .int 0])), (q_1, .inr (0, [.ref q_3, .int (nI 0)])), (q_3, .inl (cI, (8 * 8), .inl (fun _ => 0)))]) := hD
  exact my_vret (WSf := (fun u : Nat × Nat => [(mp, .inr (1, [.ref u.1, .int 0, .int 0, .int 0])), (u.1, .inr (0, [.ref u.2, .int (nI 0)])), (u.2, .inl (cI, (8 * 8), .inl (fun _ => 0)))])) (q_1, q_3) X (trivial) (hP) (hD) hS (by first | decide | omega | (dsimp only; omega)) (by first | decide | omega | (dsimp only; omega)) dX1_init_17
