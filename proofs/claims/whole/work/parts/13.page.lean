theorem in_X2_weigh_X2 : ∀ w ∈ wsX20, w ∈ wsX2_weigh := fun _ h => List.mem_cons_of_mem _ (List.mem_append_left _ (List.mem_append_right _ h))
set_option maxHeartbeats 200000 in
set_option maxRecDepth 100000 in
theorem c_weigh (l : Launch) (dC : Nat → ClassId) (dI : Nat → Nat → Nat) (cI cJ cO : ClassId) (hz : Nat) (pg : Nat) (bg : Int32) (fi : Int32) (go : Int32) (be : Int32) (lc : Int64) (su : Nat) (sa : Nat) (g : Nat → Int64) (z : Int64) (al : Int64) (dp : Int64) (wd : Int64) (lim : Int32) (q : Int32) (ah : Int32)  : Met l yX2_weigh wsX2_weigh ({ frames := 2, cells := 0, slots := 0, locals := 47 }) (va_Pc [.ref pg, .int q, .int ah] (PW dC dI cI cJ cO [(pg, .inr (2, [.ref su, .int bg, .int fi, .int go, .int be, .long lc])), (su, .inr (4, [.ref sa, .long z, .long al, .long dp, .long wd, .int lim])), (sa, .inl (cJ, 4, .inr (.inl g)))] hz)) (va_Qi (fun r : Int32 => fun u : Int32 × Int64 => u.1 = (if bnw go (al - dp) z g = -1 ∨ (¬ be = -1 ∧ lc < cst (bnw go (al - dp) z g) q) then be else ah) ∧ u.2 = (if bnw go (al - dp) z g = -1 ∨ (¬ be = -1 ∧ lc < cst (bnw go (al - dp) z g) q) then lc else cst (bnw go (al - dp) z g) q) ∧ r = if bnw go (al - dp) z g = -1 ∨ ¬ -10000 < q then 1 else 0) (fun (u : Int32 × Int64) t9 => BW dC dI (va_A [(pg, .inr (2, [.ref su, .int bg, .int fi, .int go, .int be, .long lc])), (su, .inr (4, [.ref sa, .long z, .long al, .long dp, .long wd, .int lim])), (sa, .inl (cJ, 4, .inr (.inl g)))] hz) [(pg, .inr (2, [.ref su, .int bg, .int fi, .int go, .int u.1, .long u.2])), (su, .inr (4, [.ref sa, .long z, .long al, .long dp, .long wd, .int lim])), (sa, .inl (cJ, 4, .inr (.inl g)))] t9) (va_A [(pg, .inr (2, [.ref su, .int bg, .int fi, .int go, .int be, .long lc])), (su, .inr (4, [.ref sa, .long z, .long al, .long dp, .long wd, .int lim])), (sa, .inl (cJ, 4, .inr (.inl g)))] hz)) 0 0 (va_A [(pg, .inr (2, [.ref su, .int bg, .int fi, .int go, .int be, .long lc])), (su, .inr (4, [.ref sa, .long z, .long al, .long dp, .long wd, .int lim])), (sa, .inl (cJ, 4, .inr (.inl g)))] hz) := by
  refine my_metW (ws := wsX2_weigh) (cc := cX2_weigh) (maxL := 8) (ret := (some .boolean)) (Qc := fun A => va_Qi (fun r : Int32 => fun u : Int32 × Int64 => u.1 = (if bnw go (al - dp) z g = -1 ∨ (¬ be = -1 ∧ lc < cst (bnw go (al - dp) z g) q) then be else ah) ∧ u.2 = (if bnw go (al - dp) z g = -1 ∨ (¬ be = -1 ∧ lc < cst (bnw go (al - dp) z g) q) then lc else cst (bnw go (al - dp) z g) q) ∧ r = if bnw go (al - dp) z g = -1 ∨ ¬ -10000 < q then 1 else 0) (fun (u : Int32 × Int64) t9 => BW dC dI A [(pg, .inr (2, [.ref su, .int bg, .int fi, .int go, .int u.1, .long u.2])), (su, .inr (4, [.ref sa, .long z, .long al, .long dp, .long wd, .int lim])), (sa, .inl (cJ, 4, .inr (.inl g)))] t9) A) (by decide) rfl (Nat.le_of_ble_eq_true rfl) ?_
  intro p e s m below meth c ls A X hl hK hA hP hD hS
  obtain ⟨hx, hb, hr, hml, hown, hts, hlocks, hnm⟩ := id X
  have hl : lv_has ls 8 [(0, .ref pg), (1, .int q), (2, .int ah)] := hl
  refine lv_aload_n hx hb dX2_weigh_0 rfl (lv_at hl 0 rfl) ?_
  have hPc := hP.sub (ws' := [(pg, .inr (2, [.ref su, .int bg, .int fi, .int go, .int be, .long lc])), (su, .inr (4, [.ref sa, .long z, .long al, .long dp, .long wd, .int lim])), (sa, .inl (cJ, 4, .inr (.inl g)))]) [0, 1, 2] rfl
  refine my_rdl (my_runV (n := 0) (As := []) (rest := []) (C := RX2) X PR.blind (PR.pre hPc hK) (va_recv hK.1 hPc (ci := 2) (q0 := 0) rfl rfl) (c_badnessNow l dC dI cI cJ cO pg bg fi go be lc su sa g z al dp wd lim ) gX2_weigh_X2_badnessNow rfl rfl rfl (by decide +kernel) rfl ⟨Nat.le_of_ble_eq_true rfl, Nat.le_of_ble_eq_true rfl⟩ hl.1 rfl (Nat.le_of_ble_eq_true rfl) dX2_weigh_1 ⟨by first | decide | omega | (dsimp only; omega), by first | decide | omega | (dsimp only; omega)⟩) (fun r_1 hr_1 => ?_)
  subst hr_1
  refine lv_lstore_n (lv' := [(3, .long (bnw go (al - dp) z g)), (0, .ref pg), (1, .int q), (2, .int ah)]) hx hb dX2_weigh_4 rfl hl (by decide) rfl (fun ls hl => ?_)
  refine lv_lload_n hx hb dX2_weigh_5 rfl (lv_at hl 0 rfl) ?_
  refine lv_ldc2 (v := (-1)) hx hb hown (hts _ (List.mem_of_getElem? (i := 1) rfl)) dX2_weigh_6 ?_
  refine my_lif_eq (tgt := 17) hx hb dX2_weigh_9 dX2_weigh_10 (by decide) (fun c_9 => ?_) (fun c_9 => ?_)
  · refine lv_iconst (v := 0) hx hb dX2_weigh_17 (by decide) ?_
    refine lv_istore (lv' := [(5, .int 0), (3, .long (bnw go (al - dp) z g)), (0, .ref pg), (1, .int q), (2, .int ah)]) hx hb dX2_weigh_18 hl (by decide) rfl (fun ls hl => ?_)
    refine lv_lload_n hx hb dX2_weigh_20 rfl (lv_at hl 1 rfl) ?_
    refine lv_iload_n hx hb dX2_weigh_21 rfl (lv_at hl 3 rfl) ?_
    have hPc := hP.sub (ws' := []) [] rfl
    refine my_rdl (my_runS (n := 2) (As := [.long (bnw go (al - dp) z g), .int q]) (rest := []) X PR.blind (PR.pre hPc hK) (c_costOf l dC dI cI cJ cO (bnw go (al - dp) z g) q ) gX2_weigh_X2_costOf rfl rfl rfl (by decide +kernel) rfl ⟨Nat.le_of_ble_eq_true rfl, Nat.le_of_ble_eq_true rfl⟩ hl.1 rfl (Nat.le_of_ble_eq_true rfl) dX2_weigh_22 ⟨by first | decide | omega | (dsimp only; omega), by first | decide | omega | (dsimp only; omega)⟩) (fun r_2 hr_2 => ?_)
    subst hr_2
    refine lv_lstore (lv' := [(6, .long (cst (bnw go (al - dp) z g) q)), (5, .int 0), (3, .long (bnw go (al - dp) z g)), (0, .ref pg), (1, .int q), (2, .int ah)]) hx hb dX2_weigh_25 hl (by decide) rfl (fun ls hl => ?_)
    refine lv_iload hx hb dX2_weigh_27 (lv_at hl 1 rfl) ?_
    refine lv_if_eq (tgt := 60) hx hb dX2_weigh_29 (by decide) (fun c_29 => ?_) (fun c_29 => ?_)
    · have c_29 := nc_eq (a := 0) (b := 0) c_29 (by omega) (by omega)
      refine lv_iload hx hb dX2_weigh_60 (lv_at hl 1 rfl) ?_
      refine lv_if_eq (tgt := 72) hx hb dX2_weigh_62 (by decide) (fun c_62 => ?_) (fun c_62 => ?_)
      · have c_62 := nc_eq (a := 0) (b := 0) c_62 (by omega) (by omega)
        refine lv_iconst (v := 1) hx hb dX2_weigh_72 (by decide) ?_
        refine lv_goto (tgt := 77) hx hb dX2_weigh_73 (by decide) ?_
        exact my_zret (WSf := (fun u : Int32 × Int64 => [(pg, .inr (2, [.ref su, .int bg, .int fi, .int go, .int u.1, .long u.2])), (su, .inr (4, [.ref sa, .long z, .long al, .long dp, .long wd, .int lim])), (sa, .inl (cJ, 4, .inr (.inl g)))])) (be, lc) X rfl (by simp [c_9]) (hP) (hD) hS (by first | decide | omega | (dsimp only; omega)) (by first | decide | omega | (dsimp only; omega)) dX2_weigh_77
      · exact absurd c_62 (by decide)
    · exact absurd c_29 (by decide)
  · refine lv_iconst (v := 1) hx hb dX2_weigh_13 (by decide) ?_
    refine lv_goto (tgt := 18) hx hb dX2_weigh_14 (by decide) ?_
    refine lv_istore (lv' := [(5, .int 1), (3, .long (bnw go (al - dp) z g)), (0, .ref pg), (1, .int q), (2, .int ah)]) hx hb dX2_weigh_18 hl (by decide) rfl (fun ls hl => ?_)
    refine lv_lload_n hx hb dX2_weigh_20 rfl (lv_at hl 1 rfl) ?_
    refine lv_iload_n hx hb dX2_weigh_21 rfl (lv_at hl 3 rfl) ?_
    have hPc := hP.sub (ws' := []) [] rfl
    refine my_rdl (my_runS (n := 2) (As := [.long (bnw go (al - dp) z g), .int q]) (rest := []) X PR.blind (PR.pre hPc hK) (c_costOf l dC dI cI cJ cO (bnw go (al - dp) z g) q ) gX2_weigh_X2_costOf rfl rfl rfl (by decide +kernel) rfl ⟨Nat.le_of_ble_eq_true rfl, Nat.le_of_ble_eq_true rfl⟩ hl.1 rfl (Nat.le_of_ble_eq_true rfl) dX2_weigh_22 ⟨by first | decide | omega | (dsimp only; omega), by first | decide | omega | (dsimp only; omega)⟩) (fun r_3 hr_3 => ?_)
    subst hr_3
    refine lv_lstore (lv' := [(6, .long (cst (bnw go (al - dp) z g) q)), (5, .int 1), (3, .long (bnw go (al - dp) z g)), (0, .ref pg), (1, .int q), (2, .int ah)]) hx hb dX2_weigh_25 hl (by decide) rfl (fun ls hl => ?_)
    refine lv_iload hx hb dX2_weigh_27 (lv_at hl 1 rfl) ?_
    refine lv_if_eq (tgt := 60) hx hb dX2_weigh_29 (by decide) (fun c_29 => ?_) (fun c_29 => ?_)
    · exact absurd c_29 (by decide)
    · have c_29 := nc_ne (a := 1) (b := 0) c_29 (by omega) (by omega)
      refine lv_aload_n hx hb dX2_weigh_32 rfl (lv_at hl 3 rfl) ?_
      have hPc := hP.sub (ws' := [(pg, .inr (2, [.ref su, .int bg, .int fi, .int go, .int be, .long lc]))]) [0] rfl
      refine my_rdi (my_runV (n := 0) (As := []) (rest := []) (C := RX2) X PR.blind (PR.pre hPc hK) (va_recv hK.1 hPc (ci := 2) (q0 := 0) rfl rfl) (c_hasBest l dC dI cI cJ cO pg bg fi go be lc su ) gX2_weigh_X2_hasBest rfl rfl rfl (by decide +kernel) rfl ⟨Nat.le_of_ble_eq_true rfl, Nat.le_of_ble_eq_true rfl⟩ hl.1 rfl (Nat.le_of_ble_eq_true rfl) dX2_weigh_33 ⟨by first | decide | omega | (dsimp only; omega), by first | decide | omega | (dsimp only; omega)⟩) (fun r_4 hr_4 => ?_)
      subst hr_4
      refine lv_if_eq (tgt := 49) hx hb dX2_weigh_36 (by decide) (fun c_36 => ?_) (fun c_36 => ?_)
      · refine lv_aload_n hx hb dX2_weigh_49 rfl (lv_at hl 3 rfl) ?_
        refine lv_iload_n hx hb dX2_weigh_50 rfl (lv_at hl 5 rfl) ?_
        refine my_put X hK in_X2_weigh_X2 tyX2 tyX2_ok nmX2 hP hD hS 0 rfl rfl 4 (by decide) (List.mem_of_getElem? (i := 3) rfl) rfl rfl rfl (Nat.le_of_ble_eq_true rfl) dX2_weigh_51 (fun H locs hP hD hS => ?_)
        have hP : va_P (dC, dI) vwCl ([(pg, .inr (2, [.ref su, .int bg, .int fi, .int go, .int ah, .long lc])), (su, .inr (4, [.ref sa, .long z, .long al, .long dp, .long wd, .int lim])), (sa, .inl (cJ, 4, .inr (.inl g)))]) H := hP
        have hD : va_D A ([(pg, .inr (2, [.ref su, .int bg, .int fi, .int go, .int ah, .long lc])), (su, .inr (4, [.ref sa, .long z, .long al, .long dp, .long wd, .int lim])), (sa, .inl (cJ, 4, .inr (.inl g)))]) := hD
        refine lv_aload_n hx hb dX2_weigh_54 rfl (lv_at hl 3 rfl) ?_
        refine lv_lload hx hb dX2_weigh_55 (lv_at hl 0 rfl) ?_
        refine my_put X hK in_X2_weigh_X2 tyX2 tyX2_ok nmX2 hP hD hS 0 rfl rfl 5 (by decide) (List.mem_of_getElem? (i := 2) rfl) rfl rfl rfl (Nat.le_of_ble_eq_true rfl) dX2_weigh_57 (fun H locs hP hD hS => ?_)
        have hP : va_P (dC, dI) vwCl ([(pg, .inr (2, [.ref su, .int bg, .int fi, .int go, .int ah, .long (cst (bnw go (al - dp) z g) q)])), (su, .inr (4, [.ref sa, .long z, .long al, .long dp, .long wd, .int lim])), (sa, .inl (cJ, 4, .inr (.inl g)))]) H := hP
        have hD : va_D A ([(pg, .inr (2, [.ref su, .int bg, .int fi, .int go, .int ah, .long (cst (bnw go (al - dp) z g) q)])), (su, .inr (4, [.ref sa, .long z, .long al, .long dp, .long wd, .int lim])), (sa, .inl (cJ, 4, .inr (.inl g)))]) := hD
        refine lv_iload hx hb dX2_weigh_60 (lv_at hl 1 rfl) ?_
        refine lv_if_eq (tgt := 72) hx hb dX2_weigh_62 (by decide) (fun c_62 => ?_) (fun c_62 => ?_)
        · exact absurd c_62 (by decide)
        · have c_62 := nc_ne (a := 1) (b := 0) c_62 (by omega) (by omega)
          refine lv_iload_n hx hb dX2_weigh_65 rfl (lv_at hl 4 rfl) ?_
          refine lv_sipush (v := (-10000)) hx hb dX2_weigh_66 (by decide) ?_
          refine lv_icmp_gt (tgt := 76) hx hb dX2_weigh_69 (by decide) (fun c_69 => ?_) (fun c_69 => ?_)
          · refine lv_iconst (v := 0) hx hb dX2_weigh_76 (by decide) ?_
            exact my_zret (WSf := (fun u : Int32 × Int64 => [(pg, .inr (2, [.ref su, .int bg, .int fi, .int go, .int u.1, .long u.2])), (su, .inr (4, [.ref sa, .long z, .long al, .long dp, .long wd, .int lim])), (sa, .inl (cJ, 4, .inr (.inl g)))])) (ah, cst (bnw go (al - dp) z g) q) X rfl (by simp at c_36; simp [c_9, c_36, c_69]) (hP) (hD) hS (by first | decide | omega | (dsimp only; omega)) (by first | decide | omega | (dsimp only; omega)) dX2_weigh_77
          · refine lv_iconst (v := 1) hx hb dX2_weigh_72 (by decide) ?_
            refine lv_goto (tgt := 77) hx hb dX2_weigh_73 (by decide) ?_
            exact my_zret (WSf := (fun u : Int32 × Int64 => [(pg, .inr (2, [.ref su, .int bg, .int fi, .int go, .int u.1, .long u.2])), (su, .inr (4, [.ref sa, .long z, .long al, .long dp, .long wd, .int lim])), (sa, .inl (cJ, 4, .inr (.inl g)))])) (ah, cst (bnw go (al - dp) z g) q) X rfl (by simp at c_36; simp [c_9, c_36, c_69]) (hP) (hD) hS (by first | decide | omega | (dsimp only; omega)) (by first | decide | omega | (dsimp only; omega)) dX2_weigh_77
      · refine lv_lload hx hb dX2_weigh_39 (lv_at hl 0 rfl) ?_
        refine lv_aload_n hx hb dX2_weigh_41 rfl (lv_at hl 3 rfl) ?_
        refine my_get X hK in_X2_weigh_X2 hP 0 rfl rfl 5 (by decide) (List.mem_of_getElem? (i := 2) rfl) rfl dX2_weigh_42 ?_
        refine my_lif_gt (tgt := 60) hx hb dX2_weigh_45 dX2_weigh_46 (by decide) (fun c_45 => ?_) (fun c_45 => ?_)
        · refine lv_iload hx hb dX2_weigh_60 (lv_at hl 1 rfl) ?_
          refine lv_if_eq (tgt := 72) hx hb dX2_weigh_62 (by decide) (fun c_62 => ?_) (fun c_62 => ?_)
          · exact absurd c_62 (by decide)
          · have c_62 := nc_ne (a := 1) (b := 0) c_62 (by omega) (by omega)
            refine lv_iload_n hx hb dX2_weigh_65 rfl (lv_at hl 4 rfl) ?_
            refine lv_sipush (v := (-10000)) hx hb dX2_weigh_66 (by decide) ?_
            refine lv_icmp_gt (tgt := 76) hx hb dX2_weigh_69 (by decide) (fun c_69 => ?_) (fun c_69 => ?_)
            · refine lv_iconst (v := 0) hx hb dX2_weigh_76 (by decide) ?_
              exact my_zret (WSf := (fun u : Int32 × Int64 => [(pg, .inr (2, [.ref su, .int bg, .int fi, .int go, .int u.1, .long u.2])), (su, .inr (4, [.ref sa, .long z, .long al, .long dp, .long wd, .int lim])), (sa, .inl (cJ, 4, .inr (.inl g)))])) (be, lc) X rfl (by simp at c_36; simp [c_9, c_36, c_45, c_69]) (hP) (hD) hS (by first | decide | omega | (dsimp only; omega)) (by first | decide | omega | (dsimp only; omega)) dX2_weigh_77
            · refine lv_iconst (v := 1) hx hb dX2_weigh_72 (by decide) ?_
              refine lv_goto (tgt := 77) hx hb dX2_weigh_73 (by decide) ?_
              exact my_zret (WSf := (fun u : Int32 × Int64 => [(pg, .inr (2, [.ref su, .int bg, .int fi, .int go, .int u.1, .long u.2])), (su, .inr (4, [.ref sa, .long z, .long al, .long dp, .long wd, .int lim])), (sa, .inl (cJ, 4, .inr (.inl g)))])) (be, lc) X rfl (by simp at c_36; simp [c_9, c_36, c_45, c_69]) (hP) (hD) hS (by first | decide | omega | (dsimp only; omega)) (by first | decide | omega | (dsimp only; omega)) dX2_weigh_77
        · refine lv_aload_n hx hb dX2_weigh_49 rfl (lv_at hl 3 rfl) ?_
          refine lv_iload_n hx hb dX2_weigh_50 rfl (lv_at hl 5 rfl) ?_
          refine my_put X hK in_X2_weigh_X2 tyX2 tyX2_ok nmX2 hP hD hS 0 rfl rfl 4 (by decide) (List.mem_of_getElem? (i := 3) rfl) rfl rfl rfl (Nat.le_of_ble_eq_true rfl) dX2_weigh_51 (fun H locs hP hD hS => ?_)
          have hP : va_P (dC, dI) vwCl ([(pg, .inr (2, [.ref su, .int bg, .int fi, .int go, .int ah, .long lc])), (su, .inr (4, [.ref sa, .long z, .long al, .long dp, .long wd, .int lim])), (sa, .inl (cJ, 4, .inr (.inl g)))]) H := hP
          have hD : va_D A ([(pg, .inr (2, [.ref su, .int bg, .int fi, .int go, .int ah, .long lc])), (su, .inr (4, [.ref sa, .long z, .long al, .long dp, .long wd, .int lim])), (sa, .inl (cJ, 4, .inr (.inl g)))]) := hD
          refine lv_aload_n hx hb dX2_weigh_54 rfl (lv_at hl 3 rfl) ?_
          refine lv_lload hx hb dX2_weigh_55 (lv_at hl 0 rfl) ?_
          refine my_put X hK in_X2_weigh_X2 tyX2 tyX2_ok nmX2 hP hD hS 0 rfl rfl 5 (by decide) (List.mem_of_getElem? (i := 2) rfl) rfl rfl rfl (Nat.le_of_ble_eq_true rfl) dX2_weigh_57 (fun H locs hP hD hS => ?_)
          have hP : va_P (dC, dI) vwCl ([(pg, .inr (2, [.ref su, .int bg, .int fi, .int go, .int ah, .long (cst (bnw go (al - dp) z g) q)])), (su, .inr (4, [.ref sa, .long z, .long al, .long dp, .long wd, .int lim])), (sa, .inl (cJ, 4, .inr (.inl g)))]) H := hP
          have hD : va_D A ([(pg, .inr (2, [.ref su, .int bg, .int fi, .int go, .int ah, .long (cst (bnw go (al - dp) z g) q)])), (su, .inr (4, [.ref sa, .long z, .long al, .long dp, .long wd, .int lim])), (sa, .inl (cJ, 4, .inr (.inl g)))]) := hD
          refine lv_iload hx hb dX2_weigh_60 (lv_at hl 1 rfl) ?_
          refine lv_if_eq (tgt := 72) hx hb dX2_weigh_62 (by decide) (fun c_62 => ?_) (fun c_62 => ?_)
          · exact absurd c_62 (by decide)
          · have c_62 := nc_ne (a := 1) (b := 0) c_62 (by omega) (by omega)
            refine lv_iload_n hx hb dX2_weigh_65 rfl (lv_at hl 4 rfl) ?_
            refine lv_sipush (v := (-10000)) hx hb dX2_weigh_66 (by decide) ?_
            refine lv_icmp_gt (tgt := 76) hx hb dX2_weigh_69 (by decide) (fun c_69 => ?_) (fun c_69 => ?_)
            · refine lv_iconst (v := 0) hx hb dX2_weigh_76 (by decide) ?_
              exact my_zret (WSf := (fun u : Int32 × Int64 => [(pg, .inr (2, [.ref su, .int bg, .int fi, .int go, .int u.1, .long u.2])), (su, .inr (4, [.ref sa, .long z, .long al, .long dp, .long wd, .int lim])), (sa, .inl (cJ, 4, .inr (.inl g)))])) (ah, cst (bnw go (al - dp) z g) q) X rfl (by simp at c_36; simp [c_9, c_36, c_45, c_69]) (hP) (hD) hS (by first | decide | omega | (dsimp only; omega)) (by first | decide | omega | (dsimp only; omega)) dX2_weigh_77
            · refine lv_iconst (v := 1) hx hb dX2_weigh_72 (by decide) ?_
              refine lv_goto (tgt := 77) hx hb dX2_weigh_73 (by decide) ?_
              exact my_zret (WSf := (fun u : Int32 × Int64 => [(pg, .inr (2, [.ref su, .int bg, .int fi, .int go, .int u.1, .long u.2])), (su, .inr (4, [.ref sa, .long z, .long al, .long dp, .long wd, .int lim])), (sa, .inl (cJ, 4, .inr (.inl g)))])) (ah, cst (bnw go (al - dp) z g) q) X rfl (by simp at c_36; simp [c_9, c_36, c_45, c_69]) (hP) (hD) hS (by first | decide | omega | (dsimp only; omega)) (by first | decide | omega | (dsimp only; omega)) dX2_weigh_77
theorem in_X2_begin_X2 : ∀ w ∈ wsX20, w ∈ wsX2_begin := fun _ h => List.mem_cons_of_mem _ (List.mem_append_left _ (List.mem_append_right _ h))
set_option maxHeartbeats 200000 in
set_option maxRecDepth 100000 in
theorem c_pbegin (l : Launch) (dC : Nat → ClassId) (dI : Nat → Nat → Nat) (cI cJ cO : ClassId) (hz : Nat) (pg : Nat) (bg : Int32) (fi : Int32) (go : Int32) (be : Int32) (lc : Int64) (su : Nat) (sa : Nat) (g : Nat → Int64) (z : Int64) (al : Int64) (dp : Int64) (wd : Int64) (lim : Int32) (pl : Int32) (ht : Int32) (dl : Int32)  : Met l yX2_begin wsX2_begin ({ frames := 2, cells := 0, slots := 0, locals := 45 }) (va_Pc [.ref pg, .int pl, .int ht, .int dl] (PW dC dI cI cJ cO [(pg, .inr (2, [.ref su, .int bg, .int fi, .int go, .int be, .long lc])), (su, .inr (4, [.ref sa, .long z, .long al, .long dp, .long wd, .int lim])), (sa, .inl (cJ, 4, .inr (.inl g)))] hz)) (va_Qv (fun g1 : Nat → Int64 => ∀ j, j < 4 → g1 j = 0) (fun (g1 : Nat → Int64) t9 => BW dC dI (va_A [(pg, .inr (2, [.ref su, .int bg, .int fi, .int go, .int be, .long lc])), (su, .inr (4, [.ref sa, .long z, .long al, .long dp, .long wd, .int lim])), (sa, .inl (cJ, 4, .inr (.inl g)))] hz) [(pg, .inr (2, [.ref su, .int 1, .int pl, .int ht, .int be, .long lc])), (su, .inr (4, [.ref sa, .long 0, .long 0, .long 0, .long 0, .int dl])), (sa, .inl (cJ, 4, .inr (.inl g1)))] t9) (va_A [(pg, .inr (2, [.ref su, .int bg, .int fi, .int go, .int be, .long lc])), (su, .inr (4, [.ref sa, .long z, .long al, .long dp, .long wd, .int lim])), (sa, .inl (cJ, 4, .inr (.inl g)))] hz)) 0 0 (va_A [(pg, .inr (2, [.ref su, .int bg, .int fi, .int go, .int be, .long lc])), (su, .inr (4, [.ref sa, .long z, .long al, .long dp, .long wd, .int lim])), (sa, .inl (cJ, 4, .inr (.inl g)))] hz) := by
  refine my_metW (ws := wsX2_begin) (cc := cX2_begin) (maxL := 4) (ret := none) (Qc := fun A => va_Qv (fun g1 : Nat → Int64 => ∀ j, j < 4 → g1 j = 0) (fun (g1 : Nat → Int64) t9 => BW dC dI A [(pg, .inr (2, [.ref su, .int 1, .int pl, .int ht, .int be, .long lc])), (su, .inr (4, [.ref sa, .long 0, .long 0, .long 0, .long 0, .int dl])), (sa, .inl (cJ, 4, .inr (.inl g1)))] t9) A) (by decide) rfl (Nat.le_of_ble_eq_true rfl) ?_
  intro p e s m below meth c ls A X hl hK hA hP hD hS
  obtain ⟨hx, hb, hr, hml, hown, hts, hlocks, hnm⟩ := id X
  have hl : lv_has ls 4 [(0, .ref pg), (1, .int pl), (2, .int ht), (3, .int dl)] := hl
  refine lv_aload_n hx hb dX2_begin_0 rfl (lv_at hl 0 rfl) ?_
  refine lv_iconst (v := 1) hx hb dX2_begin_1 (by decide) ?_
  refine my_put X hK in_X2_begin_X2 tyX2 tyX2_ok nmX2 hP hD hS 0 rfl rfl 1 (by decide) (List.mem_of_getElem? (i := 1) rfl) rfl rfl rfl (Nat.le_of_ble_eq_true rfl) dX2_begin_2 (fun H locs hP hD hS => ?_)
  have hP : va_P (dC, dI) vwCl ([(pg, .inr (2, [.ref su, .int 1, .int fi, .int go, .int be, .long lc])), (su, .inr (4, [.ref sa, .long z, .long al, .long dp, .long wd, .int lim])), (sa, .inl (cJ, 4, .inr (.inl g)))]) H := hP
  have hD : va_D A ([(pg, .inr (2, [.ref su, .int 1, .int fi, .int go, .int be, .long lc])), (su, .inr (4, [.ref sa, .long z, .long al, .long dp, .long wd, .int lim])), (sa, .inl (cJ, 4, .inr (.inl g)))]) := hD
  refine lv_aload_n hx hb dX2_begin_5 rfl (lv_at hl 0 rfl) ?_
  refine lv_iload_n hx hb dX2_begin_6 rfl (lv_at hl 1 rfl) ?_
  refine my_put X hK in_X2_begin_X2 tyX2 tyX2_ok nmX2 hP hD hS 0 rfl rfl 2 (by decide) (List.mem_of_getElem? (i := 2) rfl) rfl rfl rfl (Nat.le_of_ble_eq_true rfl) dX2_begin_7 (fun H locs hP hD hS => ?_)
  have hP : va_P (dC, dI) vwCl ([(pg, .inr (2, [.ref su, .int 1, .int pl, .int go, .int be, .long lc])), (su, .inr (4, [.ref sa, .long z, .long al, .long dp, .long wd, .int lim])), (sa, .inl (cJ, 4, .inr (.inl g)))]) H := hP
  have hD : va_D A ([(pg, .inr (2, [.ref su, .int 1, .int pl, .int go, .int be, .long lc])), (su, .inr (4, [.ref sa, .long z, .long al, .long dp, .long wd, .int lim])), (sa, .inl (cJ, 4, .inr (.inl g)))]) := hD
  refine lv_aload_n hx hb dX2_begin_10 rfl (lv_at hl 0 rfl) ?_
  refine lv_iload_n hx hb dX2_begin_11 rfl (lv_at hl 2 rfl) ?_
  refine my_put X hK in_X2_begin_X2 tyX2 tyX2_ok nmX2 hP hD hS 0 rfl rfl 3 (by decide) (List.mem_of_getElem? (i := 3) rfl) rfl rfl rfl (Nat.le_of_ble_eq_true rfl) dX2_begin_12 (fun H locs hP hD hS => ?_)
  have hP : va_P (dC, dI) vwCl ([(pg, .inr (2, [.ref su, .int 1, .int pl, .int ht, .int be, .long lc])), (su, .inr (4, [.ref sa, .long z, .long al, .long dp, .long wd, .int lim])), (sa, .inl (cJ, 4, .inr (.inl g)))]) H := hP
  have hD : va_D A ([(pg, .inr (2, [.ref su, .int 1, .int pl, .int ht, .int be, .long lc])), (su, .inr (4, [.ref sa, .long z, .long al, .long dp, .long wd, .int lim])), (sa, .inl (cJ, 4, .inr (.inl g)))]) := hD
  refine lv_aload_n hx hb dX2_begin_15 rfl (lv_at hl 0 rfl) ?_
  refine my_get X hK in_X2_begin_X2 hP 0 rfl rfl 0 (by decide) (List.mem_of_getElem? (i := 4) rfl) rfl dX2_begin_16 ?_
  refine lv_iload_n hx hb dX2_begin_19 rfl (lv_at hl 3 rfl) ?_
  have hPc := hP.sub (ws' := [(su, .inr (4, [.ref sa, .long z, .long al, .long dp, .long wd, .int lim])), (sa, .inl (cJ, 4, .inr (.inl g)))]) [1, 2] rfl
  have hDc := hD.sub (ws' := [(su, .inr (4, [.ref sa, .long z, .long al, .long dp, .long wd, .int lim])), (sa, .inl (cJ, 4, .inr (.inl g)))]) [1, 2] (by decide) rfl
  refine my_callv (ws := [(pg, .inr (2, [.ref su, .int 1, .int pl, .int ht, .int be, .long lc])), (su, .inr (4, [.ref sa, .long z, .long al, .long dp, .long wd, .int lim])), (sa, .inl (cJ, 4, .inr (.inl g)))]) (F := []) (wr := [(pg, .inr (2, [.ref su, .int 1, .int pl, .int ht, .int be, .long lc]))]) (my_runV (n := 1) (As := [.int dl]) (rest := []) (C := RX4) X PW.blind (PW.pre hPc hDc hK) (va_recv hK.1 hPc (ci := 4) (q0 := 0) rfl rfl) (c_sclear l dC dI cI cJ cO _ su sa g z al dp wd lim dl ) gX2_begin_X4_clear rfl rfl rfl (by decide +kernel) rfl ⟨Nat.le_of_ble_eq_true rfl, Nat.le_of_ble_eq_true rfl⟩ hl.1 rfl (Nat.le_of_ble_eq_true rfl) dX2_begin_20 ⟨by first | decide | omega | (dsimp only; omega), by first | decide | omega | (dsimp only; omega)⟩) hS hP hD hA [1, 2] [0] rfl rfl (by decide) (by decide) (fun u H locs hw_1 hP hD hS => ?_)
  obtain ⟨g1_2, rfl⟩ : ∃ z, z = u := ⟨_, rfl⟩
  try dsimp only at hw_1
  have hP : va_P (dC, dI) vwCl [(pg, .inr (2, [.ref su, .int 1, .int pl, .int ht, .int be, .long lc])), (su, .inr (4, [.ref sa, .long 0, .long 0, .long 0, .long 0, .int dl])), (sa, .inl (cJ, 4, .inr (.inl g1_2)))] H := hP.sub [0, 1, 2] rfl
  have hD : va_D A [(pg, .inr (2, [.ref su, .int 1, .int pl, .int ht, .int be, .long lc])), (su, .inr (4, [.ref sa, .long 0, .long 0, .long 0, .long 0, .int dl])), (sa, .inl (cJ, 4, .inr (.inl g1_2)))] := hD.sub [0, 1, 2] (by decide) rfl
  exact my_vret (WSf := (fun g1 : Nat → Int64 => [(pg, .inr (2, [.ref su, .int 1, .int pl, .int ht, .int be, .long lc])), (su, .inr (4, [.ref sa, .long 0, .long 0, .long 0, .long 0, .int dl])), (sa, .inl (cJ, 4, .inr (.inl g1)))])) g1_2 X (hw_1) (hP) (hD) hS (by first | decide | omega | (dsimp only; omega)) (by first | decide | omega | (dsimp only; omega)) dX2_begin_23
theorem in_X2_forget_X2 : ∀ w ∈ wsX20, w ∈ wsX2_forget := fun _ h => List.mem_cons_of_mem _ (List.mem_append_right _ h)
set_option maxHeartbeats 200000 in
set_option maxRecDepth 100000 in
theorem c_forget (l : Launch) (dC : Nat → ClassId) (dI : Nat → Nat → Nat) (cI cJ cO : ClassId) (hz : Nat) (pg : Nat) (bg : Int32) (fi : Int32) (go : Int32) (be : Int32) (lc : Int64) (su : Nat)  : Met l yX2_forget wsX2_forget ({ frames := 0, cells := 0, slots := 0, locals := 0 }) (va_Pc [.ref pg] (PW dC dI cI cJ cO [(pg, .inr (2, [.ref su, .int bg, .int fi, .int go, .int be, .long lc]))] hz)) (va_Qv (fun _ : Unit => True) (fun (_ : Unit) t9 => BW dC dI (va_A [(pg, .inr (2, [.ref su, .int bg, .int fi, .int go, .int be, .long lc]))] hz) [(pg, .inr (2, [.ref su, .int 0, .int 0, .int go, .int (-1), .long 0]))] t9) (va_A [(pg, .inr (2, [.ref su, .int bg, .int fi, .int go, .int be, .long lc]))] hz)) 0 0 (va_A [(pg, .inr (2, [.ref su, .int bg, .int fi, .int go, .int be, .long lc]))] hz) := by
  refine my_metW (ws := wsX2_forget) (cc := cX2_forget) (maxL := 1) (ret := none) (Qc := fun A => va_Qv (fun _ : Unit => True) (fun (_ : Unit) t9 => BW dC dI A [(pg, .inr (2, [.ref su, .int 0, .int 0, .int go, .int (-1), .long 0]))] t9) A) (by decide) rfl (Nat.le_of_ble_eq_true rfl) ?_
  intro p e s m below meth c ls A X hl hK hA hP hD hS
  obtain ⟨hx, hb, hr, hml, hown, hts, hlocks, hnm⟩ := id X
  have hl : lv_has ls 1 [(0, .ref pg)] := hl
  refine lv_aload_n hx hb dX2_forget_0 rfl (lv_at hl 0 rfl) ?_
  refine lv_iconst (v := 0) hx hb dX2_forget_1 (by decide) ?_
  refine my_put X hK in_X2_forget_X2 tyX2 tyX2_ok nmX2 hP hD hS 0 rfl rfl 1 (by decide) (List.mem_of_getElem? (i := 1) rfl) rfl rfl rfl (Nat.le_of_ble_eq_true rfl) dX2_forget_2 (fun H locs hP hD hS => ?_)
  have hP : va_P (dC, dI) vwCl ([(pg, .inr (2, [.ref su, .int 0, .int fi, .int go, .int be, .long lc]))]) H := hP
  have hD : va_D A ([(pg, .inr (2, [.ref su, .int 0, .int fi, .int go, .int be, .long lc]))]) := hD
  refine lv_aload_n hx hb dX2_forget_5 rfl (lv_at hl 0 rfl) ?_
  refine lv_iconst (v := 0) hx hb dX2_forget_6 (by decide) ?_
  refine my_put X hK in_X2_forget_X2 tyX2 tyX2_ok nmX2 hP hD hS 0 rfl rfl 2 (by decide) (List.mem_of_getElem? (i := 2) rfl) rfl rfl rfl (Nat.le_of_ble_eq_true rfl) dX2_forget_7 (fun H locs hP hD hS => ?_)
  have hP : va_P (dC, dI) vwCl ([(pg, .inr (2, [.ref su, .int 0, .int 0, .int go, .int be, .long lc]))]) H := hP
  have hD : va_D A ([(pg, .inr (2, [.ref su, .int 0, .int 0, .int go, .int be, .long lc]))]) := hD
  refine lv_aload_n hx hb dX2_forget_10 rfl (lv_at hl 0 rfl) ?_
  refine lv_iconst (v := (-1)) hx hb dX2_forget_11 (by decide) ?_
  refine my_put X hK in_X2_forget_X2 tyX2 tyX2_ok nmX2 hP hD hS 0 rfl rfl 4 (by decide) (List.mem_of_getElem? (i := 3) rfl) rfl rfl rfl (Nat.le_of_ble_eq_true rfl) dX2_forget_12 (fun H locs hP hD hS => ?_)
  have hP : va_P (dC, dI) vwCl ([(pg, .inr (2, [.ref su, .int 0, .int 0, .int go, .int (-1), .long lc]))]) H := hP
  have hD : va_D A ([(pg, .inr (2, [.ref su, .int 0, .int 0, .int go, .int (-1), .long lc]))]) := hD
  refine lv_aload_n hx hb dX2_forget_15 rfl (lv_at hl 0 rfl) ?_
  refine lv_lconst (v := 0) hx hb dX2_forget_16 (by decide) ?_
  refine my_put X hK in_X2_forget_X2 tyX2 tyX2_ok nmX2 hP hD hS 0 rfl rfl 5 (by decide) (List.mem_of_getElem? (i := 4) rfl) rfl rfl rfl (Nat.le_of_ble_eq_true rfl) dX2_forget_17 (fun H locs hP hD hS => ?_)
  have hP : va_P (dC, dI) vwCl ([(pg, .inr (2, [.ref su, .int 0, .int 0, .int go, .int (-1), .long 0]))]) H := hP
  have hD : va_D A ([(pg, .inr (2, [.ref su, .int 0, .int 0, .int go, .int (-1), .long 0]))]) := hD
  exact my_vret (WSf := (fun _ : Unit => [(pg, .inr (2, [.ref su, .int 0, .int 0, .int go, .int (-1), .long 0]))])) () X (trivial) (hP) (hD) hS (by first | decide | omega | (dsimp only; omega)) (by first | decide | omega | (dsimp only; omega)) dX2_forget_20
theorem in_X4_init_X4 : ∀ w ∈ wsX40, w ∈ wsX4_init := fun _ h => List.mem_cons_of_mem _ (List.mem_append_right _ h)
set_option maxHeartbeats 200000 in
set_option maxRecDepth 100000 in
theorem c_Sums_init (l : Launch) (dC : Nat → ClassId) (dI : Nat → Nat → Nat) (cI cJ cO : ClassId) (hz : Nat) (su : Nat)  : Met l yX4_init wsX4_init ({ frames := 1, cells := 1, slots := 4, locals := 12 }) (va_Pc [.ref su] (PW dC dI cI cJ cO [(su, .inr (4, [.null, .long 0, .long 0, .long 0, .long 0, .int 0]))] hz)) (va_Qv (fun q : Nat => True) (fun (q : Nat) t9 => BW dC dI (va_A [(su, .inr (4, [.null, .long 0, .long 0, .long 0, .long 0, .int 0]))] hz) [(su, .inr (4, [.ref q, .long 0, .long 0, .long 0, .long 0, .int 0])), (q, .inl (cJ, 4, .inr (.inl (fun _ => 0))))] t9) (va_A [(su, .inr (4, [.null, .long 0, .long 0, .long 0, .long 0, .int 0]))] hz)) 1 4 (va_A [(su, .inr (4, [.null, .long 0, .long 0, .long 0, .long 0, .int 0]))] hz) := by
  refine my_metW (ws := wsX4_init) (cc := cX4_init) (maxL := 1) (ret := none) (Qc := fun A => va_Qv (fun q : Nat => True) (fun (q : Nat) t9 => BW dC dI A [(su, .inr (4, [.ref q, .long 0, .long 0, .long 0, .long 0, .int 0])), (q, .inl (cJ, 4, .inr (.inl (fun _ => 0))))] t9) A) (by decide) rfl (Nat.le_of_ble_eq_true rfl) ?_
  intro p e s m below meth c ls A X hl hK hA hP hD hS
  obtain ⟨hx, hb, hr, hml, hown, hts, hlocks, hnm⟩ := id X
  have hl : lv_has ls 1 [(0, .ref su)] := hl
  refine lv_aload_n hx hb dX4_init_0 rfl (lv_at hl 0 rfl) ?_
  refine W.objInit hx hb hown (hts _ (List.mem_of_getElem? (i := 1) rfl)) (hts _ (List.mem_of_getElem? (i := 2) rfl)) (hts _ (List.mem_of_getElem? (i := 3) rfl)) rfl (by rw [hml]; exact hl.1) rfl dX4_init_1 (Nat.le_of_ble_eq_true rfl) (Nat.le_of_ble_eq_true rfl) ?_
  refine W.eq (g2 := F0 m 4 ls []) rfl ?_
  refine lv_aload_n hx hb dX4_init_4 rfl (lv_at hl 0 rfl) ?_
  refine lv_iconst (v := 4) hx hb dX4_init_5 (by decide) ?_
  refine my_newl (N := 4) X hK (List.mem_of_getElem? (i := 4) rfl) hP hD hS hA (rfl) (by omega) (by omega) (by first | decide | omega | (dsimp only; omega)) (by first | decide | omega | (dsimp only; omega)) dX4_init_6 (fun q_1 H hP hD hS => ?_)
  have hP : va_P (dC, dI) vwCl ([(su, .inr (4, [.null, .long 0, .long 0, .long 0, .long 0, .int 0])), (q_1, .inl (cJ, 4, .inr (.inl (fun _ => 0))))]) H := hP
  have hD : va_D A ([(su, .inr (4, [.null, .long 0, .long 0, .long 0, .long 0, .int 0])), (q_1, .inl (cJ, 4, .inr (.inl (fun _ => 0))))]) := hD
  refine my_putF X hK in_X4_init_X4 tyX4 tyX4_ok nmX4 hP hD hS 0 rfl rfl 0 (by decide) (List.mem_of_getElem? (i := 5) rfl) rfl rfl rfl rfl (Nat.le_of_ble_eq_true rfl) dX4_init_8 (fun H locs hP hD hS => ?_)
  have hP : va_P (dC, dI) vwCl ([(su, .inr (4, [.ref q_1, .long 0, .long 0, .long 0, .long 0, .int 0])), (q_1, .inl (cJ, 4, .inr (.inl (fun _ => 0))))]) H := hP
  have hD : va_D A ([(su, .inr (4, [.ref q_1, .long 0, .long 0, .long 0, .long 0, .int 0])), (q_1, .inl (cJ, 4, .inr (.inl (fun _ => 0))))]) := hD
  exact my_vret (WSf := (fun q : Nat => [(su, .inr (4, [.ref q, .long 0, .long 0, .long 0, .long 0, .int 0])), (q, .inl (cJ, 4, .inr (.inl (fun _ => 0))))])) q_1 X (trivial) (hP) (hD) hS (by first | decide | omega | (dsimp only; omega)) (by first | decide | omega | (dsimp only; omega)) dX4_init_11
theorem in_X2_init_X2 : ∀ w ∈ wsX20, w ∈ wsX2_init := fun _ h => List.mem_cons_of_mem _ (List.mem_append_right _ h)
theorem in_X2_init_X4 : ∀ w ∈ wsX40, w ∈ wsX2_init := fun _ h => List.mem_cons_of_mem _ (List.mem_append_left _ (List.mem_append_right _ h))
set_option maxHeartbeats 200000 in
set_option maxRecDepth 100000 in
theorem c_Page_init (l : Launch) (dC : Nat → ClassId) (dI : Nat → Nat → Nat) (cI cJ cO : ClassId) (hz : Nat) (pg : Nat)  : Met l yX2_init wsX2_init ({ frames := 2, cells := 2, slots := 10, locals := 32 }) (va_Pc [.ref pg] (PW dC dI cI cJ cO [(pg, .inr (2, [.null, .int 0, .int 0, .int 0, .int 0, .long 0]))] hz)) (va_Qv (fun u : Nat × Nat => True) (fun (u : Nat × Nat) t9 => BW dC dI (va_A [(pg, .inr (2, [.null, .int 0, .int 0, .int 0, .int 0, .long 0]))] hz) [(pg, .inr (2, [.ref u.1, .int 0, .int 0, .int 0, .int (-1), .long 0])), (u.1, .inr (4, [.ref u.2, .long 0, .long 0, .long 0, .long 0, .int 0])), (u.2, .inl (cJ, 4, .inr (.inl (fun _ => 0))))] t9) (va_A [(pg, .inr (2, [.null, .int 0, .int 0, .int 0, .int 0, .long 0]))] hz)) 2 10 (va_A [(pg, .inr (2, [.null, .int 0, .int 0, .int 0, .int 0, .long 0]))] hz) := by
  refine my_metW (ws := wsX2_init) (cc := cX2_init) (maxL := 1) (ret := none) (Qc := fun A => va_Qv (fun u : Nat × Nat => True) (fun (u : Nat × Nat) t9 => BW dC dI A [(pg, .inr (2, [.ref u.1, .int 0, .int 0, .int 0, .int (-1), .long 0])), (u.1, .inr (4, [.ref u.2, .long 0, .long 0, .long 0, .long 0, .int 0])), (u.2, .inl (cJ, 4, .inr (.inl (fun _ => 0))))] t9) A) (by decide) rfl (Nat.le_of_ble_eq_true rfl) ?_
  intro p e s m below meth c ls A X hl hK hA hP hD hS
  obtain ⟨hx, hb, hr, hml, hown, hts, hlocks, hnm⟩ := id X
  have hl : lv_has ls 1 [(0, .ref pg)] := hl
  refine lv_aload_n hx hb dX2_init_0 rfl (lv_at hl 0 rfl) ?_
  refine W.objInit hx hb hown (hts _ (List.mem_of_getElem? (i := 1) rfl)) (hts _ (List.mem_of_getElem? (i := 2) rfl)) (hts _ (List.mem_of_getElem? (i := 3) rfl)) rfl (by rw [hml]; exact hl.1) rfl dX2_init_1 (Nat.le_of_ble_eq_true rfl) (Nat.le_of_ble_eq_true rfl) ?_
  refine W.eq (g2 := F0 m 4 ls []) rfl ?_
  refine lv_aload_n hx hb dX2_init_4 rfl (lv_at hl 0 rfl) ?_
  refine va_new (ci := 4) (fs := [.null, .long 0, .long 0, .long 0, .long 0, .int 0]) (C := RX4) (T := TX4) (N := 6) hx hb hts in_X2_init_X4 tyX4 tyX4_ok hown (hts _ (List.mem_of_getElem? (i := 4) rfl)) (hts _ (List.mem_of_getElem? (i := 5) rfl)) (hts _ (List.mem_of_getElem? (i := 6) rfl)) hK.1 hP hD hS hA rfl (by decide) (by first | decide | omega | (dsimp only; omega)) (by first | decide | omega | (dsimp only; omega)) dX2_init_5 (fun q_1 H hP hD hS => ?_)
  have hP : va_P (dC, dI) vwCl ([(pg, .inr (2, [.null, .int 0, .int 0, .int 0, .int 0, .long 0])), (q_1, .inr (4, [.null, .long 0, .long 0, .long 0, .long 0, .int 0]))]) H := hP
  have hD : va_D A ([(pg, .inr (2, [.null, .int 0, .int 0, .int 0, .int 0, .long 0])), (q_1, .inr (4, [.null, .long 0, .long 0, .long 0, .long 0, .int 0]))]) := hD
  refine lv_dup hx hb dX2_init_8 rfl ?_
  have hPc := hP.sub (ws' := [(q_1, .inr (4, [.null, .long 0, .long 0, .long 0, .long 0, .int 0]))]) [1] rfl
  have hDc := hD.sub (ws' := [(q_1, .inr (4, [.null, .long 0, .long 0, .long 0, .long 0, .int 0]))]) [1] (by decide) rfl
  refine my_callv (ws := [(pg, .inr (2, [.null, .int 0, .int 0, .int 0, .int 0, .long 0])), (q_1, .inr (4, [.null, .long 0, .long 0, .long 0, .long 0, .int 0]))]) (F := []) (wr := [(pg, .inr (2, [.null, .int 0, .int 0, .int 0, .int 0, .long 0]))]) (my_runIN (n := 0) (As := []) (rest := [.ref q_1, .ref pg]) X hK PW.blind (PW.pre hPc hDc hK) (c_Sums_init l dC dI cI cJ cO _ q_1 ) gX2_init_X4_init_n11 rfl rfl rfl 4 rfl (List.mem_of_getElem? (i := 6) rfl) (List.mem_of_getElem? (i := 9) rfl) rfl (by decide +kernel) rfl ⟨Nat.le_of_ble_eq_true rfl, Nat.le_of_ble_eq_true rfl⟩ hl.1 rfl (Nat.le_of_ble_eq_true rfl) dX2_init_9 ⟨by first | decide | omega | (dsimp only; omega), by first | decide | omega | (dsimp only; omega)⟩) hS hP hD hA [1] [0] rfl rfl (by decide) (by decide) (fun u H locs hw_2 hP hD hS => ?_)
  obtain ⟨q_3, rfl⟩ : ∃ z, z = u := ⟨_, rfl⟩
  have hP : va_P (dC, dI) vwCl [(pg, .inr (2, [.null, .int 0, .int 0, .int 0, .int 0, .long 0])), (q_1, .inr (4, [.ref q_3, .long 0, .long 0, .long 0, .long 0, .int 0])), (q_3, .inl (cJ, 4, .inr (.inl (fun _ => 0))))] H := hP.sub [0, 1, 2] rfl
  have hD : va_D A [(pg, .inr (2, [.null, .int 0, .int 0, .int 0, .int 0, .long 0])), (q_1, .inr (4, [.ref q_3, .long 0, .long 0, .long 0, .long 0, .int 0])), (q_3, .inl (cJ, 4, .inr (.inl (fun _ => 0))))] := hD.sub [0, 1, 2] (by decide) rfl
  refine my_putF X hK in_X2_init_X2 tyX2 tyX2_ok nmX2 hP hD hS 0 rfl rfl 0 (by decide) (List.mem_of_getElem? (i := 7) rfl) rfl rfl rfl rfl (Nat.le_of_ble_eq_true rfl) dX2_init_12 (fun H locs hP hD hS => ?_)
  have hP : va_P (dC, dI) vwCl ([(pg, .inr (2, [.ref q_1, .int 0, .int 0, .int 0, .int 0, .long 0])), (q_1, .inr (4, [.ref q_3, .long 0, .long 0, .long 0, .long 0, .int 0])), (q_3, .inl (cJ, 4, .inr (.inl (fun _ => 0))))]) H := hP
  have hD : va_D A ([(pg, .inr (2, [.ref q_1, .int 0, .int 0, .int 0, .int 0, .long 0])), (q_1, .inr (4, [.ref q_3, .long 0, .long 0, .long 0, .long 0, .int 0])), (q_3, .inl (cJ, 4, .inr (.inl (fun _ => 0))))]) := hD
  refine lv_aload_n hx hb dX2_init_15 rfl (lv_at hl 0 rfl) ?_
  refine lv_iconst (v := (-1)) hx hb dX2_init_16 (by decide) ?_
  refine my_put X hK in_X2_init_X2 tyX2 tyX2_ok nmX2 hP hD hS 0 rfl rfl 4 (by decide) (List.mem_of_getElem? (i := 8) rfl) rfl rfl rfl (Nat.le_of_ble_eq_true rfl) dX2_init_17 (fun H locs hP hD hS => ?_)
  have hP : va_P (dC, dI) vwCl ([(pg, .inr (2, [.ref q_1, .int 0, .int 0, .int 0, .int (-1), .long 0])), (q_1, .inr (4, [.ref q_3, .long 0, .long 0, .long 0, .long 0, .int 0])), (q_3, .inl (cJ, 4, .inr (.inl (fun _ => 0))))]) H := hP
  have hD : va_D A ([(pg, .inr (2, [.ref q_1, .int 0, .int 0, .int 0, .int (-1), .long 0])), (q_1, .inr (4, [.ref q_3, .long 0, .long 0, .long 0, .long 0, .int 0])), (q_3, .inl (cJ, 4, .inr (.inl (fun _ => 0))))]) := hD
  exact my_vret (WSf := (fun u : Nat × Nat => [(pg, .inr (2, [.ref u.1, .int 0, .int 0, .int 0, .int (-1), .long 0])), (u.1, .inr (4, [.ref u.2, .long 0, .long 0, .long 0, .long 0, .int 0])), (u.2, .inl (cJ, 4, .inr (.inl (fun _ => 0))))])) (q_1, q_3) X (trivial) (hP) (hD) hS (by first | decide | omega | (dsimp only; omega)) (by first | decide | omega | (dsimp only; omega)) dX2_init_20
