set_option maxHeartbeats 200000 in
set_option maxRecDepth 100000 in
theorem c_isSize (l : Launch) (dC : Nat → ClassId) (dI : Nat → Nat → Nat) (cI cJ cO : ClassId) (v : Int64)  : Met l yX5_isSize wsX5_isSize ({ frames := 0, cells := 0, slots := 0, locals := 0 }) (va_Pc [.long v] (PR dC dI cI cJ cO [])) (vp_Si (fun r : Int32 => r = szL v)) 0 0 (fun _ => False) := by
  refine my_met (ws := wsX5_isSize) (cc := cX5_isSize) (maxL := 2) (ret := (some .boolean)) (by decide) rfl (Nat.le_of_ble_eq_true rfl) ?_
  intro p e s m below meth c ls X hl hv
  obtain ⟨hP, hK⟩ := hv
  obtain ⟨hx, hb, hr, hml, hown, hts, hlocks, hnm⟩ := id X
  have hl : lv_has ls 2 [(0, .long v)] := hl
  refine lv_lload_n hx hb dX5_isSize_0 rfl (lv_at hl 0 rfl) ?_
  refine lv_ldc2 (v := (-1073741823)) hx hb hown (hts _ (List.mem_of_getElem? (i := 1) rfl)) dX5_isSize_1 ?_
  refine my_lif_lt (tgt := 20) hx hb dX5_isSize_4 dX5_isSize_5 (by decide) (fun c_4 => ?_) (fun c_4 => ?_)
  · refine lv_iconst (v := 0) hx hb dX5_isSize_20 (by decide) ?_
    exact my_zretR X rfl (by simp [szL, c_4]) dX5_isSize_21
  · refine lv_lload_n hx hb dX5_isSize_8 rfl (lv_at hl 0 rfl) ?_
    refine lv_ldc2 (v := (1073741823)) hx hb hown (hts _ (List.mem_of_getElem? (i := 2) rfl)) dX5_isSize_9 ?_
    refine my_lif_gt (tgt := 20) hx hb dX5_isSize_12 dX5_isSize_13 (by decide) (fun c_12 => ?_) (fun c_12 => ?_)
    · refine lv_iconst (v := 0) hx hb dX5_isSize_20 (by decide) ?_
      exact my_zretR X rfl (by simp [szL, c_4, c_12]) dX5_isSize_21
    · refine lv_iconst (v := 1) hx hb dX5_isSize_16 (by decide) ?_
      refine lv_goto (tgt := 21) hx hb dX5_isSize_17 (by decide) ?_
      exact my_zretR X rfl (by simp [szL, c_4, c_12]) dX5_isSize_21
set_option maxHeartbeats 200000 in
set_option maxRecDepth 100000 in
theorem c_isSolid (l : Launch) (dC : Nat → ClassId) (dI : Nat → Nat → Nat) (cI cJ cO : ClassId) (k : Int32)  : Met l yX5_isSolid wsX5_isSolid ({ frames := 0, cells := 0, slots := 0, locals := 0 }) (va_Pc [.int k] (PR dC dI cI cJ cO [])) (vp_Si (fun r : Int32 => r = sol k)) 0 0 (fun _ => False) := by
  refine my_met (ws := wsX5_isSolid) (cc := cX5_isSolid) (maxL := 1) (ret := (some .boolean)) (by decide) rfl (Nat.le_of_ble_eq_true rfl) ?_
  intro p e s m below meth c ls X hl hv
  obtain ⟨hP, hK⟩ := hv
  obtain ⟨hx, hb, hr, hml, hown, hts, hlocks, hnm⟩ := id X
  have hl : lv_has ls 1 [(0, .int k)] := hl
  refine lv_iload_n hx hb dX5_isSolid_0 rfl (lv_at hl 0 rfl) ?_
  refine lv_iconst (v := 2) hx hb dX5_isSolid_1 (by decide) ?_
  refine lv_icmp_eq (tgt := 10) hx hb dX5_isSolid_2 (by decide) (fun c_2 => ?_) (fun c_2 => ?_)
  · refine lv_iconst (v := 1) hx hb dX5_isSolid_10 (by decide) ?_
    refine lv_goto (tgt := 15) hx hb dX5_isSolid_11 (by decide) ?_
    exact my_zretR X rfl (by simp [sol, c_2]) dX5_isSolid_15
  · refine lv_iload_n hx hb dX5_isSolid_5 rfl (lv_at hl 0 rfl) ?_
    refine lv_iconst (v := 4) hx hb dX5_isSolid_6 (by decide) ?_
    refine lv_icmp_ne (tgt := 14) hx hb dX5_isSolid_7 (by decide) (fun c_7 => ?_) (fun c_7 => ?_)
    · refine lv_iconst (v := 0) hx hb dX5_isSolid_14 (by decide) ?_
      exact my_zretR X rfl (by simp [sol, c_2, c_7]) dX5_isSolid_15
    · refine lv_iconst (v := 1) hx hb dX5_isSolid_10 (by decide) ?_
      refine lv_goto (tgt := 15) hx hb dX5_isSolid_11 (by decide) ?_
      exact my_zretR X rfl (by simp [sol, c_2, c_7]) dX5_isSolid_15
set_option maxHeartbeats 200000 in
set_option maxRecDepth 100000 in
theorem c_isGlue (l : Launch) (dC : Nat → ClassId) (dI : Nat → Nat → Nat) (cI cJ cO : ClassId) (w : Int32) (st : Int32) (o : Int32) (z : Int32)  : Met l yX5_isGlue wsX5_isGlue ({ frames := 1, cells := 0, slots := 0, locals := 21 }) (va_Pc [.int w, .int st, .int o, .int z] (PR dC dI cI cJ cO [])) (vp_Si (fun r : Int32 => r = glu w st o z)) 0 0 (fun _ => False) := by
  refine my_met (ws := wsX5_isGlue) (cc := cX5_isGlue) (maxL := 4) (ret := (some .boolean)) (by decide) rfl (Nat.le_of_ble_eq_true rfl) ?_
  intro p e s m below meth c ls X hl hv
  obtain ⟨hP, hK⟩ := hv
  obtain ⟨hx, hb, hr, hml, hown, hts, hlocks, hnm⟩ := id X
  have hl : lv_has ls 4 [(0, .int w), (1, .int st), (2, .int o), (3, .int z)] := hl
  refine lv_iload_n hx hb dX5_isGlue_0 rfl (lv_at hl 0 rfl) ?_
  refine lv_i2l (v := w.toInt64) hx hb dX5_isGlue_1 rfl ?_
  have hPc := hP.sub (ws' := []) [] rfl
  refine my_rdi (my_runS (n := 1) (As := [.long w.toInt64]) (rest := []) X PR.blind (PR.pre hPc hK) (c_isSize l dC dI cI cJ cO w.toInt64 ) gX5_isGlue_X5_isSize rfl rfl rfl (by decide +kernel) rfl ⟨Nat.le_of_ble_eq_true rfl, Nat.le_of_ble_eq_true rfl⟩ hl.1 rfl (Nat.le_of_ble_eq_true rfl) dX5_isGlue_2 ⟨by first | decide | omega | (dsimp only; omega), by first | decide | omega | (dsimp only; omega)⟩) (fun r_1 hr_1 => ?_)
  subst hr_1
  refine lv_if_eq (tgt := 45) hx hb dX5_isGlue_5 (by decide) (fun c_5 => ?_) (fun c_5 => ?_)
  · refine lv_iconst (v := 0) hx hb dX5_isGlue_45 (by decide) ?_
    exact my_zretR X rfl (by simp [glu, c_5]) dX5_isGlue_46
  · have c_5 := b01n (szL_01 w.toInt64) c_5
    refine lv_iload_n hx hb dX5_isGlue_8 rfl (lv_at hl 1 rfl) ?_
    refine lv_i2l (v := st.toInt64) hx hb dX5_isGlue_9 rfl ?_
    have hPc := hP.sub (ws' := []) [] rfl
    refine my_rdi (my_runS (n := 1) (As := [.long st.toInt64]) (rest := []) X PR.blind (PR.pre hPc hK) (c_isSize l dC dI cI cJ cO st.toInt64 ) gX5_isGlue_X5_isSize rfl rfl rfl (by decide +kernel) rfl ⟨Nat.le_of_ble_eq_true rfl, Nat.le_of_ble_eq_true rfl⟩ hl.1 rfl (Nat.le_of_ble_eq_true rfl) dX5_isGlue_10 ⟨by first | decide | omega | (dsimp only; omega), by first | decide | omega | (dsimp only; omega)⟩) (fun r_2 hr_2 => ?_)
    subst hr_2
    refine lv_if_eq (tgt := 45) hx hb dX5_isGlue_13 (by decide) (fun c_13 => ?_) (fun c_13 => ?_)
    · refine lv_iconst (v := 0) hx hb dX5_isGlue_45 (by decide) ?_
      exact my_zretR X rfl (by simp [glu, c_5, c_13]) dX5_isGlue_46
    · have c_13 := b01n (szL_01 st.toInt64) c_13
      refine lv_iload_n hx hb dX5_isGlue_16 rfl (lv_at hl 1 rfl) ?_
      refine lv_if_lt (tgt := 45) hx hb dX5_isGlue_17 (by decide) (fun c_17 => ?_) (fun c_17 => ?_)
      · refine lv_iconst (v := 0) hx hb dX5_isGlue_45 (by decide) ?_
        exact my_zretR X rfl (by simp [glu, c_5, c_13, c_17]) dX5_isGlue_46
      · refine lv_iload_n hx hb dX5_isGlue_20 rfl (lv_at hl 2 rfl) ?_
        refine lv_if_lt (tgt := 45) hx hb dX5_isGlue_21 (by decide) (fun c_21 => ?_) (fun c_21 => ?_)
        · refine lv_iconst (v := 0) hx hb dX5_isGlue_45 (by decide) ?_
          exact my_zretR X rfl (by simp [glu, c_5, c_13, c_17, c_21]) dX5_isGlue_46
        · refine lv_iload_n hx hb dX5_isGlue_24 rfl (lv_at hl 2 rfl) ?_
          refine lv_iconst (v := 4) hx hb dX5_isGlue_25 (by decide) ?_
          refine lv_icmp_ge (tgt := 45) hx hb dX5_isGlue_26 (by decide) (fun c_26 => ?_) (fun c_26 => ?_)
          · refine lv_iconst (v := 0) hx hb dX5_isGlue_45 (by decide) ?_
            exact my_zretR X rfl (by simp [glu, c_5, c_13, c_17, c_21, c_26]) dX5_isGlue_46
          · refine lv_iload_n hx hb dX5_isGlue_29 rfl (lv_at hl 3 rfl) ?_
            refine lv_i2l (v := z.toInt64) hx hb dX5_isGlue_30 rfl ?_
            have hPc := hP.sub (ws' := []) [] rfl
            refine my_rdi (my_runS (n := 1) (As := [.long z.toInt64]) (rest := []) X PR.blind (PR.pre hPc hK) (c_isSize l dC dI cI cJ cO z.toInt64 ) gX5_isGlue_X5_isSize rfl rfl rfl (by decide +kernel) rfl ⟨Nat.le_of_ble_eq_true rfl, Nat.le_of_ble_eq_true rfl⟩ hl.1 rfl (Nat.le_of_ble_eq_true rfl) dX5_isGlue_31 ⟨by first | decide | omega | (dsimp only; omega), by first | decide | omega | (dsimp only; omega)⟩) (fun r_3 hr_3 => ?_)
            subst hr_3
            refine lv_if_eq (tgt := 45) hx hb dX5_isGlue_34 (by decide) (fun c_34 => ?_) (fun c_34 => ?_)
            · refine lv_iconst (v := 0) hx hb dX5_isGlue_45 (by decide) ?_
              exact my_zretR X rfl (by simp [glu, c_5, c_13, c_17, c_21, c_26, c_34]) dX5_isGlue_46
            · have c_34 := b01n (szL_01 z.toInt64) c_34
              refine lv_iload_n hx hb dX5_isGlue_37 rfl (lv_at hl 3 rfl) ?_
              refine lv_if_lt (tgt := 45) hx hb dX5_isGlue_38 (by decide) (fun c_38 => ?_) (fun c_38 => ?_)
              · refine lv_iconst (v := 0) hx hb dX5_isGlue_45 (by decide) ?_
                exact my_zretR X rfl (by simp [glu, c_5, c_13, c_17, c_21, c_26, c_34, c_38]) dX5_isGlue_46
              · refine lv_iconst (v := 1) hx hb dX5_isGlue_41 (by decide) ?_
                refine lv_goto (tgt := 46) hx hb dX5_isGlue_42 (by decide) ?_
                exact my_zretR X rfl (by simp [glu, c_5, c_13, c_17, c_21, c_26, c_34, c_38]) dX5_isGlue_46
set_option maxHeartbeats 200000 in
set_option maxRecDepth 100000 in
theorem c_badness (l : Launch) (dC : Nat → ClassId) (dI : Nat → Nat → Nat) (cI cJ cO : ClassId) (t : Int64) (sv : Int64)  : Met l yX5_badness wsX5_badness ({ frames := 0, cells := 0, slots := 0, locals := 0 }) (va_Pc [.long t, .long sv] (PR dC dI cI cJ cO [])) (vp_Sl (fun r : Int64 => r = bdn t sv)) 0 0 (fun _ => False) := by
  refine my_met (ws := wsX5_badness) (cc := cX5_badness) (maxL := 6) (ret := (some .long)) (by decide) rfl (Nat.le_of_ble_eq_true rfl) ?_
  intro p e s m below meth c ls X hl hv
  obtain ⟨hP, hK⟩ := hv
  obtain ⟨hx, hb, hr, hml, hown, hts, hlocks, hnm⟩ := id X
  have hl : lv_has ls 6 [(0, .long t), (2, .long sv)] := hl
  refine lv_lload_n hx hb dX5_badness_0 rfl (lv_at hl 0 rfl) ?_
  refine lv_lconst (v := 0) hx hb dX5_badness_1 (by decide) ?_
  refine my_lif_ne (tgt := 8) hx hb dX5_badness_2 dX5_badness_3 (by decide) (fun c_2 => ?_) (fun c_2 => ?_)
  · refine lv_lload_n hx hb dX5_badness_8 rfl (lv_at hl 1 rfl) ?_
    refine lv_lconst (v := 0) hx hb dX5_badness_9 (by decide) ?_
    refine my_lif_gt (tgt := 18) hx hb dX5_badness_10 dX5_badness_11 (by decide) (fun c_10 => ?_) (fun c_10 => ?_)
    · refine lv_ldc2 (v := (297)) hx hb hown (hts _ (List.mem_of_getElem? (i := 2) rfl)) dX5_badness_18 ?_
      refine lv_lload_n hx hb dX5_badness_21 rfl (lv_at hl 0 rfl) ?_
      refine lv_lmul hx hb dX5_badness_22 ?_
      refine lv_lload_n hx hb dX5_badness_23 rfl (lv_at hl 1 rfl) ?_
      refine lv_ldiv hx hb dX5_badness_24 (lpos_ne c_10) ?_
      refine lv_lstore (lv' := [(4, .long (((297) * t) / sv)), (0, .long t), (2, .long sv)]) hx hb dX5_badness_25 hl (by decide) rfl (fun ls hl => ?_)
      refine lv_lload hx hb dX5_badness_27 (lv_at hl 0 rfl) ?_
      refine lv_ldc2 (v := (1290)) hx hb hown (hts _ (List.mem_of_getElem? (i := 3) rfl)) dX5_badness_29 ?_
      refine my_lif_le (tgt := 42) hx hb dX5_badness_32 dX5_badness_33 (by decide) (fun c_32 => ?_) (fun c_32 => ?_)
      · refine lv_lload hx hb dX5_badness_42 (lv_at hl 0 rfl) ?_
        refine lv_lload hx hb dX5_badness_44 (lv_at hl 0 rfl) ?_
        refine lv_lmul hx hb dX5_badness_46 ?_
        refine lv_lload hx hb dX5_badness_47 (lv_at hl 0 rfl) ?_
        refine lv_lmul hx hb dX5_badness_49 ?_
        refine lv_ldc2 (v := (131072)) hx hb hown (hts _ (List.mem_of_getElem? (i := 4) rfl)) dX5_badness_50 ?_
        refine lv_ladd hx hb dX5_badness_53 ?_
        refine lv_ldc2 (v := (262144)) hx hb hown (hts _ (List.mem_of_getElem? (i := 5) rfl)) dX5_badness_54 ?_
        refine lv_ldiv hx hb dX5_badness_57 (by decide) ?_
        exact my_lretR X (by simp [bdn, bd1, c_2, c_10, c_32]) dX5_badness_58
      · refine lv_ldc2 (v := (10000)) hx hb hown (hts _ (List.mem_of_getElem? (i := 1) rfl)) dX5_badness_36 ?_
        refine lv_goto (tgt := 58) hx hb dX5_badness_39 (by decide) ?_
        exact my_lretR X (by simp [bdn, bd1, c_2, c_10, c_32]) dX5_badness_58
    · refine lv_ldc2 (v := (10000)) hx hb hown (hts _ (List.mem_of_getElem? (i := 1) rfl)) dX5_badness_14 ?_
      exact my_lretR X (by simp [bdn, bd1, c_2, c_10]) dX5_badness_17
  · refine lv_lconst (v := 0) hx hb dX5_badness_6 (by decide) ?_
    exact my_lretR X (by simp [bdn, bd1, c_2]) dX5_badness_7
set_option maxHeartbeats 200000 in
set_option maxRecDepth 100000 in
theorem c_near (l : Launch) (dC : Nat → ClassId) (dI : Nat → Nat → Nat) (cI cJ cO : ClassId) (a : Int64) (b : Int64)  : Met l yX5_near wsX5_near ({ frames := 1, cells := 0, slots := 0, locals := 19 }) (va_Pc [.long a, .long b] (PR dC dI cI cJ cO [])) (vp_Sl (fun r : Int64 => r = nea a b)) 0 0 (fun _ => False) := by
  refine my_met (ws := wsX5_near) (cc := cX5_near) (maxL := 6) (ret := (some .long)) (by decide) rfl (Nat.le_of_ble_eq_true rfl) ?_
  intro p e s m below meth c ls X hl hv
  obtain ⟨hP, hK⟩ := hv
  obtain ⟨hx, hb, hr, hml, hown, hts, hlocks, hnm⟩ := id X
  have hl : lv_has ls 6 [(0, .long a), (2, .long b)] := hl
  refine lv_lload_n hx hb dX5_near_0 rfl (lv_at hl 1 rfl) ?_
  refine lv_lconst (v := 0) hx hb dX5_near_1 (by decide) ?_
  refine my_lif_gt (tgt := 8) hx hb dX5_near_2 dX5_near_3 (by decide) (fun c_2 => ?_) (fun c_2 => ?_)
  · refine lv_ldc2 (v := (2)) hx hb hown (hts _ (List.mem_of_getElem? (i := 1) rfl)) dX5_near_8 ?_
    refine lv_lload_n hx hb dX5_near_11 rfl (lv_at hl 0 rfl) ?_
    refine va_mabs_long hx hb (hml.trans hl.1.symm) hown (hts _ (List.mem_of_getElem? (i := 2) rfl)) (hts _ (List.mem_of_getElem? (i := 3) rfl)) (hts _ (List.mem_of_getElem? (i := 4) rfl)) (hts _ (List.mem_of_getElem? (i := 5) rfl)) (Nat.le_of_ble_eq_true rfl) (Nat.le_of_ble_eq_true rfl) (by first | decide | omega | (dsimp only; omega)) (by first | decide | omega | (dsimp only; omega)) dX5_near_12 ?_
    refine lv_lmul hx hb dX5_near_15 ?_
    refine lv_lload_n hx hb dX5_near_16 rfl (lv_at hl 1 rfl) ?_
    refine lv_ladd hx hb dX5_near_17 ?_
    refine lv_ldc2 (v := (2)) hx hb hown (hts _ (List.mem_of_getElem? (i := 1) rfl)) dX5_near_18 ?_
    refine lv_lload_n hx hb dX5_near_21 rfl (lv_at hl 1 rfl) ?_
    refine lv_lmul hx hb dX5_near_22 ?_
    refine lv_ldiv hx hb dX5_near_23 (l2_ne c_2) ?_
    refine lv_lstore (lv' := [(4, .long ((((2) * (if 0 < a then a else -a)) + b) / ((2) * b))), (0, .long a), (2, .long b)]) hx hb dX5_near_24 hl (by decide) rfl (fun ls hl => ?_)
    refine lv_lload_n hx hb dX5_near_26 rfl (lv_at hl 1 rfl) ?_
    refine lv_lconst (v := 0) hx hb dX5_near_27 (by decide) ?_
    refine my_lif_ge (tgt := 38) hx hb dX5_near_28 dX5_near_29 (by decide) (fun c_28 => ?_) (fun c_28 => ?_)
    · refine lv_lload hx hb dX5_near_38 (lv_at hl 0 rfl) ?_
      exact my_lretR X (by simp [nea, abL, c_2, c_28]) dX5_near_40
    · refine lv_lload hx hb dX5_near_32 (lv_at hl 0 rfl) ?_
      refine lv_lneg hx hb dX5_near_34 ?_
      refine lv_goto (tgt := 40) hx hb dX5_near_35 (by decide) ?_
      exact my_lretR X (by simp [nea, abL, c_2, c_28]) dX5_near_40
  · refine lv_lconst (v := 0) hx hb dX5_near_6 (by decide) ?_
    exact my_lretR X (by simp [nea, abL, c_2]) dX5_near_7
