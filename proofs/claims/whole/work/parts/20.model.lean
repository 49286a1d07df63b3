set_option maxHeartbeats 200000 in
set_option maxRecDepth 100000 in
theorem m_isSize (l : Launch) (dC : Nat → ClassId) (dI : Nat → Nat → Nat) (cI cJ cO : ClassId) (v : Int32)  : Met l yX6_isSize wsX6_isSize ({ frames := 0, cells := 0, slots := 0, locals := 0 }) (va_Pc [.int v] (PR dC dI cI cJ cO [])) (vp_Si (fun r : Int32 => r = msz v)) 0 0 (fun _ => False) := by
  refine my_met (ws := wsX6_isSize) (cc := cX6_isSize) (maxL := 1) (ret := (some .boolean)) (by decide) rfl (Nat.le_of_ble_eq_true rfl) ?_
  intro p e s m below meth c ls X hl hv
  obtain ⟨hP, hK⟩ := hv
  obtain ⟨hx, hb, hr, hml, hown, hts, hlocks, hnm⟩ := id X
  have hl : lv_has ls 1 [(0, .int v)] := hl
  refine lv_iload_n hx hb dX6_isSize_0 rfl (lv_at hl 0 rfl) ?_
  refine lv_ldc (v := (-1073741823)) hx hb hown (hts _ (List.mem_of_getElem? (i := 1) rfl)) dX6_isSize_1 ?_
  refine lv_icmp_lt (tgt := 16) hx hb dX6_isSize_3 (by decide) (fun c_3 => ?_) (fun c_3 => ?_)
  · refine lv_iconst (v := 0) hx hb dX6_isSize_16 (by decide) ?_
    exact my_zretR X rfl (by simp [msz, c_3]) dX6_isSize_17
  · refine lv_iload_n hx hb dX6_isSize_6 rfl (lv_at hl 0 rfl) ?_
    refine lv_ldc (v := (1073741823)) hx hb hown (hts _ (List.mem_of_getElem? (i := 2) rfl)) dX6_isSize_7 ?_
    refine lv_icmp_gt (tgt := 16) hx hb dX6_isSize_9 (by decide) (fun c_9 => ?_) (fun c_9 => ?_)
    · refine lv_iconst (v := 0) hx hb dX6_isSize_16 (by decide) ?_
      exact my_zretR X rfl (by simp [msz, c_3, c_9]) dX6_isSize_17
    · refine lv_iconst (v := 1) hx hb dX6_isSize_12 (by decide) ?_
      refine lv_goto (tgt := 17) hx hb dX6_isSize_13 (by decide) ?_
      exact my_zretR X rfl (by simp [msz, c_3, c_9]) dX6_isSize_17
set_option maxHeartbeats 200000 in
set_option maxRecDepth 100000 in
theorem m_isSizeLong (l : Launch) (dC : Nat → ClassId) (dI : Nat → Nat → Nat) (cI cJ cO : ClassId) (v : Int64)  : Met l yX6_isSizeLong wsX6_isSizeLong ({ frames := 0, cells := 0, slots := 0, locals := 0 }) (va_Pc [.long v] (PR dC dI cI cJ cO [])) (vp_Si (fun r : Int32 => r = szL v)) 0 0 (fun _ => False) := by
  refine my_met (ws := wsX6_isSizeLong) (cc := cX6_isSizeLong) (maxL := 2) (ret := (some .boolean)) (by decide) rfl (Nat.le_of_ble_eq_true rfl) ?_
  intro p e s m below meth c ls X hl hv
  obtain ⟨hP, hK⟩ := hv
  obtain ⟨hx, hb, hr, hml, hown, hts, hlocks, hnm⟩ := id X
  have hl : lv_has ls 2 [(0, .long v)] := hl
  refine lv_lload_n hx hb dX6_isSizeLong_0 rfl (lv_at hl 0 rfl) ?_
  refine lv_ldc2 (v := (-1073741823)) hx hb hown (hts _ (List.mem_of_getElem? (i := 1) rfl)) dX6_isSizeLong_1 ?_
  refine my_lif_lt (tgt := 20) hx hb dX6_isSizeLong_4 dX6_isSizeLong_5 (by decide) (fun c_4 => ?_) (fun c_4 => ?_)
  · refine lv_iconst (v := 0) hx hb dX6_isSizeLong_20 (by decide) ?_
    exact my_zretR X rfl (by simp [szL, c_4]) dX6_isSizeLong_21
  · refine lv_lload_n hx hb dX6_isSizeLong_8 rfl (lv_at hl 0 rfl) ?_
    refine lv_ldc2 (v := (1073741823)) hx hb hown (hts _ (List.mem_of_getElem? (i := 2) rfl)) dX6_isSizeLong_9 ?_
    refine my_lif_gt (tgt := 20) hx hb dX6_isSizeLong_12 dX6_isSizeLong_13 (by decide) (fun c_12 => ?_) (fun c_12 => ?_)
    · refine lv_iconst (v := 0) hx hb dX6_isSizeLong_20 (by decide) ?_
      exact my_zretR X rfl (by simp [szL, c_4, c_12]) dX6_isSizeLong_21
    · refine lv_iconst (v := 1) hx hb dX6_isSizeLong_16 (by decide) ?_
      refine lv_goto (tgt := 21) hx hb dX6_isSizeLong_17 (by decide) ?_
      exact my_zretR X rfl (by simp [szL, c_4, c_12]) dX6_isSizeLong_21
set_option maxHeartbeats 200000 in
set_option maxRecDepth 100000 in
theorem m_isGlue (l : Launch) (dC : Nat → ClassId) (dI : Nat → Nat → Nat) (cI cJ cO : ClassId) (w : Int32) (st : Int32) (o : Int32) (z : Int32)  : Met l yX6_isGlue wsX6_isGlue ({ frames := 1, cells := 0, slots := 0, locals := 20 }) (va_Pc [.int w, .int st, .int o, .int z] (PR dC dI cI cJ cO [])) (vp_Si (fun r : Int32 => r = mgl w st o z)) 0 0 (fun _ => False) := by
  refine my_met (ws := wsX6_isGlue) (cc := cX6_isGlue) (maxL := 4) (ret := (some .boolean)) (by decide) rfl (Nat.le_of_ble_eq_true rfl) ?_
  intro p e s m below meth c ls X hl hv
  obtain ⟨hP, hK⟩ := hv
  obtain ⟨hx, hb, hr, hml, hown, hts, hlocks, hnm⟩ := id X
  have hl : lv_has ls 4 [(0, .int w), (1, .int st), (2, .int o), (3, .int z)] := hl
  refine lv_iload_n hx hb dX6_isGlue_0 rfl (lv_at hl 0 rfl) ?_
  have hPc := hP.sub (ws' := []) [] rfl
  refine my_rdi (my_runS (n := 1) (As := [.int w]) (rest := []) X PR.blind (PR.pre hPc hK) (m_isSize l dC dI cI cJ cO w ) gX6_isGlue_X6_isSize rfl rfl rfl (by decide +kernel) rfl ⟨Nat.le_of_ble_eq_true rfl, Nat.le_of_ble_eq_true rfl⟩ hl.1 rfl (Nat.le_of_ble_eq_true rfl) dX6_isGlue_1 ⟨by first | decide | omega | (dsimp only; omega), by first | decide | omega | (dsimp only; omega)⟩) (fun r_1 hr_1 => ?_)
  subst hr_1
  refine lv_if_eq (tgt := 42) hx hb dX6_isGlue_4 (by decide) (fun c_4 => ?_) (fun c_4 => ?_)
  · refine lv_iconst (v := 0) hx hb dX6_isGlue_42 (by decide) ?_
    exact my_zretR X rfl (by simp [mgl, c_4]) dX6_isGlue_43
  · have c_4 := b01n (msz_01 w) c_4
    refine lv_iload_n hx hb dX6_isGlue_7 rfl (lv_at hl 1 rfl) ?_
    have hPc := hP.sub (ws' := []) [] rfl
    refine my_rdi (my_runS (n := 1) (As := [.int st]) (rest := []) X PR.blind (PR.pre hPc hK) (m_isSize l dC dI cI cJ cO st ) gX6_isGlue_X6_isSize rfl rfl rfl (by decide +kernel) rfl ⟨Nat.le_of_ble_eq_true rfl, Nat.le_of_ble_eq_true rfl⟩ hl.1 rfl (Nat.le_of_ble_eq_true rfl) dX6_isGlue_8 ⟨by first | decide | omega | (dsimp only; omega), by first | decide | omega | (dsimp only; omega)⟩) (fun r_2 hr_2 => ?_)
    subst hr_2
    refine lv_if_eq (tgt := 42) hx hb dX6_isGlue_11 (by decide) (fun c_11 => ?_) (fun c_11 => ?_)
    · refine lv_iconst (v := 0) hx hb dX6_isGlue_42 (by decide) ?_
      exact my_zretR X rfl (by simp [mgl, c_4, c_11]) dX6_isGlue_43
    · have c_11 := b01n (msz_01 st) c_11
      refine lv_iload_n hx hb dX6_isGlue_14 rfl (lv_at hl 3 rfl) ?_
      have hPc := hP.sub (ws' := []) [] rfl
      refine my_rdi (my_runS (n := 1) (As := [.int z]) (rest := []) X PR.blind (PR.pre hPc hK) (m_isSize l dC dI cI cJ cO z ) gX6_isGlue_X6_isSize rfl rfl rfl (by decide +kernel) rfl ⟨Nat.le_of_ble_eq_true rfl, Nat.le_of_ble_eq_true rfl⟩ hl.1 rfl (Nat.le_of_ble_eq_true rfl) dX6_isGlue_15 ⟨by first | decide | omega | (dsimp only; omega), by first | decide | omega | (dsimp only; omega)⟩) (fun r_3 hr_3 => ?_)
      subst hr_3
      refine lv_if_eq (tgt := 42) hx hb dX6_isGlue_18 (by decide) (fun c_18 => ?_) (fun c_18 => ?_)
      · refine lv_iconst (v := 0) hx hb dX6_isGlue_42 (by decide) ?_
        exact my_zretR X rfl (by simp [mgl, c_4, c_11, c_18]) dX6_isGlue_43
      · have c_18 := b01n (msz_01 z) c_18
        refine lv_iload_n hx hb dX6_isGlue_21 rfl (lv_at hl 1 rfl) ?_
        refine lv_if_lt (tgt := 42) hx hb dX6_isGlue_22 (by decide) (fun c_22 => ?_) (fun c_22 => ?_)
        · refine lv_iconst (v := 0) hx hb dX6_isGlue_42 (by decide) ?_
          exact my_zretR X rfl (by simp [mgl, c_4, c_11, c_18, c_22]) dX6_isGlue_43
        · refine lv_iload_n hx hb dX6_isGlue_25 rfl (lv_at hl 3 rfl) ?_
          refine lv_if_lt (tgt := 42) hx hb dX6_isGlue_26 (by decide) (fun c_26 => ?_) (fun c_26 => ?_)
          · refine lv_iconst (v := 0) hx hb dX6_isGlue_42 (by decide) ?_
            exact my_zretR X rfl (by simp [mgl, c_4, c_11, c_18, c_22, c_26]) dX6_isGlue_43
          · refine lv_iload_n hx hb dX6_isGlue_29 rfl (lv_at hl 2 rfl) ?_
            refine lv_if_lt (tgt := 42) hx hb dX6_isGlue_30 (by decide) (fun c_30 => ?_) (fun c_30 => ?_)
            · refine lv_iconst (v := 0) hx hb dX6_isGlue_42 (by decide) ?_
              exact my_zretR X rfl (by simp [mgl, c_4, c_11, c_18, c_22, c_26, c_30]) dX6_isGlue_43
            · refine lv_iload_n hx hb dX6_isGlue_33 rfl (lv_at hl 2 rfl) ?_
              refine lv_iconst (v := 4) hx hb dX6_isGlue_34 (by decide) ?_
              refine lv_icmp_ge (tgt := 42) hx hb dX6_isGlue_35 (by decide) (fun c_35 => ?_) (fun c_35 => ?_)
              · refine lv_iconst (v := 0) hx hb dX6_isGlue_42 (by decide) ?_
                exact my_zretR X rfl (by simp [mgl, c_4, c_11, c_18, c_22, c_26, c_30, c_35]) dX6_isGlue_43
              · refine lv_iconst (v := 1) hx hb dX6_isGlue_38 (by decide) ?_
                refine lv_goto (tgt := 43) hx hb dX6_isGlue_39 (by decide) ?_
                exact my_zretR X rfl (by simp [mgl, c_4, c_11, c_18, c_22, c_26, c_30, c_35]) dX6_isGlue_43
set_option maxHeartbeats 200000 in
set_option maxRecDepth 100000 in
theorem m_badness (l : Launch) (dC : Nat → ClassId) (dI : Nat → Nat → Nat) (cI cJ cO : ClassId) (t : Int64) (sv : Int64)  : Met l yX6_badness wsX6_badness ({ frames := 0, cells := 0, slots := 0, locals := 0 }) (va_Pc [.long t, .long sv] (PR dC dI cI cJ cO [])) (vp_Si (fun r : Int32 => r = mbd t sv)) 0 0 (fun _ => False) := by
  refine my_met (ws := wsX6_badness) (cc := cX6_badness) (maxL := 6) (ret := (some .int)) (by decide) rfl (Nat.le_of_ble_eq_true rfl) ?_
  intro p e s m below meth c ls X hl hv
  obtain ⟨hP, hK⟩ := hv
  obtain ⟨hx, hb, hr, hml, hown, hts, hlocks, hnm⟩ := id X
  have hl : lv_has ls 6 [(0, .long t), (2, .long sv)] := hl
  refine lv_lload_n hx hb dX6_badness_0 rfl (lv_at hl 0 rfl) ?_
  refine lv_lconst (v := 0) hx hb dX6_badness_1 (by decide) ?_
  refine my_lif_eq (tgt := 12) hx hb dX6_badness_2 dX6_badness_3 (by decide) (fun c_2 => ?_) (fun c_2 => ?_)
  · refine lv_lload_n hx hb dX6_badness_12 rfl (lv_at hl 0 rfl) ?_
    refine lv_lconst (v := 0) hx hb dX6_badness_13 (by decide) ?_
    refine my_lif_ne (tgt := 22) hx hb dX6_badness_14 dX6_badness_15 (by decide) (fun c_14 => ?_) (fun c_14 => ?_)
    · refine lv_sipush (v := 10000) hx hb dX6_badness_22 (by decide) ?_
      exact my_iretR X (by first | (simp [mbd, c_2, c_14]; done) | (simp_all only [mbd]; done)) dX6_badness_25
    · refine lv_iconst (v := 0) hx hb dX6_badness_18 (by decide) ?_
      refine lv_goto (tgt := 25) hx hb dX6_badness_19 (by decide) ?_
      exact my_iretR X (by first | (simp [mbd, c_2, c_14]; done) | (simp_all only [mbd]; done)) dX6_badness_25
  · refine lv_lload_n hx hb dX6_badness_6 rfl (lv_at hl 1 rfl) ?_
    refine lv_lconst (v := 0) hx hb dX6_badness_7 (by decide) ?_
    refine my_lif_ne (tgt := 26) hx hb dX6_badness_8 dX6_badness_9 (by decide) (fun c_8 => ?_) (fun c_8 => ?_)
    · refine lv_ldc2 (v := (297)) hx hb hown (hts _ (List.mem_of_getElem? (i := 1) rfl)) dX6_badness_26 ?_
      refine lv_lload_n hx hb dX6_badness_29 rfl (lv_at hl 0 rfl) ?_
      refine lv_lmul hx hb dX6_badness_30 ?_
      refine lv_lload_n hx hb dX6_badness_31 rfl (lv_at hl 1 rfl) ?_
      refine lv_ldiv hx hb dX6_badness_32 (c_8) ?_
      refine lv_lstore (lv' := [(4, .long (((297) * t) / sv)), (0, .long t), (2, .long sv)]) hx hb dX6_badness_33 hl (by decide) rfl (fun ls hl => ?_)
      refine lv_lload hx hb dX6_badness_35 (lv_at hl 0 rfl) ?_
      refine lv_ldc2 (v := (1290)) hx hb hown (hts _ (List.mem_of_getElem? (i := 2) rfl)) dX6_badness_37 ?_
      refine my_lif_le (tgt := 50) hx hb dX6_badness_40 dX6_badness_41 (by decide) (fun c_40 => ?_) (fun c_40 => ?_)
      · refine lv_lload hx hb dX6_badness_50 (lv_at hl 0 rfl) ?_
        refine lv_lload hx hb dX6_badness_52 (lv_at hl 0 rfl) ?_
        refine lv_lmul hx hb dX6_badness_54 ?_
        refine lv_lload hx hb dX6_badness_55 (lv_at hl 0 rfl) ?_
        refine lv_lmul hx hb dX6_badness_57 ?_
        refine lv_ldc2 (v := (131072)) hx hb hown (hts _ (List.mem_of_getElem? (i := 3) rfl)) dX6_badness_58 ?_
        refine lv_ladd hx hb dX6_badness_61 ?_
        refine lv_ldc2 (v := (262144)) hx hb hown (hts _ (List.mem_of_getElem? (i := 4) rfl)) dX6_badness_62 ?_
        refine lv_ldiv hx hb dX6_badness_65 (by decide) ?_
        refine lv_l2i (v := (((((((297) * t) / sv) * (((297) * t) / sv)) * (((297) * t) / sv)) + (131072)) / (262144)).toInt32) hx hb dX6_badness_66 rfl ?_
        exact my_iretR X (by first | (simp [mbd, c_2, c_8, c_40]; done) | (simp_all only [mbd]; done)) dX6_badness_67
      · refine lv_sipush (v := 10000) hx hb dX6_badness_44 (by decide) ?_
        refine lv_goto (tgt := 67) hx hb dX6_badness_47 (by decide) ?_
        exact my_iretR X (by first | (simp [mbd, c_2, c_8, c_40]; done) | (simp_all only [mbd]; done)) dX6_badness_67
    · refine lv_lload_n hx hb dX6_badness_12 rfl (lv_at hl 0 rfl) ?_
      refine lv_lconst (v := 0) hx hb dX6_badness_13 (by decide) ?_
      refine my_lif_ne (tgt := 22) hx hb dX6_badness_14 dX6_badness_15 (by decide) (fun c_14 => ?_) (fun c_14 => ?_)
      · refine lv_sipush (v := 10000) hx hb dX6_badness_22 (by decide) ?_
        exact my_iretR X (by first | (simp [mbd, c_2, c_8, c_14]; done) | (simp_all only [mbd]; done)) dX6_badness_25
      · refine lv_iconst (v := 0) hx hb dX6_badness_18 (by decide) ?_
        refine lv_goto (tgt := 25) hx hb dX6_badness_19 (by decide) ?_
        exact my_iretR X (by first | (simp [mbd, c_2, c_8, c_14]; done) | (simp_all only [mbd]; done)) dX6_badness_25
set_option maxHeartbeats 200000 in
set_option maxRecDepth 100000 in
theorem m_near (l : Launch) (dC : Nat → ClassId) (dI : Nat → Nat → Nat) (cI cJ cO : ClassId) (a : Int64) (b : Int64) (hb0 : 0 < b) : Met l yX6_near wsX6_near ({ frames := 0, cells := 0, slots := 0, locals := 0 }) (va_Pc [.long a, .long b] (PR dC dI cI cJ cO [])) (vp_Sl (fun r : Int64 => r = mne a b)) 0 0 (fun _ => False) := by
  refine my_met (ws := wsX6_near) (cc := cX6_near) (maxL := 6) (ret := (some .long)) (by decide) rfl (Nat.le_of_ble_eq_true rfl) ?_
  intro p e s m below meth c ls X hl hv
  obtain ⟨hP, hK⟩ := hv
  obtain ⟨hx, hb, hr, hml, hown, hts, hlocks, hnm⟩ := id X
  have hl : lv_has ls 6 [(0, .long a), (2, .long b)] := hl
  refine lv_lload_n hx hb dX6_near_0 rfl (lv_at hl 0 rfl) ?_
  refine lv_lconst (v := 0) hx hb dX6_near_1 (by decide) ?_
  refine my_lif_ge (tgt := 11) hx hb dX6_near_2 dX6_near_3 (by decide) (fun c_2 => ?_) (fun c_2 => ?_)
  · refine lv_lload_n hx hb dX6_near_11 rfl (lv_at hl 0 rfl) ?_
    refine lv_lstore (lv' := [(4, .long a), (0, .long a), (2, .long b)]) hx hb dX6_near_12 hl (by decide) rfl (fun ls hl => ?_)
    refine lv_ldc2 (v := (2)) hx hb hown (hts _ (List.mem_of_getElem? (i := 1) rfl)) dX6_near_14 ?_
    refine lv_lload hx hb dX6_near_17 (lv_at hl 0 rfl) ?_
    refine lv_lmul hx hb dX6_near_19 ?_
    refine lv_lload_n hx hb dX6_near_20 rfl (lv_at hl 2 rfl) ?_
    refine lv_ladd hx hb dX6_near_21 ?_
    refine lv_ldc2 (v := (2)) hx hb hown (hts _ (List.mem_of_getElem? (i := 1) rfl)) dX6_near_22 ?_
    refine lv_lload_n hx hb dX6_near_25 rfl (lv_at hl 2 rfl) ?_
    refine lv_lmul hx hb dX6_near_26 ?_
    refine lv_ldiv hx hb dX6_near_27 (l2_ne hb0) ?_
    refine lv_lstore (lv' := [(4, .long ((((2) * a) + b) / ((2) * b))), (0, .long a), (2, .long b)]) hx hb dX6_near_28 hl (by decide) rfl (fun ls hl => ?_)
    refine lv_lload_n hx hb dX6_near_30 rfl (lv_at hl 1 rfl) ?_
    refine lv_lconst (v := 0) hx hb dX6_near_31 (by decide) ?_
    refine my_lif_ge (tgt := 42) hx hb dX6_near_32 dX6_near_33 (by decide) (fun c_32 => ?_) (fun c_32 => ?_)
    · refine lv_lload hx hb dX6_near_42 (lv_at hl 0 rfl) ?_
      exact my_lretR X (by first | (simp [mne, c_2, c_32]; done) | exact absurd c_32 c_2 | exact absurd c_2 c_32) dX6_near_44
    · refine lv_lload hx hb dX6_near_36 (lv_at hl 0 rfl) ?_
      refine lv_lneg hx hb dX6_near_38 ?_
      refine lv_goto (tgt := 44) hx hb dX6_near_39 (by decide) ?_
      exact my_lretR X (by first | (simp [mne, c_2, c_32]; done) | exact absurd c_32 c_2 | exact absurd c_2 c_32) dX6_near_44
  · refine lv_lload_n hx hb dX6_near_6 rfl (lv_at hl 0 rfl) ?_
    refine lv_lneg hx hb dX6_near_7 ?_
    refine lv_goto (tgt := 12) hx hb dX6_near_8 (by decide) ?_
    refine lv_lstore (lv' := [(4, .long (-a)), (0, .long a), (2, .long b)]) hx hb dX6_near_12 hl (by decide) rfl (fun ls hl => ?_)
    refine lv_ldc2 (v := (2)) hx hb hown (hts _ (List.mem_of_getElem? (i := 1) rfl)) dX6_near_14 ?_
    refine lv_lload hx hb dX6_near_17 (lv_at hl 0 rfl) ?_
    refine lv_lmul hx hb dX6_near_19 ?_
    refine lv_lload_n hx hb dX6_near_20 rfl (lv_at hl 2 rfl) ?_
    refine lv_ladd hx hb dX6_near_21 ?_
    refine lv_ldc2 (v := (2)) hx hb hown (hts _ (List.mem_of_getElem? (i := 1) rfl)) dX6_near_22 ?_
    refine lv_lload_n hx hb dX6_near_25 rfl (lv_at hl 2 rfl) ?_
    refine lv_lmul hx hb dX6_near_26 ?_
    refine lv_ldiv hx hb dX6_near_27 (l2_ne hb0) ?_
    refine lv_lstore (lv' := [(4, .long ((((2) * (-a)) + b) / ((2) * b))), (0, .long a), (2, .long b)]) hx hb dX6_near_28 hl (by decide) rfl (fun ls hl => ?_)
    refine lv_lload_n hx hb dX6_near_30 rfl (lv_at hl 1 rfl) ?_
    refine lv_lconst (v := 0) hx hb dX6_near_31 (by decide) ?_
    refine my_lif_ge (tgt := 42) hx hb dX6_near_32 dX6_near_33 (by decide) (fun c_32 => ?_) (fun c_32 => ?_)
    · refine lv_lload hx hb dX6_near_42 (lv_at hl 0 rfl) ?_
      exact my_lretR X (by first | (simp [mne, c_2, c_32]; done) | exact absurd c_32 c_2 | exact absurd c_2 c_32) dX6_near_44
    · refine lv_lload hx hb dX6_near_36 (lv_at hl 0 rfl) ?_
      refine lv_lneg hx hb dX6_near_38 ?_
      refine lv_goto (tgt := 44) hx hb dX6_near_39 (by decide) ?_
      exact my_lretR X (by first | (simp [mne, c_2, c_32]; done) | exact absurd c_32 c_2 | exact absurd c_2 c_32) dX6_near_44
theorem in_X6_thrown_X6 : ∀ w ∈ wsX60, w ∈ wsX6_thrown := fun _ h => List.mem_cons_of_mem _ (List.mem_append_right _ h)
set_option maxHeartbeats 200000 in
set_option maxRecDepth 100000 in
theorem m_thrown (l : Launch) (dC : Nat → ClassId) (dI : Nat → Nat → Nat) (cI cJ cO : ClassId) (md : Nat) (thr : Int32) (com : Nat) (the : Nat) (kep : Nat) (mad : Int32) (hei : Int32) (lmt : Int32) (twi : Int32) (tst : Int32) (tor : Int32) (tsh : Int32) (goa : Int32) (mos : Int32) (bes : Int32) (cos : Int32) (tot : Int64) (dep : Int64) (wid : Int64) (shs : Int64) (aK : Nat) (aW : Nat) (aH : Nat) (aD : Nat) (aS : Nat) (aO : Nat) (aZ : Nat) (aM : Nat) (aI : Nat) (aHt : Nat) (aDp : Nat) (aWd : Nat) (aSt : Nat)  : Met l yX6_thrown wsX6_thrown ({ frames := 0, cells := 0, slots := 0, locals := 0 }) (va_Pc [.ref md] (PR dC dI cI cJ cO [(md, .inr (6, [.int thr, .ref aK, .ref aW, .ref aH, .ref aD, .ref aS, .ref aO, .ref aZ, .ref aM, .int (nI com), .int (nI the), .int (nI kep), .ref aI, .ref aHt, .ref aDp, .ref aWd, .int mad, .int hei, .int lmt, .int twi, .int tst, .int tor, .int tsh, .int goa, .int mos, .int bes, .int cos, .long tot, .long dep, .long wid, .long shs, .ref aSt]))])) (vp_Si (fun r : Int32 => r = thr)) 0 0 (fun _ => False) := by
  refine my_met (ws := wsX6_thrown) (cc := cX6_thrown) (maxL := 1) (ret := (some .int)) (by decide) rfl (Nat.le_of_ble_eq_true rfl) ?_
  intro p e s m below meth c ls X hl hv
  obtain ⟨hP, hK⟩ := hv
  obtain ⟨hx, hb, hr, hml, hown, hts, hlocks, hnm⟩ := id X
  have hl : lv_has ls 1 [(0, .ref md)] := hl
  refine lv_aload_n hx hb dX6_thrown_0 rfl (lv_at hl 0 rfl) ?_
  refine my_get X hK in_X6_thrown_X6 hP 0 rfl rfl 0 (by decide) (List.mem_of_getElem? (i := 1) rfl) rfl dX6_thrown_1 ?_
  exact my_iretR X (rfl) dX6_thrown_4
theorem in_X6_fails_X6 : ∀ w ∈ wsX60, w ∈ wsX6_fails := fun _ h => List.mem_cons_of_mem _ (List.mem_append_right _ h)
set_option maxHeartbeats 200000 in
set_option maxRecDepth 100000 in
theorem m_fails (l : Launch) (dC : Nat → ClassId) (dI : Nat → Nat → Nat) (cI cJ cO : ClassId) (hz : Nat) (md : Nat) (thr : Int32) (com : Nat) (the : Nat) (kep : Nat) (mad : Int32) (hei : Int32) (lmt : Int32) (twi : Int32) (tst : Int32) (tor : Int32) (tsh : Int32) (goa : Int32) (mos : Int32) (bes : Int32) (cos : Int32) (tot : Int64) (dep : Int64) (wid : Int64) (shs : Int64) (aK : Nat) (aW : Nat) (aH : Nat) (aD : Nat) (aS : Nat) (aO : Nat) (aZ : Nat) (aM : Nat) (aI : Nat) (aHt : Nat) (aDp : Nat) (aWd : Nat) (aSt : Nat)  : Met l yX6_fails wsX6_fails ({ frames := 0, cells := 0, slots := 0, locals := 0 }) (va_Pc [.ref md] (PW dC dI cI cJ cO [(md, .inr (6, [.int thr, .ref aK, .ref aW, .ref aH, .ref aD, .ref aS, .ref aO, .ref aZ, .ref aM, .int (nI com), .int (nI the), .int (nI kep), .ref aI, .ref aHt, .ref aDp, .ref aWd, .int mad, .int hei, .int lmt, .int twi, .int tst, .int tor, .int tsh, .int goa, .int mos, .int bes, .int cos, .long tot, .long dep, .long wid, .long shs, .ref aSt]))] hz)) (va_Qi (fun r : Int32 => fun _ : Unit => r = 0) (fun (_ : Unit) t9 => BW dC dI (va_A [(md, .inr (6, [.int thr, .ref aK, .ref aW, .ref aH, .ref aD, .ref aS, .ref aO, .ref aZ, .ref aM, .int (nI com), .int (nI the), .int (nI kep), .ref aI, .ref aHt, .ref aDp, .ref aWd, .int mad, .int hei, .int lmt, .int twi, .int tst, .int tor, .int tsh, .int goa, .int mos, .int bes, .int cos, .long tot, .long dep, .long wid, .long shs, .ref aSt]))] hz) [(md, .inr (6, [.int 1, .ref aK, .ref aW, .ref aH, .ref aD, .ref aS, .ref aO, .ref aZ, .ref aM, .int (nI com), .int (nI the), .int (nI kep), .ref aI, .ref aHt, .ref aDp, .ref aWd, .int mad, .int hei, .int lmt, .int twi, .int tst, .int tor, .int tsh, .int goa, .int mos, .int bes, .int cos, .long tot, .long dep, .long wid, .long shs, .ref aSt]))] t9) (va_A [(md, .inr (6, [.int thr, .ref aK, .ref aW, .ref aH, .ref aD, .ref aS, .ref aO, .ref aZ, .ref aM, .int (nI com), .int (nI the), .int (nI kep), .ref aI, .ref aHt, .ref aDp, .ref aWd, .int mad, .int hei, .int lmt, .int twi, .int tst, .int tor, .int tsh, .int goa, .int mos, .int bes, .int cos, .long tot, .long dep, .long wid, .long shs, .ref aSt]))] hz)) 0 0 (va_A [(md, .inr (6, [.int thr, .ref aK, .ref aW, .ref aH, .ref aD, .ref aS, .ref aO, .ref aZ, .ref aM, .int (nI com), .int (nI the), .int (nI kep), .ref aI, .ref aHt, .ref aDp, .ref aWd, .int mad, .int hei, .int lmt, .int twi, .int tst, .int tor, .int tsh, .int goa, .int mos, .int bes, .int cos, .long tot, .long dep, .long wid, .long shs, .ref aSt]))] hz) := by
  refine my_metW (ws := wsX6_fails) (cc := cX6_fails) (maxL := 1) (ret := (some .int)) (Qc := fun A => va_Qi (fun r : Int32 => fun _ : Unit => r = 0) (fun (_ : Unit) t9 => BW dC dI A [(md, .inr (6, [.int 1, .ref aK, .ref aW, .ref aH, .ref aD, .ref aS, .ref aO, .ref aZ, .ref aM, .int (nI com), .int (nI the), .int (nI kep), .ref aI, .ref aHt, .ref aDp, .ref aWd, .int mad, .int hei, .int lmt, .int twi, .int tst, .int tor, .int tsh, .int goa, .int mos, .int bes, .int cos, .long tot, .long dep, .long wid, .long shs, .ref aSt]))] t9) A) (by decide) rfl (Nat.le_of_ble_eq_true rfl) ?_
  intro p e s m below meth c ls A X hl hK hA hP hD hS
  obtain ⟨hx, hb, hr, hml, hown, hts, hlocks, hnm⟩ := id X
  have hl : lv_has ls 1 [(0, .ref md)] := hl
  refine lv_aload_n hx hb dX6_fails_0 rfl (lv_at hl 0 rfl) ?_
  refine lv_iconst (v := 1) hx hb dX6_fails_1 (by decide) ?_
  refine my_put X hK in_X6_fails_X6 tyX6 tyX6_ok nmX6 hP hD hS 0 rfl rfl 0 (by decide) (List.mem_of_getElem? (i := 1) rfl) rfl rfl rfl (Nat.le_of_ble_eq_true rfl) dX6_fails_2 (fun H locs hP hD hS => ?_)
  have hP : va_P (dC, dI) vwCl ([(md, .inr (6, [.int 1, .ref aK, .ref aW, .ref aH, .ref aD, .ref aS, .ref aO, .ref aZ, .ref aM, .int (nI com), .int (nI the), .int (nI kep), .ref aI, .ref aHt, .ref aDp, .ref aWd, .int mad, .int hei, .int lmt, .int twi, .int tst, .int tor, .int tsh, .int goa, .int mos, .int bes, .int cos, .long tot, .long dep, .long wid, .long shs, .ref aSt]))]) H := hP
  have hD : va_D A ([(md, .inr (6, [.int 1, .ref aK, .ref aW, .ref aH, .ref aD, .ref aS, .ref aO, .ref aZ, .ref aM, .int (nI com), .int (nI the), .int (nI kep), .ref aI, .ref aHt, .ref aDp, .ref aWd, .int mad, .int hei, .int lmt, .int twi, .int tst, .int tor, .int tsh, .int goa, .int mos, .int bes, .int cos, .long tot, .long dep, .long wid, .long shs, .ref aSt]))]) := hD
  refine lv_iconst (v := 0) hx hb dX6_fails_5 (by decide) ?_
  exact my_iret (WSf := (fun _ : Unit => [(md, .inr (6, [.int 1, .ref aK, .ref aW, .ref aH, .ref aD, .ref aS, .ref aO, .ref aZ, .ref aM, .int (nI com), .int (nI the), .int (nI kep), .ref aI, .ref aHt, .ref aDp, .ref aWd, .int mad, .int hei, .int lmt, .int twi, .int tst, .int tor, .int tsh, .int goa, .int mos, .int bes, .int cos, .long tot, .long dep, .long wid, .long shs, .ref aSt]))])) () X (rfl) (hP) (hD) hS (by first | decide | omega | (dsimp only; omega)) (by first | decide | omega | (dsimp only; omega)) dX6_fails_6
theorem in_X6_page_X6 : ∀ w ∈ wsX60, w ∈ wsX6_page := fun _ h => List.mem_cons_of_mem _ (List.mem_append_right _ h)
set_option maxHeartbeats 200000 in
set_option maxRecDepth 100000 in
theorem m_page (l : Launch) (dC : Nat → ClassId) (dI : Nat → Nat → Nat) (cI cJ cO : ClassId) (hz : Nat) (md : Nat) (thr : Int32) (com : Nat) (the : Nat) (kep : Nat) (mad : Int32) (hei : Int32) (lmt : Int32) (twi : Int32) (tst : Int32) (tor : Int32) (tsh : Int32) (goa : Int32) (mos : Int32) (bes : Int32) (cos : Int32) (tot : Int64) (dep : Int64) (wid : Int64) (shs : Int64) (aK : Nat) (aW : Nat) (aH : Nat) (aD : Nat) (aS : Nat) (aO : Nat) (aZ : Nat) (aM : Nat) (aI : Nat) (aHt : Nat) (aDp : Nat) (aWd : Nat) (aSt : Nat) (h : Int32) (d : Int32)  : Met l yX6_page wsX6_page ({ frames := 1, cells := 0, slots := 0, locals := 20 }) (va_Pc [.ref md, .int h, .int d] (PW dC dI cI cJ cO [(md, .inr (6, [.int thr, .ref aK, .ref aW, .ref aH, .ref aD, .ref aS, .ref aO, .ref aZ, .ref aM, .int (nI com), .int (nI the), .int (nI kep), .ref aI, .ref aHt, .ref aDp, .ref aWd, .int mad, .int hei, .int lmt, .int twi, .int tst, .int tor, .int tsh, .int goa, .int mos, .int bes, .int cos, .long tot, .long dep, .long wid, .long shs, .ref aSt]))] hz)) (va_Qi (fun r : Int32 => fun u : Int32 × Int32 => u.1 = (if mpg h d = 1 then h else hei) ∧ u.2 = (if mpg h d = 1 then d else lmt) ∧ r = mpg h d) (fun (u : Int32 × Int32) t9 => BW dC dI (va_A [(md, .inr (6, [.int thr, .ref aK, .ref aW, .ref aH, .ref aD, .ref aS, .ref aO, .ref aZ, .ref aM, .int (nI com), .int (nI the), .int (nI kep), .ref aI, .ref aHt, .ref aDp, .ref aWd, .int mad, .int hei, .int lmt, .int twi, .int tst, .int tor, .int tsh, .int goa, .int mos, .int bes, .int cos, .long tot, .long dep, .long wid, .long shs, .ref aSt]))] hz) [(md, .inr (6, [.int 0, .ref aK, .ref aW, .ref aH, .ref aD, .ref aS, .ref aO, .ref aZ, .ref aM, .int (nI com), .int (nI the), .int (nI kep), .ref aI, .ref aHt, .ref aDp, .ref aWd, .int mad, .int u.1, .int u.2, .int twi, .int tst, .int tor, .int tsh, .int goa, .int mos, .int bes, .int cos, .long tot, .long dep, .long wid, .long shs, .ref aSt]))] t9) (va_A [(md, .inr (6, [.int thr, .ref aK, .ref aW, .ref aH, .ref aD, .ref aS, .ref aO, .ref aZ, .ref aM, .int (nI com), .int (nI the), .int (nI kep), .ref aI, .ref aHt, .ref aDp, .ref aWd, .int mad, .int hei, .int lmt, .int twi, .int tst, .int tor, .int tsh, .int goa, .int mos, .int bes, .int cos, .long tot, .long dep, .long wid, .long shs, .ref aSt]))] hz)) 0 0 (va_A [(md, .inr (6, [.int thr, .ref aK, .ref aW, .ref aH, .ref aD, .ref aS, .ref aO, .ref aZ, .ref aM, .int (nI com), .int (nI the), .int (nI kep), .ref aI, .ref aHt, .ref aDp, .ref aWd, .int mad, .int hei, .int lmt, .int twi, .int tst, .int tor, .int tsh, .int goa, .int mos, .int bes, .int cos, .long tot, .long dep, .long wid, .long shs, .ref aSt]))] hz) := by
  refine my_metW (ws := wsX6_page) (cc := cX6_page) (maxL := 3) (ret := (some .boolean)) (Qc := fun A => va_Qi (fun r : Int32 => fun u : Int32 × Int32 => u.1 = (if mpg h d = 1 then h else hei) ∧ u.2 = (if mpg h d = 1 then d else lmt) ∧ r = mpg h d) (fun (u : Int32 × Int32) t9 => BW dC dI A [(md, .inr (6, [.int 0, .ref aK, .ref aW, .ref aH, .ref aD, .ref aS, .ref aO, .ref aZ, .ref aM, .int (nI com), .int (nI the), .int (nI kep), .ref aI, .ref aHt, .ref aDp, .ref aWd, .int mad, .int u.1, .int u.2, .int twi, .int tst, .int tor, .int tsh, .int goa, .int mos, .int bes, .int cos, .long tot, .long dep, .long wid, .long shs, .ref aSt]))] t9) A) (by decide) rfl (Nat.le_of_ble_eq_true rfl) ?_
  intro p e s m below meth c ls A X hl hK hA hP hD hS
  obtain ⟨hx, hb, hr, hml, hown, hts, hlocks, hnm⟩ := id X
  have hl : lv_has ls 3 [(0, .ref md), (1, .int h), (2, .int d)] := hl
  refine lv_aload_n hx hb dX6_page_0 rfl (lv_at hl 0 rfl) ?_
  refine lv_iconst (v := 0) hx hb dX6_page_1 (by decide) ?_
  refine my_put X hK in_X6_page_X6 tyX6 tyX6_ok nmX6 hP hD hS 0 rfl rfl 0 (by decide) (List.mem_of_getElem? (i := 1) rfl) rfl rfl rfl (Nat.le_of_ble_eq_true rfl) dX6_page_2 (fun H locs hP hD hS => ?_)
  have hP : va_P (dC, dI) vwCl ([(md, .inr (6, [.int 0, .ref aK, .ref aW, .ref aH, .ref aD, .ref aS, .ref aO, .ref aZ, .ref aM, .int (nI com), .int (nI the), .int (nI kep), .ref aI, .ref aHt, .ref aDp, .ref aWd, .int mad, .int hei, .int lmt, .int twi, .int tst, .int tor, .int tsh, .int goa, .int mos, .int bes, .int cos, .long tot, .long dep, .long wid, .long shs, .ref aSt]))]) H := hP
  have hD : va_D A ([(md, .inr (6, [.int 0, .ref aK, .ref aW, .ref aH, .ref aD, .ref aS, .ref aO, .ref aZ, .ref aM, .int (nI com), .int (nI the), .int (nI kep), .ref aI, .ref aHt, .ref aDp, .ref aWd, .int mad, .int hei, .int lmt, .int twi, .int tst, .int tor, .int tsh, .int goa, .int mos, .int bes, .int cos, .long tot, .long dep, .long wid, .long shs, .ref aSt]))]) := hD
  refine lv_iload_n hx hb dX6_page_5 rfl (lv_at hl 1 rfl) ?_
  have hPc := hP.sub (ws' := []) [] rfl
  refine my_rdi (my_runS (n := 1) (As := [.int h]) (rest := []) X PR.blind (PR.pre hPc hK) (m_isSize l dC dI cI cJ cO h ) gX6_page_X6_isSize rfl rfl rfl (by decide +kernel) rfl ⟨Nat.le_of_ble_eq_true rfl, Nat.le_of_ble_eq_true rfl⟩ hl.1 rfl (Nat.le_of_ble_eq_true rfl) dX6_page_6 ⟨by first | decide | omega | (dsimp only; omega), by first | decide | omega | (dsimp only; omega)⟩) (fun r_1 hr_1 => ?_)
  subst hr_1
  refine lv_if_eq (tgt := 23) hx hb dX6_page_9 (by decide) (fun c_9 => ?_) (fun c_9 => ?_)
  · refine lv_iconst (v := 0) hx hb dX6_page_23 (by decide) ?_
    exact my_zret (WSf := (fun u : Int32 × Int32 => [(md, .inr (6, [.int 0, .ref aK, .ref aW, .ref aH, .ref aD, .ref aS, .ref aO, .ref aZ, .ref aM, .int (nI com), .int (nI the), .int (nI kep), .ref aI, .ref aHt, .ref aDp, .ref aWd, .int mad, .int u.1, .int u.2, .int twi, .int tst, .int tor, .int tsh, .int goa, .int mos, .int bes, .int cos, .long tot, .long dep, .long wid, .long shs, .ref aSt]))])) (hei, lmt) X rfl (by simp [mpg, c_9]) (hP) (hD) hS (by first | decide | omega | (dsimp only; omega)) (by first | decide | omega | (dsimp only; omega)) dX6_page_24
  · have c_9 := b01n (msz_01 h) c_9
    refine lv_iload_n hx hb dX6_page_12 rfl (lv_at hl 2 rfl) ?_
    have hPc := hP.sub (ws' := []) [] rfl
    refine my_rdi (my_runS (n := 1) (As := [.int d]) (rest := []) X PR.blind (PR.pre hPc hK) (m_isSize l dC dI cI cJ cO d ) gX6_page_X6_isSize rfl rfl rfl (by decide +kernel) rfl ⟨Nat.le_of_ble_eq_true rfl, Nat.le_of_ble_eq_true rfl⟩ hl.1 rfl (Nat.le_of_ble_eq_true rfl) dX6_page_13 ⟨by first | decide | omega | (dsimp only; omega), by first | decide | omega | (dsimp only; omega)⟩) (fun r_2 hr_2 => ?_)
    subst hr_2
    refine lv_if_eq (tgt := 23) hx hb dX6_page_16 (by decide) (fun c_16 => ?_) (fun c_16 => ?_)
    · refine lv_iconst (v := 0) hx hb dX6_page_23 (by decide) ?_
      exact my_zret (WSf := (fun u : Int32 × Int32 => [(md, .inr (6, [.int 0, .ref aK, .ref aW, .ref aH, .ref aD, .ref aS, .ref aO, .ref aZ, .ref aM, .int (nI com), .int (nI the), .int (nI kep), .ref aI, .ref aHt, .ref aDp, .ref aWd, .int mad, .int u.1, .int u.2, .int twi, .int tst, .int tor, .int tsh, .int goa, .int mos, .int bes, .int cos, .long tot, .long dep, .long wid, .long shs, .ref aSt]))])) (hei, lmt) X rfl (by simp [mpg, c_9, c_16]) (hP) (hD) hS (by first | decide | omega | (dsimp only; omega)) (by first | decide | omega | (dsimp only; omega)) dX6_page_24
    · have c_16 := b01n (msz_01 d) c_16
      refine lv_iload_n hx hb dX6_page_19 rfl (lv_at hl 2 rfl) ?_
      refine lv_if_ge (tgt := 25) hx hb dX6_page_20 (by decide) (fun c_20 => ?_) (fun c_20 => ?_)
      · refine lv_aload_n hx hb dX6_page_25 rfl (lv_at hl 0 rfl) ?_
        refine lv_iload_n hx hb dX6_page_26 rfl (lv_at hl 1 rfl) ?_
        refine my_put X hK in_X6_page_X6 tyX6 tyX6_ok nmX6 hP hD hS 0 rfl rfl 17 (by decide) (List.mem_of_getElem? (i := 2) rfl) rfl rfl rfl (Nat.le_of_ble_eq_true rfl) dX6_page_27 (fun H locs hP hD hS => ?_)
        have hP : va_P (dC, dI) vwCl ([(md, .inr (6, [.int 0, .ref aK, .ref aW, .ref aH, .ref aD, .ref aS, .ref aO, .ref aZ, .ref aM, .int (nI com), .int (nI the), .int (nI kep), .ref aI, .ref aHt, .ref aDp, .ref aWd, .int mad, .int h, .int lmt, .int twi, .int tst, .int tor, .int tsh, .int goa, .int mos, .int bes, .int cos, .long tot, .long dep, .long wid, .long shs, .ref aSt]))]) H := hP
        have hD : va_D A ([(md, .inr (6, [.int 0, .ref aK, .ref aW, .ref aH, .ref aD, .ref aS, .ref aO, .ref aZ, .ref aM, .int (nI com), .int (nI the), .int (nI kep), .ref aI, .ref aHt, .ref aDp, .ref aWd, .int mad, .int h, .int lmt, .int twi, .int tst, .int tor, .int tsh, .int goa, .int mos, .int bes, .int cos, .long tot, .long dep, .long wid, .long shs, .ref aSt]))]) := hD
        refine lv_aload_n hx hb dX6_page_30 rfl (lv_at hl 0 rfl) ?_
        refine lv_iload_n hx hb dX6_page_31 rfl (lv_at hl 2 rfl) ?_
        refine my_put X hK in_X6_page_X6 tyX6 tyX6_ok nmX6 hP hD hS 0 rfl rfl 18 (by decide) (List.mem_of_getElem? (i := 3) rfl) rfl rfl rfl (Nat.le_of_ble_eq_true rfl) dX6_page_32 (fun H locs hP hD hS => ?_)
        have hP : va_P (dC, dI) vwCl ([(md, .inr (6, [.int 0, .ref aK, .ref aW, .ref aH, .ref aD, .ref aS, .ref aO, .ref aZ, .ref aM, .int (nI com), .int (nI the), .int (nI kep), .ref aI, .ref aHt, .ref aDp, .ref aWd, .int mad, .int h, .int d, .int twi, .int tst, .int tor, .int tsh, .int goa, .int mos, .int bes, .int cos, .long tot, .long dep, .long wid, .long shs, .ref aSt]))]) H := hP
        have hD : va_D A ([(md, .inr (6, [.int 0, .ref aK, .ref aW, .ref aH, .ref aD, .ref aS, .ref aO, .ref aZ, .ref aM, .int (nI com), .int (nI the), .int (nI kep), .ref aI, .ref aHt, .ref aDp, .ref aWd, .int mad, .int h, .int d, .int twi, .int tst, .int tor, .int tsh, .int goa, .int mos, .int bes, .int cos, .long tot, .long dep, .long wid, .long shs, .ref aSt]))]) := hD
        refine lv_iconst (v := 1) hx hb dX6_page_35 (by decide) ?_
        exact my_zret (WSf := (fun u : Int32 × Int32 => [(md, .inr (6, [.int 0, .ref aK, .ref aW, .ref aH, .ref aD, .ref aS, .ref aO, .ref aZ, .ref aM, .int (nI com), .int (nI the), .int (nI kep), .ref aI, .ref aHt, .ref aDp, .ref aWd, .int mad, .int u.1, .int u.2, .int twi, .int tst, .int tor, .int tsh, .int goa, .int mos, .int bes, .int cos, .long tot, .long dep, .long wid, .long shs, .ref aSt]))])) (h, d) X rfl (by simp [mpg, c_9, c_16, c_20]) (hP) (hD) hS (by first | decide | omega | (dsimp only; omega)) (by first | decide | omega | (dsimp only; omega)) dX6_page_36
      · refine lv_iconst (v := 0) hx hb dX6_page_23 (by decide) ?_
        exact my_zret (WSf := (fun u : Int32 × Int32 => [(md, .inr (6, [.int 0, .ref aK, .ref aW, .ref aH, .ref aD, .ref aS, .ref aO, .ref aZ, .ref aM, .int (nI com), .int (nI the), .int (nI kep), .ref aI, .ref aHt, .ref aDp, .ref aWd, .int mad, .int u.1, .int u.2, .int twi, .int tst, .int tor, .int tsh, .int goa, .int mos, .int bes, .int cos, .long tot, .long dep, .long wid, .long shs, .ref aSt]))])) (hei, lmt) X rfl (by simp [mpg, c_9, c_16, c_20]) (hP) (hD) hS (by first | decide | omega | (dsimp only; omega)) (by first | decide | omega | (dsimp only; omega)) dX6_page_24
theorem in_X6_top_X6 : ∀ w ∈ wsX60, w ∈ wsX6_top := fun _ h => List.mem_cons_of_mem _ (List.mem_append_right _ h)
set_option maxHeartbeats 200000 in
set_option maxRecDepth 100000 in
theorem m_top (l : Launch) (dC : Nat → ClassId) (dI : Nat → Nat → Nat) (cI cJ cO : ClassId) (hz : Nat) (md : Nat) (thr : Int32) (com : Nat) (the : Nat) (kep : Nat) (mad : Int32) (hei : Int32) (lmt : Int32) (twi : Int32) (tst : Int32) (tor : Int32) (tsh : Int32) (goa : Int32) (mos : Int32) (bes : Int32) (cos : Int32) (tot : Int64) (dep : Int64) (wid : Int64) (shs : Int64) (aK : Nat) (aW : Nat) (aH : Nat) (aD : Nat) (aS : Nat) (aO : Nat) (aZ : Nat) (aM : Nat) (aI : Nat) (aHt : Nat) (aDp : Nat) (aWd : Nat) (aSt : Nat) (w : Int32) (st : Int32) (o : Int32) (z : Int32)  : Met l yX6_top wsX6_top ({ frames := 2, cells := 0, slots := 0, locals := 43 }) (va_Pc [.ref md, .int w, .int st, .int o, .int z] (PW dC dI cI cJ cO [(md, .inr (6, [.int thr, .ref aK, .ref aW, .ref aH, .ref aD, .ref aS, .ref aO, .ref aZ, .ref aM, .int (nI com), .int (nI the), .int (nI kep), .ref aI, .ref aHt, .ref aDp, .ref aWd, .int mad, .int hei, .int lmt, .int twi, .int tst, .int tor, .int tsh, .int goa, .int mos, .int bes, .int cos, .long tot, .long dep, .long wid, .long shs, .ref aSt]))] hz)) (va_Qi (fun r : Int32 => fun u : Int32 × Int32 × Int32 × Int32 => u.1 = (if mgl w st o z = 1 then w else twi) ∧ u.2.1 = (if mgl w st o z = 1 then st else tst) ∧ u.2.2.1 = (if mgl w st o z = 1 then o else tor) ∧ u.2.2.2 = (if mgl w st o z = 1 then z else tsh) ∧ r = mgl w st o z) (fun (u : Int32 × Int32 × Int32 × Int32) t9 => BW dC dI (va_A [(md, .inr (6, [.int thr, .ref aK, .ref aW, .ref aH, .ref aD, .ref aS, .ref aO, .ref aZ, .ref aM, .int (nI com), .int (nI the), .int (nI kep), .ref aI, .ref aHt, .ref aDp, .ref aWd, .int mad, .int hei, .int lmt, .int twi, .int tst, .int tor, .int tsh, .int goa, .int mos, .int bes, .int cos, .long tot, .long dep, .long wid, .long shs, .ref aSt]))] hz) [(md, .inr (6, [.int 0, .ref aK, .ref aW, .ref aH, .ref aD, .ref aS, .ref aO, .ref aZ, .ref aM, .int (nI com), .int (nI the), .int (nI kep), .ref aI, .ref aHt, .ref aDp, .ref aWd, .int mad, .int hei, .int lmt, .int u.1, .int u.2.1, .int u.2.2.1, .int u.2.2.2, .int goa, .int mos, .int bes, .int cos, .long tot, .long dep, .long wid, .long shs, .ref aSt]))] t9) (va_A [(md, .inr (6, [.int thr, .ref aK, .ref aW, .ref aH, .ref aD, .ref aS, .ref aO, .ref aZ, .ref aM, .int (nI com), .int (nI the), .int (nI kep), .ref aI, .ref aHt, .ref aDp, .ref aWd, .int mad, .int hei, .int lmt, .int twi, .int tst, .int tor, .int tsh, .int goa, .int mos, .int bes, .int cos, .long tot, .long dep, .long wid, .long shs, .ref aSt]))] hz)) 0 0 (va_A [(md, .inr (6, [.int thr, .ref aK, .ref aW, .ref aH, .ref aD, .ref aS, .ref aO, .ref aZ, .ref aM, .int (nI com), .int (nI the), .int (nI kep), .ref aI, .ref aHt, .ref aDp, .ref aWd, .int mad, .int hei, .int lmt, .int twi, .int tst, .int tor, .int tsh, .int goa, .int mos, .int bes, .int cos, .long tot, .long dep, .long wid, .long shs, .ref aSt]))] hz) := by
  refine my_metW (ws := wsX6_top) (cc := cX6_top) (maxL := 5) (ret := (some .boolean)) (Qc := fun A => va_Qi (fun r : Int32 => fun u : Int32 × Int32 × Int32 × Int32 => u.1 = (if mgl w st o z = 1 then w else twi) ∧ u.2.1 = (if mgl w st o z = 1 then st else tst) ∧ u.2.2.1 = (if mgl w st o z = 1 then o else tor) ∧ u.2.2.2 = (if mgl w st o z = 1 then z else tsh) ∧ r = mgl w st o z) (fun (u : Int32 × Int32 × Int32 × Int32) t9 => BW dC dI A [(md, .inr (6, [.int 0, .ref aK, .ref aW, .ref aH, .ref aD, .ref aS, .ref aO, .ref aZ, .ref aM, .int (nI com), .int (nI the), .int (nI kep), .ref aI, .ref aHt, .ref aDp, .ref aWd, .int mad, .int hei, .int lmt, .int u.1, .int u.2.1, .int u.2.2.1, .int u.2.2.2, .int goa, .int mos, .int bes, .int cos, .long tot, .long dep, .long wid, .long shs, .ref aSt]))] t9) A) (by decide) rfl (Nat.le_of_ble_eq_true rfl) ?_
  intro p e s m below meth c ls A X hl hK hA hP hD hS
  obtain ⟨hx, hb, hr, hml, hown, hts, hlocks, hnm⟩ := id X
  have hl : lv_has ls 5 [(0, .ref md), (1, .int w), (2, .int st), (3, .int o), (4, .int z)] := hl
  refine lv_aload_n hx hb dX6_top_0 rfl (lv_at hl 0 rfl) ?_
  refine lv_iconst (v := 0) hx hb dX6_top_1 (by decide) ?_
  refine my_put X hK in_X6_top_X6 tyX6 tyX6_ok nmX6 hP hD hS 0 rfl rfl 0 (by decide) (List.mem_of_getElem? (i := 1) rfl) rfl rfl rfl (Nat.le_of_ble_eq_true rfl) dX6_top_2 (fun H locs hP hD hS => ?_)
  have hP : va_P (dC, dI) vwCl ([(md, .inr (6, [.int 0, .ref aK, .ref aW, .ref aH, .ref aD, .ref aS, .ref aO, .ref aZ, .ref aM, .int (nI com), .int (nI the), .int (nI kep), .ref aI, .ref aHt, .ref aDp, .ref aWd, .int mad, .int hei, .int lmt, .int twi, .int tst, .int tor, .int tsh, .int goa, .int mos, .int bes, .int cos, .long tot, .long dep, .long wid, .long shs, .ref aSt]))]) H := hP
  have hD : va_D A ([(md, .inr (6, [.int 0, .ref aK, .ref aW, .ref aH, .ref aD, .ref aS, .ref aO, .ref aZ, .ref aM, .int (nI com), .int (nI the), .int (nI kep), .ref aI, .ref aHt, .ref aDp, .ref aWd, .int mad, .int hei, .int lmt, .int twi, .int tst, .int tor, .int tsh, .int goa, .int mos, .int bes, .int cos, .long tot, .long dep, .long wid, .long shs, .ref aSt]))]) := hD
  refine lv_iload_n hx hb dX6_top_5 rfl (lv_at hl 1 rfl) ?_
  refine lv_iload_n hx hb dX6_top_6 rfl (lv_at hl 2 rfl) ?_
  refine lv_iload_n hx hb dX6_top_7 rfl (lv_at hl 3 rfl) ?_
  refine lv_iload hx hb dX6_top_8 (lv_at hl 4 rfl) ?_
  have hPc := hP.sub (ws' := []) [] rfl
  refine my_rdi (my_runS (n := 4) (As := [.int w, .int st, .int o, .int z]) (rest := []) X PR.blind (PR.pre hPc hK) (m_isGlue l dC dI cI cJ cO w st o z ) gX6_top_X6_isGlue rfl rfl rfl (by decide +kernel) rfl ⟨Nat.le_of_ble_eq_true rfl, Nat.le_of_ble_eq_true rfl⟩ hl.1 rfl (Nat.le_of_ble_eq_true rfl) dX6_top_10 ⟨by first | decide | omega | (dsimp only; omega), by first | decide | omega | (dsimp only; omega)⟩) (fun r_1 hr_1 => ?_)
  subst hr_1
  refine lv_if_ne (tgt := 18) hx hb dX6_top_13 (by decide) (fun c_13 => ?_) (fun c_13 => ?_)
  · have c_13 := b01n (mgl_01 w st o z) c_13
    refine lv_aload_n hx hb dX6_top_18 rfl (lv_at hl 0 rfl) ?_
    refine lv_iload_n hx hb dX6_top_19 rfl (lv_at hl 1 rfl) ?_
    refine my_put X hK in_X6_top_X6 tyX6 tyX6_ok nmX6 hP hD hS 0 rfl rfl 19 (by decide) (List.mem_of_getElem? (i := 2) rfl) rfl rfl rfl (Nat.le_of_ble_eq_true rfl) dX6_top_20 (fun H locs hP hD hS => ?_)
    have hP : va_P (dC, dI) vwCl ([(md, .inr (6, [.int 0, .ref aK, .ref aW, .ref aH, .ref aD, .ref aS, .ref aO, .ref aZ, .ref aM, .int (nI com), .int (nI the), .int (nI kep), .ref aI, .ref aHt, .ref aDp, .ref aWd, .int mad, .int hei, .int lmt, .int w, .int tst, .int tor, .int tsh, .int goa, .int mos, .int bes, .int cos, .long tot, .long dep, .long wid, .long shs, .ref aSt]))]) H := hP
    have hD : va_D A ([(md, .inr (6, [.int 0, .ref aK, .ref aW, .ref aH, .ref aD, .ref aS, .ref aO, .ref aZ, .ref aM, .int (nI com), .int (nI the), .int (nI kep), .ref aI, .ref aHt, .ref aDp, .ref aWd, .int mad, .int hei, .int lmt, .int w, .int tst, .int tor, .int tsh, .int goa, .int mos, .int bes, .int cos, .long tot, .long dep, .long wid, .long shs, .ref aSt]))]) := hD
    refine lv_aload_n hx hb dX6_top_23 rfl (lv_at hl 0 rfl) ?_
    refine lv_iload_n hx hb dX6_top_24 rfl (lv_at hl 2 rfl) ?_
    refine my_put X hK in_X6_top_X6 tyX6 tyX6_ok nmX6 hP hD hS 0 rfl rfl 20 (by decide) (List.mem_of_getElem? (i := 3) rfl) rfl rfl rfl (Nat.le_of_ble_eq_true rfl) dX6_top_25 (fun H locs hP hD hS => ?_)
    have hP : va_P (dC, dI) vwCl ([(md, .inr (6, [.int 0, .ref aK, .ref aW, .ref aH, .ref aD, .ref aS, .ref aO, .ref aZ, .ref aM, .int (nI com), .int (nI the), .int (nI kep), .ref aI, .ref aHt, .ref aDp, .ref aWd, .int mad, .int hei, .int lmt, .int w, .int st, .int tor, .int tsh, .int goa, .int mos, .int bes, .int cos, .long tot, .long dep, .long wid, .long shs, .ref aSt]))]) H := hP
    have hD : va_D A ([(md, .inr (6, [.int 0, .ref aK, .ref aW, .ref aH, .ref aD, .ref aS, .ref aO, .ref aZ, .ref aM, .int (nI com), .int (nI the), .int (nI kep), .ref aI, .ref aHt, .ref aDp, .ref aWd, .int mad, .int hei, .int lmt, .int w, .int st, .int tor, .int tsh, .int goa, .int mos, .int bes, .int cos, .long tot, .long dep, .long wid, .long shs, .ref aSt]))]) := hD
    refine lv_aload_n hx hb dX6_top_28 rfl (lv_at hl 0 rfl) ?_
    refine lv_iload_n hx hb dX6_top_29 rfl (lv_at hl 3 rfl) ?_
    refine my_put X hK in_X6_top_X6 tyX6 tyX6_ok nmX6 hP hD hS 0 rfl rfl 21 (by decide) (List.mem_of_getElem? (i := 4) rfl) rfl rfl rfl (Nat.le_of_ble_eq_true rfl) dX6_top_30 (fun H locs hP hD hS => ?_)
    have hP : va_P (dC, dI) vwCl ([(md, .inr (6, [.int 0, .ref aK, .ref aW, .ref aH, .ref aD, .ref aS, .ref aO, .ref aZ, .ref aM, .int (nI com), .int (nI the), .int (nI kep), .ref aI, .ref aHt, .ref aDp, .ref aWd, .int mad, .int hei, .int lmt, .int w, .int st, .int o, .int tsh, .int goa, .int mos, .int bes, .int cos, .long tot, .long dep, .long wid, .long shs, .ref aSt]))]) H := hP
    have hD : va_D A ([(md, .inr (6, [.int 0, .ref aK, .ref aW, .ref aH, .ref aD, .ref aS, .ref aO, .ref aZ, .ref aM, .int (nI com), .int (nI the), .int (nI kep), .ref aI, .ref aHt, .ref aDp, .ref aWd, .int mad, .int hei, .int lmt, .int w, .int st, .int o, .int tsh, .int goa, .int mos, .int bes, .int cos, .long tot, .long dep, .long wid, .long shs, .ref aSt]))]) := hD
    refine lv_aload_n hx hb dX6_top_33 rfl (lv_at hl 0 rfl) ?_
    refine lv_iload hx hb dX6_top_34 (lv_at hl 4 rfl) ?_
    refine my_put X hK in_X6_top_X6 tyX6 tyX6_ok nmX6 hP hD hS 0 rfl rfl 22 (by decide) (List.mem_of_getElem? (i := 5) rfl) rfl rfl rfl (Nat.le_of_ble_eq_true rfl) dX6_top_36 (fun H locs hP hD hS => ?_)
    have hP : va_P (dC, dI) vwCl ([(md, .inr (6, [.int 0, .ref aK, .ref aW, .ref aH, .ref aD, .ref aS, .ref aO, .ref aZ, .ref aM, .int (nI com), .int (nI the), .int (nI kep), .ref aI, .ref aHt, .ref aDp, .ref aWd, .int mad, .int hei, .int lmt, .int w, .int st, .int o, .int z, .int goa, .int mos, .int bes, .int cos, .long tot, .long dep, .long wid, .long shs, .ref aSt]))]) H := hP
    have hD : va_D A ([(md, .inr (6, [.int 0, .ref aK, .ref aW, .ref aH, .ref aD, .ref aS, .ref aO, .ref aZ, .ref aM, .int (nI com), .int (nI the), .int (nI kep), .ref aI, .ref aHt, .ref aDp, .ref aWd, .int mad, .int hei, .int lmt, .int w, .int st, .int o, .int z, .int goa, .int mos, .int bes, .int cos, .long tot, .long dep, .long wid, .long shs, .ref aSt]))]) := hD
    refine lv_iconst (v := 1) hx hb dX6_top_39 (by decide) ?_
    exact my_zret (WSf := (fun u : Int32 × Int32 × Int32 × Int32 => [(md, .inr (6, [.int 0, .ref aK, .ref aW, .ref aH, .ref aD, .ref aS, .ref aO, .ref aZ, .ref aM, .int (nI com), .int (nI the), .int (nI kep), .ref aI, .ref aHt, .ref aDp, .ref aWd, .int mad, .int hei, .int lmt, .int u.1, .int u.2.1, .int u.2.2.1, .int u.2.2.2, .int goa, .int mos, .int bes, .int cos, .long tot, .long dep, .long wid, .long shs, .ref aSt]))])) (w, st, o, z) X rfl (by simp [c_13]) (hP) (hD) hS (by first | decide | omega | (dsimp only; omega)) (by first | decide | omega | (dsimp only; omega)) dX6_top_40
  · refine lv_iconst (v := 0) hx hb dX6_top_16 (by decide) ?_
    exact my_zret (WSf := (fun u : Int32 × Int32 × Int32 × Int32 => [(md, .inr (6, [.int 0, .ref aK, .ref aW, .ref aH, .ref aD, .ref aS, .ref aO, .ref aZ, .ref aM, .int (nI com), .int (nI the), .int (nI kep), .ref aI, .ref aHt, .ref aDp, .ref aWd, .int mad, .int hei, .int lmt, .int u.1, .int u.2.1, .int u.2.2.1, .int u.2.2.2, .int goa, .int mos, .int bes, .int cos, .long tot, .long dep, .long wid, .long shs, .ref aSt]))])) (twi, tst, tor, tsh) X rfl (by simp [c_13]) (hP) (hD) hS (by first | decide | omega | (dsimp only; omega)) (by first | decide | omega | (dsimp only; omega)) dX6_top_17
theorem in_X6_isSolid_X6 : ∀ w ∈ wsX60, w ∈ wsX6_isSolid := fun _ h => List.mem_cons_of_mem _ (List.mem_append_right _ h)
set_option maxHeartbeats 200000 in
set_option maxRecDepth 100000 in
theorem m_isSolid (l : Launch) (dC : Nat → ClassId) (dI : Nat → Nat → Nat) (cI cJ cO : ClassId) (md : Nat) (thr : Int32) (com : Nat) (the : Nat) (kep : Nat) (mad : Int32) (hei : Int32) (lmt : Int32) (twi : Int32) (tst : Int32) (tor : Int32) (tsh : Int32) (goa : Int32) (mos : Int32) (bes : Int32) (cos : Int32) (tot : Int64) (dep : Int64) (wid : Int64) (shs : Int64) (aK : Nat) (aW : Nat) (aH : Nat) (aD : Nat) (aS : Nat) (aO : Nat) (aZ : Nat) (aM : Nat) (aI : Nat) (aHt : Nat) (aDp : Nat) (aWd : Nat) (aSt : Nat) (kd : Nat → Int32) (k : Nat) (hk : k < 12700) : Met l yX6_isSolid wsX6_isSolid ({ frames := 0, cells := 0, slots := 0, locals := 0 }) (va_Pc [.ref md, .int (nI k)] (PR dC dI cI cJ cO [(md, .inr (6, [.int thr, .ref aK, .ref aW, .ref aH, .ref aD, .ref aS, .ref aO, .ref aZ, .ref aM, .int (nI com), .int (nI the), .int (nI kep), .ref aI, .ref aHt, .ref aDp, .ref aWd, .int mad, .int hei, .int lmt, .int twi, .int tst, .int tor, .int tsh, .int goa, .int mos, .int bes, .int cos, .long tot, .long dep, .long wid, .long shs, .ref aSt])), (aK, .inl (cI, 12700, .inl kd))])) (vp_Si (fun r : Int32 => r = sol (kd k))) 0 0 (fun _ => False) := by
  refine my_met (ws := wsX6_isSolid) (cc := cX6_isSolid) (maxL := 2) (ret := (some .boolean)) (by decide) rfl (Nat.le_of_ble_eq_true rfl) ?_
  intro p e s m below meth c ls X hl hv
  obtain ⟨hP, hK⟩ := hv
  obtain ⟨hx, hb, hr, hml, hown, hts, hlocks, hnm⟩ := id X
  have hl : lv_has ls 2 [(0, .ref md), (1, .int (nI k))] := hl
  refine lv_aload_n hx hb dX6_isSolid_0 rfl (lv_at hl 0 rfl) ?_
  refine my_get X hK in_X6_isSolid_X6 hP 0 rfl rfl 1 (by decide) (List.mem_of_getElem? (i := 1) rfl) rfl dX6_isSolid_1 ?_
  refine lv_iload_n hx hb dX6_isSolid_4 rfl (lv_at hl 1 rfl) ?_
  refine my_iald (k := k) hx hb hK hP 1 rfl (rfl) (by omega) (by omega) dX6_isSolid_5 ?_
  refine lv_iconst (v := 2) hx hb dX6_isSolid_6 (by decide) ?_
  refine lv_icmp_eq (tgt := 20) hx hb dX6_isSolid_7 (by decide) (fun c_7 => ?_) (fun c_7 => ?_)
  · refine lv_iconst (v := 1) hx hb dX6_isSolid_20 (by decide) ?_
    refine lv_goto (tgt := 25) hx hb dX6_isSolid_21 (by decide) ?_
    exact my_zretR X rfl (by simp [sol, c_7]) dX6_isSolid_25
  · refine lv_aload_n hx hb dX6_isSolid_10 rfl (lv_at hl 0 rfl) ?_
    refine my_get X hK in_X6_isSolid_X6 hP 0 rfl rfl 1 (by decide) (List.mem_of_getElem? (i := 1) rfl) rfl dX6_isSolid_11 ?_
    refine lv_iload_n hx hb dX6_isSolid_14 rfl (lv_at hl 1 rfl) ?_
    refine my_iald (k := k) hx hb hK hP 1 rfl (rfl) (by omega) (by omega) dX6_isSolid_15 ?_
    refine lv_iconst (v := 4) hx hb dX6_isSolid_16 (by decide) ?_
    refine lv_icmp_ne (tgt := 24) hx hb dX6_isSolid_17 (by decide) (fun c_17 => ?_) (fun c_17 => ?_)
    · refine lv_iconst (v := 0) hx hb dX6_isSolid_24 (by decide) ?_
      exact my_zretR X rfl (by simp [sol, c_7, c_17]) dX6_isSolid_25
    · refine lv_iconst (v := 1) hx hb dX6_isSolid_20 (by decide) ?_
      refine lv_goto (tgt := 25) hx hb dX6_isSolid_21 (by decide) ?_
      exact my_zretR X rfl (by simp [sol, c_7, c_17]) dX6_isSolid_25
theorem in_X6_write_X6 : ∀ w ∈ wsX60, w ∈ wsX6_write := fun _ h => List.mem_cons_of_mem _ (List.mem_append_right _ h)
set_option maxHeartbeats 200000 in
set_option maxRecDepth 100000 in
theorem m_write (l : Launch) (dC : Nat → ClassId) (dI : Nat → Nat → Nat) (cI cJ cO : ClassId) (hz : Nat) (md : Nat) (thr : Int32) (com : Nat) (the : Nat) (kep : Nat) (mad : Int32) (hei : Int32) (lmt : Int32) (twi : Int32) (tst : Int32) (tor : Int32) (tsh : Int32) (goa : Int32) (mos : Int32) (bes : Int32) (cos : Int32) (tot : Int64) (dep : Int64) (wid : Int64) (shs : Int64) (aK : Nat) (aW : Nat) (aH : Nat) (aD : Nat) (aS : Nat) (aO : Nat) (aZ : Nat) (aM : Nat) (aI : Nat) (aHt : Nat) (aDp : Nat) (aWd : Nat) (aSt : Nat) (kd : Nat → Int32) (wi : Nat → Int32) (hi : Nat → Int32) (de : Nat → Int32) (sh : Nat → Int32) (od : Nat → Int32) (sk : Nat → Int32) (mo : Nat → Int64) (k : Nat) (x0 : Int32) (x1 : Int32) (x2 : Int32) (x3 : Int32) (x4 : Int32) (x5 : Int32) (x6 : Int32) (hk : k < 12700) : Met l yX6_write wsX6_write ({ frames := 0, cells := 0, slots := 0, locals := 0 }) (va_Pc [.ref md, .int (nI k), .int x0, .int x1, .int x2, .int x3, .int x4, .int x5, .int x6] (PW dC dI cI cJ cO [(md, .inr (6, [.int thr, .ref aK, .ref aW, .ref aH, .ref aD, .ref aS, .ref aO, .ref aZ, .ref aM, .int (nI com), .int (nI the), .int (nI kep), .ref aI, .ref aHt, .ref aDp, .ref aWd, .int mad, .int hei, .int lmt, .int twi, .int tst, .int tor, .int tsh, .int goa, .int mos, .int bes, .int cos, .long tot, .long dep, .long wid, .long shs, .ref aSt])), (aK, .inl (cI, 12700, .inl kd)), (aW, .inl (cI, 12700, .inl wi)), (aH, .inl (cI, 12700, .inl hi)), (aD, .inl (cI, 12700, .inl de)), (aS, .inl (cI, 12700, .inl sh)), (aO, .inl (cI, 12700, .inl od)), (aZ, .inl (cI, 12700, .inl sk)), (aM, .inl (cJ, 12700, .inr (.inl mo)))] hz)) (va_Qv (fun _ : Unit => True) (fun (_ : Unit) t9 => BW dC dI (va_A [(md, .inr (6, [.int thr, .ref aK, .ref aW, .ref aH, .ref aD, .ref aS, .ref aO, .ref aZ, .ref aM, .int (nI com), .int (nI the), .int (nI kep), .ref aI, .ref aHt, .ref aDp, .ref aWd, .int mad, .int hei, .int lmt, .int twi, .int tst, .int tor, .int tsh, .int goa, .int mos, .int bes, .int cos, .long tot, .long dep, .long wid, .long shs, .ref aSt])), (aK, .inl (cI, 12700, .inl kd)), (aW, .inl (cI, 12700, .inl wi)), (aH, .inl (cI, 12700, .inl hi)), (aD, .inl (cI, 12700, .inl de)), (aS, .inl (cI, 12700, .inl sh)), (aO, .inl (cI, 12700, .inl od)), (aZ, .inl (cI, 12700, .inl sk)), (aM, .inl (cJ, 12700, .inr (.inl mo)))] hz) [(md, .inr (6, [.int thr, .ref aK, .ref aW, .ref aH, .ref aD, .ref aS, .ref aO, .ref aZ, .ref aM, .int (nI com), .int (nI the), .int (nI kep), .ref aI, .ref aHt, .ref aDp, .ref aWd, .int mad, .int hei, .int lmt, .int twi, .int tst, .int tor, .int tsh, .int goa, .int mos, .int bes, .int cos, .long tot, .long dep, .long wid, .long shs, .ref aSt])), (aK, .inl (cI, 12700, .inl (upd kd k x0))), (aW, .inl (cI, 12700, .inl (upd wi k x1))), (aH, .inl (cI, 12700, .inl (upd hi k x2))), (aD, .inl (cI, 12700, .inl (upd de k x3))), (aS, .inl (cI, 12700, .inl (upd sh k x4))), (aO, .inl (cI, 12700, .inl (upd od k x5))), (aZ, .inl (cI, 12700, .inl (upd sk k x6))), (aM, .inl (cJ, 12700, .inr (.inl (vp_updL mo k 0))))] t9) (va_A [(md, .inr (6, [.int thr, .ref aK, .ref aW, .ref aH, .ref aD, .ref aS, .ref aO, .ref aZ, .ref aM, .int (nI com), .int (nI the), .int (nI kep), .ref aI, .ref aHt, .ref aDp, .ref aWd, .int mad, .int hei, .int lmt, .int twi, .int tst, .int tor, .int tsh, .int goa, .int mos, .int bes, .int cos, .long tot, .long dep, .long wid, .long shs, .ref aSt])), (aK, .inl (cI, 12700, .inl kd)), (aW, .inl (cI, 12700, .inl wi)), (aH, .inl (cI, 12700, .inl hi)), (aD, .inl (cI, 12700, .inl de)), (aS, .inl (cI, 12700, .inl sh)), (aO, .inl (cI, 12700, .inl od)), (aZ, .inl (cI, 12700, .inl sk)), (aM, .inl (cJ, 12700, .inr (.inl mo)))] hz)) 0 0 (va_A [(md, .inr (6, [.int thr, .ref aK, .ref aW, .ref aH, .ref aD, .ref aS, .ref aO, .ref aZ, .ref aM, .int (nI com), .int (nI the), .int (nI kep), .ref aI, .ref aHt, .ref aDp, .ref aWd, .int mad, .int hei, .int lmt, .int twi, .int tst, .int tor, .int tsh, .int goa, .int mos, .int bes, .int cos, .long tot, .long dep, .long wid, .long shs, .ref aSt])), (aK, .inl (cI, 12700, .inl kd)), (aW, .inl (cI, 12700, .inl wi)), (aH, .inl (cI, 12700, .inl hi)), (aD, .inl (cI, 12700, .inl de)), (aS, .inl (cI, 12700, .inl sh)), (aO, .inl (cI, 12700, .inl od)), (aZ, .inl (cI, 12700, .inl sk)), (aM, .inl (cJ, 12700, .inr (.inl mo)))] hz) := by
  refine my_metW (ws := wsX6_write) (cc := cX6_write) (maxL := 9) (ret := none) (Qc := fun A => va_Qv (fun _ : Unit => True) (fun (_ : Unit) t9 => BW dC dI A [(md, .inr (6, [.int thr, .ref aK, .ref aW, .ref aH, .ref aD, .ref aS, .ref aO, .ref aZ, .ref aM, .int (nI com), .int (nI the), .int (nI kep), .ref aI, .ref aHt, .ref aDp, .ref aWd, .int mad, .int hei, .int lmt, .int twi, .int tst, .int tor, .int tsh, .int goa, .int mos, .int bes, .int cos, .long tot, .long dep, .long wid, .long shs, .ref aSt])), (aK, .inl (cI, 12700, .inl (upd kd k x0))), (aW, .inl (cI, 12700, .inl (upd wi k x1))), (aH, .inl (cI, 12700, .inl (upd hi k x2))), (aD, .inl (cI, 12700, .inl (upd de k x3))), (aS, .inl (cI, 12700, .inl (upd sh k x4))), (aO, .inl (cI, 12700, .inl (upd od k x5))), (aZ, .inl (cI, 12700, .inl (upd sk k x6))), (aM, .inl (cJ, 12700, .inr (.inl (vp_updL mo k 0))))] t9) A) (by decide) rfl (Nat.le_of_ble_eq_true rfl) ?_
  intro p e s m below meth c ls A X hl hK hA hP hD hS
  obtain ⟨hx, hb, hr, hml, hown, hts, hlocks, hnm⟩ := id X
  have hl : lv_has ls 9 [(0, .ref md), (1, .int (nI k)), (2, .int x0), (3, .int x1), (4, .int x2), (5, .int x3), (6, .int x4), (7, .int x5), (8, .int x6)] := hl
  refine lv_aload_n hx hb dX6_write_0 rfl (lv_at hl 0 rfl) ?_
  refine my_get X hK in_X6_write_X6 hP 0 rfl rfl 1 (by decide) (List.mem_of_getElem? (i := 1) rfl) rfl dX6_write_1 ?_
  refine lv_iload_n hx hb dX6_write_4 rfl (lv_at hl 1 rfl) ?_
  refine lv_iload_n hx hb dX6_write_5 rfl (lv_at hl 2 rfl) ?_
  refine my_iast (k := k) hx hb hK hP hD hS 1 rfl (rfl) (by omega) (by omega) dX6_write_6 (fun H locs hP hD hS => ?_)
  have hP : va_P (dC, dI) vwCl ([(md, .inr (6, [.int thr, .ref aK, .ref aW, .ref aH, .ref aD, .ref aS, .ref aO, .ref aZ, .ref aM, .int (nI com), .int (nI the), .int (nI kep), .ref aI, .ref aHt, .ref aDp, .ref aWd, .int mad, .int hei, .int lmt, .int twi, .int tst, .int tor, .int tsh, .int goa, .int mos, .int bes, .int cos, .long tot, .long dep, .long wid, .long shs, .ref aSt])), (aK, .inl (cI, 12700, .inl (upd kd k x0))), (aW, .inl (cI, 12700, .inl wi)), (aH, .inl (cI, 12700, .inl hi)), (aD, .inl (cI, 12700, .inl de)), (aS, .inl (cI, 12700, .inl sh)), (aO, .inl (cI, 12700, .inl od)), (aZ, .inl (cI, 12700, .inl sk)), (aM, .inl (cJ, 12700, .inr (.inl mo)))]) H := hP
  have hD : va_D A ([(md, .inr (6, [.int thr, .ref aK, .ref aW, .ref aH, .ref aD, .ref aS, .ref aO, .ref aZ, .ref aM, .int (nI com), .int (nI the), .int (nI kep), .ref aI, .ref aHt, .ref aDp, .ref aWd, .int mad, .int hei, .int lmt, .int twi, .int tst, .int tor, .int tsh, .int goa, .int mos, .int bes, .int cos, .long tot, .long dep, .long wid, .long shs, .ref aSt])), (aK, .inl (cI, 12700, .inl (upd kd k x0))), (aW, .inl (cI, 12700, .inl wi)), (aH, .inl (cI, 12700, .inl hi)), (aD, .inl (cI, 12700, .inl de)), (aS, .inl (cI, 12700, .inl sh)), (aO, .inl (cI, 12700, .inl od)), (aZ, .inl (cI, 12700, .inl sk)), (aM, .inl (cJ, 12700, .inr (.inl mo)))]) := hD
  refine lv_aload_n hx hb dX6_write_7 rfl (lv_at hl 0 rfl) ?_
  refine my_get X hK in_X6_write_X6 hP 0 rfl rfl 2 (by decide) (List.mem_of_getElem? (i := 2) rfl) rfl dX6_write_8 ?_
  refine lv_iload_n hx hb dX6_write_11 rfl (lv_at hl 1 rfl) ?_
  refine lv_iload_n hx hb dX6_write_12 rfl (lv_at hl 3 rfl) ?_
  refine my_iast (k := k) hx hb hK hP hD hS 2 rfl (rfl) (by omega) (by omega) dX6_write_13 (fun H locs hP hD hS => ?_)
  have hP : va_P (dC, dI) vwCl ([(md, .inr (6, [.int thr, .ref aK, .ref aW, .ref aH, .ref aD, .ref aS, .ref aO, .ref aZ, .ref aM, .int (nI com), .int (nI the), .int (nI kep), .ref aI, .ref aHt, .ref aDp, .ref aWd, .int mad, .int hei, .int lmt, .int twi, .int tst, .int tor, .int tsh, .int goa, .int mos, .int bes, .int cos, .long tot, .long dep, .long wid, .long shs, .ref aSt])), (aK, .inl (cI, 12700, .inl (upd kd k x0))), (aW, .inl (cI, 12700, .inl (upd wi k x1))), (aH, .inl (cI, 12700, .inl hi)), (aD, .inl (cI, 12700, .inl de)), (aS, .inl (cI, 12700, .inl sh)), (aO, .inl (cI, 12700, .inl od)), (aZ, .inl (cI, 12700, .inl sk)), (aM, .inl (cJ, 12700, .inr (.inl mo)))]) H := hP
  have hD : va_D A ([(md, .inr (6, [.int thr, .ref aK, .ref aW, .ref aH, .ref aD, .ref aS, .ref aO, .ref aZ, .ref aM, .int (nI com), .int (nI the), .int (nI kep), .ref aI, .ref aHt, .ref aDp, .ref aWd, .int mad, .int hei, .int lmt, .int twi, .int tst, .int tor, .int tsh, .int goa, .int mos, .int bes, .int cos, .long tot, .long dep, .long wid, .long shs, .ref aSt])), (aK, .inl (cI, 12700, .inl (upd kd k x0))), (aW, .inl (cI, 12700, .inl (upd wi k x1))), (aH, .inl (cI, 12700, .inl hi)), (aD, .inl (cI, 12700, .inl de)), (aS, .inl (cI, 12700, .inl sh)), (aO, .inl (cI, 12700, .inl od)), (aZ, .inl (cI, 12700, .inl sk)), (aM, .inl (cJ, 12700, .inr (.inl mo)))]) := hD
  refine lv_aload_n hx hb dX6_write_14 rfl (lv_at hl 0 rfl) ?_
  refine my_get X hK in_X6_write_X6 hP 0 rfl rfl 3 (by decide) (List.mem_of_getElem? (i := 3) rfl) rfl dX6_write_15 ?_
  refine lv_iload_n hx hb dX6_write_18 rfl (lv_at hl 1 rfl) ?_
  refine lv_iload hx hb dX6_write_19 (lv_at hl 4 rfl) ?_
  refine my_iast (k := k) hx hb hK hP hD hS 3 rfl (rfl) (by omega) (by omega) dX6_write_21 (fun H locs hP hD hS => ?_)
  have hP : va_P (dC, dI) vwCl ([(md, .inr (6, [.int thr, .ref aK, .ref aW, .ref aH, .ref aD, .ref aS, .ref aO, .ref aZ, .ref aM, .int (nI com), .int (nI the), .int (nI kep), .ref aI, .ref aHt, .ref aDp, .ref aWd, .int mad, .int hei, .int lmt, .int twi, .int tst, .int tor, .int tsh, .int goa, .int mos, .int bes, .int cos, .long tot, .long dep, .long wid, .long shs, .ref aSt])), (aK, .inl (cI, 12700, .inl (upd kd k x0))), (aW, .inl (cI, 12700, .inl (upd wi k x1))), (aH, .inl (cI, 12700, .inl (upd hi k x2))), (aD, .inl (cI, 12700, .inl de)), (aS, .inl (cI, 12700, .inl sh)), (aO, .inl (cI, 12700, .inl od)), (aZ, .inl (cI, 12700, .inl sk)), (aM, .inl (cJ, 12700, .inr (.inl mo)))]) H := hP
  have hD : va_D A ([(md, .inr (6, [.int thr, .ref aK, .ref aW, .ref aH, .ref aD, .ref aS, .ref aO, .ref aZ, .ref aM, .int (nI com), .int (nI the), .int (nI kep), .ref aI, .ref aHt, .ref aDp, .ref aWd, .int mad, .int hei, .int lmt, .int twi, .int tst, .int tor, .int tsh, .int goa, .int mos, .int bes, .int cos, .long tot, .long dep, .long wid, .long shs, .ref aSt])), (aK, .inl (cI, 12700, .inl (upd kd k x0))), (aW, .inl (cI, 12700, .inl (upd wi k x1))), (aH, .inl (cI, 12700, .inl (upd hi k x2))), (aD, .inl (cI, 12700, .inl de)), (aS, .inl (cI, 12700, .inl sh)), (aO, .inl (cI, 12700, .inl od)), (aZ, .inl (cI, 12700, .inl sk)), (aM, .inl (cJ, 12700, .inr (.inl mo)))]) := hD
  refine lv_aload_n hx hb dX6_write_22 rfl (lv_at hl 0 rfl) ?_
  refine my_get X hK in_X6_write_X6 hP 0 rfl rfl 4 (by decide) (List.mem_of_getElem? (i := 4) rfl) rfl dX6_write_23 ?_
  refine lv_iload_n hx hb dX6_write_26 rfl (lv_at hl 1 rfl) ?_
  refine lv_iload hx hb dX6_write_27 (lv_at hl 5 rfl) ?_
  refine my_iast (k := k) hx hb hK hP hD hS 4 rfl (rfl) (by omega) (by omega) dX6_write_29 (fun H locs hP hD hS => ?_)
  have hP : va_P (dC, dI) vwCl ([(md, .inr (6, [.int thr, .ref aK, .ref aW, .ref aH, .ref aD, .ref aS, .ref aO, .ref aZ, .ref aM, .int (nI com), .int (nI the), .int (nI kep), .ref aI, .ref aHt, .ref aDp, .ref aWd, .int mad, .int hei, .int lmt, .int twi, .int tst, .int tor, .int tsh, .int goa, .int mos, .int bes, .int cos, .long tot, .long dep, .long wid, .long shs, .ref aSt])), (aK, .inl (cI, 12700, .inl (upd kd k x0))), (aW, .inl (cI, 12700, .inl (upd wi k x1))), (aH, .inl (cI, 12700, .inl (upd hi k x2))), (aD, .inl (cI, 12700, .inl (upd de k x3))), (aS, .inl (cI, 12700, .inl sh)), (aO, .inl (cI, 12700, .inl od)), (aZ, .inl (cI, 12700, .inl sk)), (aM, .inl (cJ, 12700, .inr (.inl mo)))]) H := hP
  have hD : va_D A ([(md, .inr (6, [.int thr, .ref aK, .ref aW, .ref aH, .ref aD, .ref aS, .ref aO, .ref aZ, .ref aM, .int (nI com), .int (nI the), .int (nI kep), .ref aI, .ref aHt, .ref aDp, .ref aWd, .int mad, .int hei, .int lmt, .int twi, .int tst, .int tor, .int tsh, .int goa, .int mos, .int bes, .int cos, .long tot, .long dep, .long wid, .long shs, .ref aSt])), (aK, .inl (cI, 12700, .inl (upd kd k x0))), (aW, .inl (cI, 12700, .inl (upd wi k x1))), (aH, .inl (cI, 12700, .inl (upd hi k x2))), (aD, .inl (cI, 12700, .inl (upd de k x3))), (aS, .inl (cI, 12700, .inl sh)), (aO, .inl (cI, 12700, .inl od)), (aZ, .inl (cI, 12700, .inl sk)), (aM, .inl (cJ, 12700, .inr (.inl mo)))]) := hD
  refine lv_aload_n hx hb dX6_write_30 rfl (lv_at hl 0 rfl) ?_
  refine my_get X hK in_X6_write_X6 hP 0 rfl rfl 5 (by decide) (List.mem_of_getElem? (i := 5) rfl) rfl dX6_write_31 ?_
  refine lv_iload_n hx hb dX6_write_34 rfl (lv_at hl 1 rfl) ?_
  refine lv_iload hx hb dX6_write_35 (lv_at hl 6 rfl) ?_
  refine my_iast (k := k) hx hb hK hP hD hS 5 rfl (rfl) (by omega) (by omega) dX6_write_37 (fun H locs hP hD hS => ?_)
  have hP : va_P (dC, dI) vwCl ([(md, .inr (6, [.int thr, .ref aK, .ref aW, .ref aH, .ref aD, .ref aS, .ref aO, .ref aZ, .ref aM, .int (nI com), .int (nI the), .int (nI kep), .ref aI, .ref aHt, .ref aDp, .ref aWd, .int mad, .int hei, .int lmt, .int twi, .int tst, .int tor, .int tsh, .int goa, .int mos, .int bes, .int cos, .long tot, .long dep, .long wid, .long shs, .ref aSt])), (aK, .inl (cI, 12700, .inl (upd kd k x0))), (aW, .inl (cI, 12700, .inl (upd wi k x1))), (aH, .inl (cI, 12700, .inl (upd hi k x2))), (aD, .inl (cI, 12700, .inl (upd de k x3))), (aS, .inl (cI, 12700, .inl (upd sh k x4))), (aO, .inl (cI, 12700, .inl od)), (aZ, .inl (cI, 12700, .inl sk)), (aM, .inl (cJ, 12700, .inr (.inl mo)))]) H := hP
  have hD : va_D A ([(md, .inr (6, [.int thr, .ref aK, .ref aW, .ref aH, .ref aD, .ref aS, .ref aO, .ref aZ, .ref aM, .int (nI com), .int (nI the), .int (nI kep), .ref aI, .ref aHt, .ref aDp, .ref aWd, .int mad, .int hei, .int lmt, .int twi, .int tst, .int tor, .int tsh, .int goa, .int mos, .int bes, .int cos, .long tot, .long dep, .long wid, .long shs, .ref aSt])), (aK, .inl (cI, 12700, .inl (upd kd k x0))), (aW, .inl (cI, 12700, .inl (upd wi k x1))), (aH, .inl (cI, 12700, .inl (upd hi k x2))), (aD, .inl (cI, 12700, .inl (upd de k x3))), (aS, .inl (cI, 12700, .inl (upd sh k x4))), (aO, .inl (cI, 12700, .inl od)), (aZ, .inl (cI, 12700, .inl sk)), (aM, .inl (cJ, 12700, .inr (.inl mo)))]) := hD
  refine lv_aload_n hx hb dX6_write_38 rfl (lv_at hl 0 rfl) ?_
  refine my_get X hK in_X6_write_X6 hP 0 rfl rfl 6 (by decide) (List.mem_of_getElem? (i := 6) rfl) rfl dX6_write_39 ?_
  refine lv_iload_n hx hb dX6_write_42 rfl (lv_at hl 1 rfl) ?_
  refine lv_iload hx hb dX6_write_43 (lv_at hl 7 rfl) ?_
  refine my_iast (k := k) hx hb hK hP hD hS 6 rfl (rfl) (by omega) (by omega) dX6_write_45 (fun H locs hP hD hS => ?_)
  have hP : va_P (dC, dI) vwCl ([(md, .inr (6, [.int thr, .ref aK, .ref aW, .ref aH, .ref aD, .ref aS, .ref aO, .ref aZ, .ref aM, .int (nI com), .int (nI the), .int (nI kep), .ref aI, .ref aHt, .ref aDp, .ref aWd, .int mad, .int hei, .int lmt, .int twi, .int tst, .int tor, .int tsh, .int goa, .int mos, .int bes, .int cos, .long tot, .long dep, .long wid, .long shs, .ref aSt])), (aK, .inl (cI, 12700, .inl (upd kd k x0))), (aW, .inl (cI, 12700, .inl (upd wi k x1))), (aH, .inl (cI, 12700, .inl (upd hi k x2))), (aD, .inl (cI, 12700, .inl (upd de k x3))), (aS, .inl (cI, 12700, .inl (upd sh k x4))), (aO, .inl (cI, 12700, .inl (upd od k x5))), (aZ, .inl (cI, 12700, .inl sk)), (aM, .inl (cJ, 12700, .inr (.inl mo)))]) H := hP
  have hD : va_D A ([(md, .inr (6, [.int thr, .ref aK, .ref aW, .ref aH, .ref aD, .ref aS, .ref aO, .ref aZ, .ref aM, .int (nI com), .int (nI the), .int (nI kep), .ref aI, .ref aHt, .ref aDp, .ref aWd, .int mad, .int hei, .int lmt, .int twi, .int tst, .int tor, .int tsh, .int goa, .int mos, .int bes, .int cos, .long tot, .long dep, .long wid, .long shs, .ref aSt])), (aK, .inl (cI, 12700, .inl (upd kd k x0))), (aW, .inl (cI, 12700, .inl (upd wi k x1))), (aH, .inl (cI, 12700, .inl (upd hi k x2))), (aD, .inl (cI, 12700, .inl (upd de k x3))), (aS, .inl (cI, 12700, .inl (upd sh k x4))), (aO, .inl (cI, 12700, .inl (upd od k x5))), (aZ, .inl (cI, 12700, .inl sk)), (aM, .inl (cJ, 12700, .inr (.inl mo)))]) := hD
  refine lv_aload_n hx hb dX6_write_46 rfl (lv_at hl 0 rfl) ?_
  refine my_get X hK in_X6_write_X6 hP 0 rfl rfl 7 (by decide) (List.mem_of_getElem? (i := 7) rfl) rfl dX6_write_47 ?_
  refine lv_iload_n hx hb dX6_write_50 rfl (lv_at hl 1 rfl) ?_
  refine lv_iload hx hb dX6_write_51 (lv_at hl 8 rfl) ?_
  refine my_iast (k := k) hx hb hK hP hD hS 7 rfl (rfl) (by omega) (by omega) dX6_write_53 (fun H locs hP hD hS => ?_)
  have hP : va_P (dC, dI) vwCl ([(md, .inr (6, [.int thr, .ref aK, .ref aW, .ref aH, .ref aD, .ref aS, .ref aO, .ref aZ, .ref aM, .int (nI com), .int (nI the), .int (nI kep), .ref aI, .ref aHt, .ref aDp, .ref aWd, .int mad, .int hei, .int lmt, .int twi, .int tst, .int tor, .int tsh, .int goa, .int mos, .int bes, .int cos, .long tot, .long dep, .long wid, .long shs, .ref aSt])), (aK, .inl (cI, 12700, .inl (upd kd k x0))), (aW, .inl (cI, 12700, .inl (upd wi k x1))), (aH, .inl (cI, 12700, .inl (upd hi k x2))), (aD, .inl (cI, 12700, .inl (upd de k x3))), (aS, .inl (cI, 12700, .inl (upd sh k x4))), (aO, .inl (cI, 12700, .inl (upd od k x5))), (aZ, .inl (cI, 12700, .inl (upd sk k x6))), (aM, .inl (cJ, 12700, .inr (.inl mo)))]) H := hP
  have hD : va_D A ([(md, .inr (6, [.int thr, .ref aK, .ref aW, .ref aH, .ref aD, .ref aS, .ref aO, .ref aZ, .ref aM, .int (nI com), .int (nI the), .int (nI kep), .ref aI, .ref aHt, .ref aDp, .ref aWd, .int mad, .int hei, .int lmt, .int twi, .int tst, .int tor, .int tsh, .int goa, .int mos, .int bes, .int cos, .long tot, .long dep, .long wid, .long shs, .ref aSt])), (aK, .inl (cI, 12700, .inl (upd kd k x0))), (aW, .inl (cI, 12700, .inl (upd wi k x1))), (aH, .inl (cI, 12700, .inl (upd hi k x2))), (aD, .inl (cI, 12700, .inl (upd de k x3))), (aS, .inl (cI, 12700, .inl (upd sh k x4))), (aO, .inl (cI, 12700, .inl (upd od k x5))), (aZ, .inl (cI, 12700, .inl (upd sk k x6))), (aM, .inl (cJ, 12700, .inr (.inl mo)))]) := hD
  refine lv_aload_n hx hb dX6_write_54 rfl (lv_at hl 0 rfl) ?_
  refine my_get X hK in_X6_write_X6 hP 0 rfl rfl 8 (by decide) (List.mem_of_getElem? (i := 8) rfl) rfl dX6_write_55 ?_
  refine lv_iload_n hx hb dX6_write_58 rfl (lv_at hl 1 rfl) ?_
  refine lv_lconst (v := 0) hx hb dX6_write_59 (by decide) ?_
  refine my_last (k := k) hx hb hK hP hD hS 8 rfl (rfl) (by omega) (by omega) dX6_write_60 (fun H locs hP hD hS => ?_)
  have hP : va_P (dC, dI) vwCl ([(md, .inr (6, [.int thr, .ref aK, .ref aW, .ref aH, .ref aD, .ref aS, .ref aO, .ref aZ, .ref aM, .int (nI com), .int (nI the), .int (nI kep), .ref aI, .ref aHt, .ref aDp, .ref aWd, .int mad, .int hei, .int lmt, .int twi, .int tst, .int tor, .int tsh, .int goa, .int mos, .int bes, .int cos, .long tot, .long dep, .long wid, .long shs, .ref aSt])), (aK, .inl (cI, 12700, .inl (upd kd k x0))), (aW, .inl (cI, 12700, .inl (upd wi k x1))), (aH, .inl (cI, 12700, .inl (upd hi k x2))), (aD, .inl (cI, 12700, .inl (upd de k x3))), (aS, .inl (cI, 12700, .inl (upd sh k x4))), (aO, .inl (cI, 12700, .inl (upd od k x5))), (aZ, .inl (cI, 12700, .inl (upd sk k x6))), (aM, .inl (cJ, 12700, .inr (.inl (vp_updL mo k 0))))]) H := hP
  have hD : va_D A ([(md, .inr (6, [.int thr, .ref aK, .ref aW, .ref aH, .ref aD, .ref aS, .ref aO, .ref aZ, .ref aM, .int (nI com), .int (nI the), .int (nI kep), .ref aI, .ref aHt, .ref aDp, .ref aWd, .int mad, .int hei, .int lmt, .int twi, .int tst, .int tor, .int tsh, .int goa, .int mos, .int bes, .int cos, .long tot, .long dep, .long wid, .long shs, .ref aSt])), (aK, .inl (cI, 12700, .inl (upd kd k x0))), (aW, .inl (cI, 12700, .inl (upd wi k x1))), (aH, .inl (cI, 12700, .inl (upd hi k x2))), (aD, .inl (cI, 12700, .inl (upd de k x3))), (aS, .inl (cI, 12700, .inl (upd sh k x4))), (aO, .inl (cI, 12700, .inl (upd od k x5))), (aZ, .inl (cI, 12700, .inl (upd sk k x6))), (aM, .inl (cJ, 12700, .inr (.inl (vp_updL mo k 0))))]) := hD
  exact my_vret (WSf := (fun _ : Unit => [(md, .inr (6, [.int thr, .ref aK, .ref aW, .ref aH, .ref aD, .ref aS, .ref aO, .ref aZ, .ref aM, .int (nI com), .int (nI the), .int (nI kep), .ref aI, .ref aHt, .ref aDp, .ref aWd, .int mad, .int hei, .int lmt, .int twi, .int tst, .int tor, .int tsh, .int goa, .int mos, .int bes, .int cos, .long tot, .long dep, .long wid, .long shs, .ref aSt])), (aK, .inl (cI, 12700, .inl (upd kd k x0))), (aW, .inl (cI, 12700, .inl (upd wi k x1))), (aH, .inl (cI, 12700, .inl (upd hi k x2))), (aD, .inl (cI, 12700, .inl (upd de k x3))), (aS, .inl (cI, 12700, .inl (upd sh k x4))), (aO, .inl (cI, 12700, .inl (upd od k x5))), (aZ, .inl (cI, 12700, .inl (upd sk k x6))), (aM, .inl (cJ, 12700, .inr (.inl (vp_updL mo k 0))))])) () X (trivial) (hP) (hD) hS (by first | decide | omega | (dsimp only; omega)) (by first | decide | omega | (dsimp only; omega)) dX6_write_61
theorem in_X6_move_X6 : ∀ w ∈ wsX60, w ∈ wsX6_move := fun _ h => List.mem_cons_of_mem _ (List.mem_append_right _ h)
set_option maxHeartbeats 200000 in
set_option maxRecDepth 100000 in
theorem m_move (l : Launch) (dC : Nat → ClassId) (dI : Nat → Nat → Nat) (cI cJ cO : ClassId) (hz : Nat) (md : Nat) (thr : Int32) (com : Nat) (the : Nat) (kep : Nat) (mad : Int32) (hei : Int32) (lmt : Int32) (twi : Int32) (tst : Int32) (tor : Int32) (tsh : Int32) (goa : Int32) (mos : Int32) (bes : Int32) (cos : Int32) (tot : Int64) (dep : Int64) (wid : Int64) (shs : Int64) (aK : Nat) (aW : Nat) (aH : Nat) (aD : Nat) (aS : Nat) (aO : Nat) (aZ : Nat) (aM : Nat) (aI : Nat) (aHt : Nat) (aDp : Nat) (aWd : Nat) (aSt : Nat) (kd : Nat → Int32) (wi : Nat → Int32) (hi : Nat → Int32) (de : Nat → Int32) (sh : Nat → Int32) (od : Nat → Int32) (sk : Nat → Int32) (mo : Nat → Int64) (k : Nat) (t : Nat) (hk : k < 12700) (ht : t < 12700) (hkt : k ≠ t) : Met l yX6_move wsX6_move ({ frames := 1, cells := 0, slots := 0, locals := 28 }) (va_Pc [.ref md, .int (nI k), .int (nI t)] (PW dC dI cI cJ cO [(md, .inr (6, [.int thr, .ref aK, .ref aW, .ref aH, .ref aD, .ref aS, .ref aO, .ref aZ, .ref aM, .int (nI com), .int (nI the), .int (nI kep), .ref aI, .ref aHt, .ref aDp, .ref aWd, .int mad, .int hei, .int lmt, .int twi, .int tst, .int tor, .int tsh, .int goa, .int mos, .int bes, .int cos, .long tot, .long dep, .long wid, .long shs, .ref aSt])), (aK, .inl (cI, 12700, .inl kd)), (aW, .inl (cI, 12700, .inl wi)), (aH, .inl (cI, 12700, .inl hi)), (aD, .inl (cI, 12700, .inl de)), (aS, .inl (cI, 12700, .inl sh)), (aO, .inl (cI, 12700, .inl od)), (aZ, .inl (cI, 12700, .inl sk)), (aM, .inl (cJ, 12700, .inr (.inl mo)))] hz)) (va_Qv (fun mo1 : Nat → Int64 => mo1 = (vp_updL mo t (mo k))) (fun (mo1 : Nat → Int64) t9 => BW dC dI (va_A [(md, .inr (6, [.int thr, .ref aK, .ref aW, .ref aH, .ref aD, .ref aS, .ref aO, .ref aZ, .ref aM, .int (nI com), .int (nI the), .int (nI kep), .ref aI, .ref aHt, .ref aDp, .ref aWd, .int mad, .int hei, .int lmt, .int twi, .int tst, .int tor, .int tsh, .int goa, .int mos, .int bes, .int cos, .long tot, .long dep, .long wid, .long shs, .ref aSt])), (aK, .inl (cI, 12700, .inl kd)), (aW, .inl (cI, 12700, .inl wi)), (aH, .inl (cI, 12700, .inl hi)), (aD, .inl (cI, 12700, .inl de)), (aS, .inl (cI, 12700, .inl sh)), (aO, .inl (cI, 12700, .inl od)), (aZ, .inl (cI, 12700, .inl sk)), (aM, .inl (cJ, 12700, .inr (.inl mo)))] hz) [(md, .inr (6, [.int thr, .ref aK, .ref aW, .ref aH, .ref aD, .ref aS, .ref aO, .ref aZ, .ref aM, .int (nI com), .int (nI the), .int (nI kep), .ref aI, .ref aHt, .ref aDp, .ref aWd, .int mad, .int hei, .int lmt, .int twi, .int tst, .int tor, .int tsh, .int goa, .int mos, .int bes, .int cos, .long tot, .long dep, .long wid, .long shs, .ref aSt])), (aK, .inl (cI, 12700, .inl (upd kd t (kd k)))), (aW, .inl (cI, 12700, .inl (upd wi t (wi k)))), (aH, .inl (cI, 12700, .inl (upd hi t (hi k)))), (aD, .inl (cI, 12700, .inl (upd de t (de k)))), (aS, .inl (cI, 12700, .inl (upd sh t (sh k)))), (aO, .inl (cI, 12700, .inl (upd od t (od k)))), (aZ, .inl (cI, 12700, .inl (upd sk t (sk k)))), (aM, .inl (cJ, 12700, .inr (.inl mo1)))] t9) (va_A [(md, .inr (6, [.int thr, .ref aK, .ref aW, .ref aH, .ref aD, .ref aS, .ref aO, .ref aZ, .ref aM, .int (nI com), .int (nI the), .int (nI kep), .ref aI, .ref aHt, .ref aDp, .ref aWd, .int mad, .int hei, .int lmt, .int twi, .int tst, .int tor, .int tsh, .int goa, .int mos, .int bes, .int cos, .long tot, .long dep, .long wid, .long shs, .ref aSt])), (aK, .inl (cI, 12700, .inl kd)), (aW, .inl (cI, 12700, .inl wi)), (aH, .inl (cI, 12700, .inl hi)), (aD, .inl (cI, 12700, .inl de)), (aS, .inl (cI, 12700, .inl sh)), (aO, .inl (cI, 12700, .inl od)), (aZ, .inl (cI, 12700, .inl sk)), (aM, .inl (cJ, 12700, .inr (.inl mo)))] hz)) 0 0 (va_A [(md, .inr (6, [.int thr, .ref aK, .ref aW, .ref aH, .ref aD, .ref aS, .ref aO, .ref aZ, .ref aM, .int (nI com), .int (nI the), .int (nI kep), .ref aI, .ref aHt, .ref aDp, .ref aWd, .int mad, .int hei, .int lmt, .int twi, .int tst, .int tor, .int tsh, .int goa, .int mos, .int bes, .int cos, .long tot, .long dep, .long wid, .long shs, .ref aSt])), (aK, .inl (cI, 12700, .inl kd)), (aW, .inl (cI, 12700, .inl wi)), (aH, .inl (cI, 12700, .inl hi)), (aD, .inl (cI, 12700, .inl de)), (aS, .inl (cI, 12700, .inl sh)), (aO, .inl (cI, 12700, .inl od)), (aZ, .inl (cI, 12700, .inl sk)), (aM, .inl (cJ, 12700, .inr (.inl mo)))] hz) := by
  refine my_metW (ws := wsX6_move) (cc := cX6_move) (maxL := 3) (ret := none) (Qc := fun A => va_Qv (fun mo1 : Nat → Int64 => mo1 = (vp_updL mo t (mo k))) (fun (mo1 : Nat → Int64) t9 => BW dC dI A [(md, .inr (6, [.int thr, .ref aK, .ref aW, .ref aH, .ref aD, .ref aS, .ref aO, .ref aZ, .ref aM, .int (nI com), .int (nI the), .int (nI kep), .ref aI, .ref aHt, .ref aDp, .ref aWd, .int mad, .int hei, .int lmt, .int twi, .int tst, .int tor, .int tsh, .int goa, .int mos, .int bes, .int cos, .long tot, .long dep, .long wid, .long shs, .ref aSt])), (aK, .inl (cI, 12700, .inl (upd kd t (kd k)))), (aW, .inl (cI, 12700, .inl (upd wi t (wi k)))), (aH, .inl (cI, 12700, .inl (upd hi t (hi k)))), (aD, .inl (cI, 12700, .inl (upd de t (de k)))), (aS, .inl (cI, 12700, .inl (upd sh t (sh k)))), (aO, .inl (cI, 12700, .inl (upd od t (od k)))), (aZ, .inl (cI, 12700, .inl (upd sk t (sk k)))), (aM, .inl (cJ, 12700, .inr (.inl mo1)))] t9) A) (by decide) rfl (Nat.le_of_ble_eq_true rfl) ?_
  intro p e s m below meth c ls A X hl hK hA hP hD hS
  obtain ⟨hx, hb, hr, hml, hown, hts, hlocks, hnm⟩ := id X
  have hl : lv_has ls 3 [(0, .ref md), (1, .int (nI k)), (2, .int (nI t))] := hl
  refine lv_aload_n hx hb dX6_move_0 rfl (lv_at hl 0 rfl) ?_
  refine lv_iload_n hx hb dX6_move_1 rfl (lv_at hl 2 rfl) ?_
  refine lv_aload_n hx hb dX6_move_2 rfl (lv_at hl 0 rfl) ?_
  refine my_get X hK in_X6_move_X6 hP 0 rfl rfl 1 (by decide) (List.mem_of_getElem? (i := 1) rfl) rfl dX6_move_3 ?_
  refine lv_iload_n hx hb dX6_move_6 rfl (lv_at hl 1 rfl) ?_
  refine my_iald (k := k) hx hb hK hP 1 rfl (rfl) (by omega) (by omega) dX6_move_7 ?_
  refine lv_aload_n hx hb dX6_move_8 rfl (lv_at hl 0 rfl) ?_
  refine my_get X hK in_X6_move_X6 hP 0 rfl rfl 2 (by decide) (List.mem_of_getElem? (i := 2) rfl) rfl dX6_move_9 ?_
  refine lv_iload_n hx hb dX6_move_12 rfl (lv_at hl 1 rfl) ?_
  refine my_iald (k := k) hx hb hK hP 2 rfl (rfl) (by omega) (by omega) dX6_move_13 ?_
  refine lv_aload_n hx hb dX6_move_14 rfl (lv_at hl 0 rfl) ?_
  refine my_get X hK in_X6_move_X6 hP 0 rfl rfl 3 (by decide) (List.mem_of_getElem? (i := 3) rfl) rfl dX6_move_15 ?_
  refine lv_iload_n hx hb dX6_move_18 rfl (lv_at hl 1 rfl) ?_
  refine my_iald (k := k) hx hb hK hP 3 rfl (rfl) (by omega) (by omega) dX6_move_19 ?_
  refine lv_aload_n hx hb dX6_move_20 rfl (lv_at hl 0 rfl) ?_
  refine my_get X hK in_X6_move_X6 hP 0 rfl rfl 4 (by decide) (List.mem_of_getElem? (i := 4) rfl) rfl dX6_move_21 ?_
  refine lv_iload_n hx hb dX6_move_24 rfl (lv_at hl 1 rfl) ?_
  refine my_iald (k := k) hx hb hK hP 4 rfl (rfl) (by omega) (by omega) dX6_move_25 ?_
  refine lv_aload_n hx hb dX6_move_26 rfl (lv_at hl 0 rfl) ?_
  refine my_get X hK in_X6_move_X6 hP 0 rfl rfl 5 (by decide) (List.mem_of_getElem? (i := 5) rfl) rfl dX6_move_27 ?_
  refine lv_iload_n hx hb dX6_move_30 rfl (lv_at hl 1 rfl) ?_
  refine my_iald (k := k) hx hb hK hP 5 rfl (rfl) (by omega) (by omega) dX6_move_31 ?_
  refine lv_aload_n hx hb dX6_move_32 rfl (lv_at hl 0 rfl) ?_
  refine my_get X hK in_X6_move_X6 hP 0 rfl rfl 6 (by decide) (List.mem_of_getElem? (i := 6) rfl) rfl dX6_move_33 ?_
  refine lv_iload_n hx hb dX6_move_36 rfl (lv_at hl 1 rfl) ?_
  refine my_iald (k := k) hx hb hK hP 6 rfl (rfl) (by omega) (by omega) dX6_move_37 ?_
  refine lv_aload_n hx hb dX6_move_38 rfl (lv_at hl 0 rfl) ?_
  refine my_get X hK in_X6_move_X6 hP 0 rfl rfl 7 (by decide) (List.mem_of_getElem? (i := 7) rfl) rfl dX6_move_39 ?_
  refine lv_iload_n hx hb dX6_move_42 rfl (lv_at hl 1 rfl) ?_
  refine my_iald (k := k) hx hb hK hP 7 rfl (rfl) (by omega) (by omega) dX6_move_43 ?_
  have hPc := hP.sub (ws' := [(md, .inr (6, [.int thr, .ref aK, .ref aW, .ref aH, .ref aD, .ref aS, .ref aO, .ref aZ, .ref aM, .int (nI com), .int (nI the), .int (nI kep), .ref aI, .ref aHt, .ref aDp, .ref aWd, .int mad, .int hei, .int lmt, .int twi, .int tst, .int tor, .int tsh, .int goa, .int mos, .int bes, .int cos, .long tot, .long dep, .long wid, .long shs, .ref aSt])), (aK, .inl (cI, 12700, .inl kd)), (aW, .inl (cI, 12700, .inl wi)), (aH, .inl (cI, 12700, .inl hi)), (aD, .inl (cI, 12700, .inl de)), (aS, .inl (cI, 12700, .inl sh)), (aO, .inl (cI, 12700, .inl od)), (aZ, .inl (cI, 12700, .inl sk)), (aM, .inl (cJ, 12700, .inr (.inl mo)))]) [0, 1, 2, 3, 4, 5, 6, 7, 8] rfl
  have hDc := hD.sub (ws' := [(md, .inr (6, [.int thr, .ref aK, .ref aW, .ref aH, .ref aD, .ref aS, .ref aO, .ref aZ, .ref aM, .int (nI com), .int (nI the), .int (nI kep), .ref aI, .ref aHt, .ref aDp, .ref aWd, .int mad, .int hei, .int lmt, .int twi, .int tst, .int tor, .int tsh, .int goa, .int mos, .int bes, .int cos, .long tot, .long dep, .long wid, .long shs, .ref aSt])), (aK, .inl (cI, 12700, .inl kd)), (aW, .inl (cI, 12700, .inl wi)), (aH, .inl (cI, 12700, .inl hi)), (aD, .inl (cI, 12700, .inl de)), (aS, .inl (cI, 12700, .inl sh)), (aO, .inl (cI, 12700, .inl od)), (aZ, .inl (cI, 12700, .inl sk)), (aM, .inl (cJ, 12700, .inr (.inl mo)))]) [0, 1, 2, 3, 4, 5, 6, 7, 8] (by decide) rfl
  refine my_callv (ws := [(md, .inr (6, [.int thr, .ref aK, .ref aW, .ref aH, .ref aD, .ref aS, .ref aO, .ref aZ, .ref aM, .int (nI com), .int (nI the), .int (nI kep), .ref aI, .ref aHt, .ref aDp, .ref aWd, .int mad, .int hei, .int lmt, .int twi, .int tst, .int tor, .int tsh, .int goa, .int mos, .int bes, .int cos, .long tot, .long dep, .long wid, .long shs, .ref aSt])), (aK, .inl (cI, 12700, .inl kd)), (aW, .inl (cI, 12700, .inl wi)), (aH, .inl (cI, 12700, .inl hi)), (aD, .inl (cI, 12700, .inl de)), (aS, .inl (cI, 12700, .inl sh)), (aO, .inl (cI, 12700, .inl od)), (aZ, .inl (cI, 12700, .inl sk)), (aM, .inl (cJ, 12700, .inr (.inl mo)))]) (F := []) (wr := []) (my_runV (n := 8) (As := [.int (nI t), .int (kd k), .int (wi k), .int (hi k), .int (de k), .int (sh k), .int (od k), .int (sk k)]) (rest := []) (C := RX6) X PW.blind (PW.pre hPc hDc hK) (va_recv hK.1 hPc (ci := 6) (q0 := 0) rfl rfl) (m_write l dC dI cI cJ cO _ md thr com the kep mad hei lmt twi tst tor tsh goa mos bes cos tot dep wid shs aK aW aH aD aS aO aZ aM aI aHt aDp aWd aSt kd wi hi de sh od sk mo t (kd k) (wi k) (hi k) (de k) (sh k) (od k) (sk k) (by omega)) gX6_move_X6_write rfl rfl rfl (by decide +kernel) rfl ⟨Nat.le_of_ble_eq_true rfl, Nat.le_of_ble_eq_true rfl⟩ hl.1 rfl (Nat.le_of_ble_eq_true rfl) dX6_move_44 ⟨by first | decide | omega | (dsimp only; omega), by first | decide | omega | (dsimp only; omega)⟩) hS hP hD hA [0, 1, 2, 3, 4, 5, 6, 7, 8] [] rfl rfl (by decide) (by decide) (fun u H locs hw_1 hP hD hS => ?_)
  have hP : va_P (dC, dI) vwCl [(md, .inr (6, [.int thr, .ref aK, .ref aW, .ref aH, .ref aD, .ref aS, .ref aO, .ref aZ, .ref aM, .int (nI com), .int (nI the), .int (nI kep), .ref aI, .ref aHt, .ref aDp, .ref aWd, .int mad, .int hei, .int lmt, .int twi, .int tst, .int tor, .int tsh, .int goa, .int mos, .int bes, .int cos, .long tot, .long dep, .long wid, .long shs, .ref aSt])), (aK, .inl (cI, 12700, .inl (upd kd t (kd k)))), (aW, .inl (cI, 12700, .inl (upd wi t (wi k)))), (aH, .inl (cI, 12700, .inl (upd hi t (hi k)))), (aD, .inl (cI, 12700, .inl (upd de t (de k)))), (aS, .inl (cI, 12700, .inl (upd sh t (sh k)))), (aO, .inl (cI, 12700, .inl (upd od t (od k)))), (aZ, .inl (cI, 12700, .inl (upd sk t (sk k)))), (aM, .inl (cJ, 12700, .inr (.inl (vp_updL mo t 0))))] H := hP.sub [0, 1, 2, 3, 4, 5, 6, 7, 8] rfl
  have hD : va_D A [(md, .inr (6, [.int thr, .ref aK, .ref aW, .ref aH, .ref aD, .ref aS, .ref aO, .ref aZ, .ref aM, .int (nI com), .int (nI the), .int (nI kep), .ref aI, .ref aHt, .ref aDp, .ref aWd, .int mad, .int hei, .int lmt, .int twi, .int tst, .int tor, .int tsh, .int goa, .int mos, .int bes, .int cos, .long tot, .long dep, .long wid, .long shs, .ref aSt])), (aK, .inl (cI, 12700, .inl (upd kd t (kd k)))), (aW, .inl (cI, 12700, .inl (upd wi t (wi k)))), (aH, .inl (cI, 12700, .inl (upd hi t (hi k)))), (aD, .inl (cI, 12700, .inl (upd de t (de k)))), (aS, .inl (cI, 12700, .inl (upd sh t (sh k)))), (aO, .inl (cI, 12700, .inl (upd od t (od k)))), (aZ, .inl (cI, 12700, .inl (upd sk t (sk k)))), (aM, .inl (cJ, 12700, .inr (.inl (vp_updL mo t 0))))] := hD.sub [0, 1, 2, 3, 4, 5, 6, 7, 8] (by decide) rfl
  refine lv_aload_n hx hb dX6_move_47 rfl (lv_at hl 0 rfl) ?_
  refine my_get X hK in_X6_move_X6 hP 0 rfl rfl 8 (by decide) (List.mem_of_getElem? (i := 8) rfl) rfl dX6_move_48 ?_
  refine lv_iload_n hx hb dX6_move_51 rfl (lv_at hl 2 rfl) ?_
  refine lv_aload_n hx hb dX6_move_52 rfl (lv_at hl 0 rfl) ?_
  refine my_get X hK in_X6_move_X6 hP 0 rfl rfl 8 (by decide) (List.mem_of_getElem? (i := 8) rfl) rfl dX6_move_53 ?_
  refine lv_iload_n hx hb dX6_move_56 rfl (lv_at hl 1 rfl) ?_
  refine my_lald (k := k) hx hb hK hP 8 rfl (rfl) (by omega) (by omega) dX6_move_57 ?_
  refine my_last (k := t) hx hb hK hP hD hS 8 rfl (rfl) (by omega) (by omega) dX6_move_58 (fun H locs hP hD hS => ?_)
  have hP : va_P (dC, dI) vwCl ([(md, .inr (6, [.int thr, .ref aK, .ref aW, .ref aH, .ref aD, .ref aS, .ref aO, .ref aZ, .ref aM, .int (nI com), .int (nI the), .int (nI kep), .ref aI, .ref aHt, .ref aDp, .ref aWd, .int mad, .int hei, .int lmt, .int twi, .int tst, .int tor, .int tsh, .int goa, .int mos, .int bes, .int cos, .long tot, .long dep, .long wid, .long shs, .ref aSt])), (aK, .inl (cI, 12700, .inl (upd kd t (kd k)))), (aW, .inl (cI, 12700, .inl (upd wi t (wi k)))), (aH, .inl (cI, 12700, .inl (upd hi t (hi k)))), (aD, .inl (cI, 12700, .inl (upd de t (de k)))), (aS, .inl (cI, 12700, .inl (upd sh t (sh k)))), (aO, .inl (cI, 12700, .inl (upd od t (od k)))), (aZ, .inl (cI, 12700, .inl (upd sk t (sk k)))), (aM, .inl (cJ, 12700, .inr (.inl (vp_updL (vp_updL mo t 0) t ((vp_updL mo t 0) k)))))]) H := hP
  have hD : va_D A ([(md, .inr (6, [.int thr, .ref aK, .ref aW, .ref aH, .ref aD, .ref aS, .ref aO, .ref aZ, .ref aM, .int (nI com), .int (nI the), .int (nI kep), .ref aI, .ref aHt, .ref aDp, .ref aWd, .int mad, .int hei, .int lmt, .int twi, .int tst, .int tor, .int tsh, .int goa, .int mos, .int bes, .int cos, .long tot, .long dep, .long wid, .long shs, .ref aSt])), (aK, .inl (cI, 12700, .inl (upd kd t (kd k)))), (aW, .inl (cI, 12700, .inl (upd wi t (wi k)))), (aH, .inl (cI, 12700, .inl (upd hi t (hi k)))), (aD, .inl (cI, 12700, .inl (upd de t (de k)))), (aS, .inl (cI, 12700, .inl (upd sh t (sh k)))), (aO, .inl (cI, 12700, .inl (upd od t (od k)))), (aZ, .inl (cI, 12700, .inl (upd sk t (sk k)))), (aM, .inl (cJ, 12700, .inr (.inl (vp_updL (vp_updL mo t 0) t ((vp_updL mo t 0) k)))))]) := hD
  exact my_vret (WSf := (fun mo1 : Nat → Int64 => [(md, .inr (6, [.int thr, .ref aK, .ref aW, .ref aH, .ref aD, .ref aS, .ref aO, .ref aZ, .ref aM, .int (nI com), .int (nI the), .int (nI kep), .ref aI, .ref aHt, .ref aDp, .ref aWd, .int mad, .int hei, .int lmt, .int twi, .int tst, .int tor, .int tsh, .int goa, .int mos, .int bes, .int cos, .long tot, .long dep, .long wid, .long shs, .ref aSt])), (aK, .inl (cI, 12700, .inl (upd kd t (kd k)))), (aW, .inl (cI, 12700, .inl (upd wi t (wi k)))), (aH, .inl (cI, 12700, .inl (upd hi t (hi k)))), (aD, .inl (cI, 12700, .inl (upd de t (de k)))), (aS, .inl (cI, 12700, .inl (upd sh t (sh k)))), (aO, .inl (cI, 12700, .inl (upd od t (od k)))), (aZ, .inl (cI, 12700, .inl (upd sk t (sk k)))), (aM, .inl (cJ, 12700, .inr (.inl mo1)))])) (vp_updL (vp_updL mo t 0) t ((vp_updL mo t 0) k)) X (by rw [updL_2, pk_uLn hkt]) (hP) (hD) hS (by first | decide | omega | (dsimp only; omega)) (by first | decide | omega | (dsimp only; omega)) dX6_move_59
