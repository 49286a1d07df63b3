theorem in_X4_total_X4 : ∀ w ∈ wsX40, w ∈ wsX4_total := fun _ h => List.mem_cons_of_mem _ (List.mem_append_right _ h)
set_option maxHeartbeats 200000 in
set_option maxRecDepth 100000 in
theorem c_total (l : Launch) (dC : Nat → ClassId) (dI : Nat → Nat → Nat) (cI cJ cO : ClassId) (su : Nat) (sa : Nat) (g : Nat → Int64) (z : Int64) (al : Int64) (dp : Int64) (wd : Int64) (lim : Int32)  : Met l yX4_total wsX4_total ({ frames := 0, cells := 0, slots := 0, locals := 0 }) (va_Pc [.ref su] (PR dC dI cI cJ cO [(su, .inr (4, [.ref sa, .long z, .long al, .long dp, .long wd, .int lim])), (sa, .inl (cJ, 4, .inr (.inl g)))])) (vp_Sl (fun r : Int64 => r = al - dp)) 0 0 (fun _ => False) := by
  refine my_met (ws := wsX4_total) (cc := cX4_total) (maxL := 1) (ret := (some .long)) (by decide) rfl (Nat.le_of_ble_eq_true rfl) ?_
  intro p e s m below meth c ls X hl hv
  obtain ⟨hP, hK⟩ := hv
  obtain ⟨hx, hb, hr, hml, hown, hts, hlocks, hnm⟩ := id X
  have hl : lv_has ls 1 [(0, .ref su)] := hl
  refine lv_aload_n hx hb dX4_total_0 rfl (lv_at hl 0 rfl) ?_
  refine my_get X hK in_X4_total_X4 hP 0 rfl rfl 2 (by decide) (List.mem_of_getElem? (i := 1) rfl) rfl dX4_total_1 ?_
  refine lv_aload_n hx hb dX4_total_4 rfl (lv_at hl 0 rfl) ?_
  refine my_get X hK in_X4_total_X4 hP 0 rfl rfl 3 (by decide) (List.mem_of_getElem? (i := 2) rfl) rfl dX4_total_5 ?_
  refine lv_lsub hx hb dX4_total_8 ?_
  exact my_lretR X (rfl) dX4_total_9
theorem in_X4_stretchOf_X4 : ∀ w ∈ wsX40, w ∈ wsX4_stretchOf := fun _ h => List.mem_cons_of_mem _ (List.mem_append_right _ h)
set_option maxHeartbeats 200000 in
set_option maxRecDepth 100000 in
theorem c_stretchOf (l : Launch) (dC : Nat → ClassId) (dI : Nat → Nat → Nat) (cI cJ cO : ClassId) (su : Nat) (sa : Nat) (g : Nat → Int64) (z : Int64) (al : Int64) (dp : Int64) (wd : Int64) (lim : Int32) (o : Int32)  : Met l yX4_stretchOf wsX4_stretchOf ({ frames := 0, cells := 0, slots := 0, locals := 0 }) (va_Pc [.ref su, .int o] (PR dC dI cI cJ cO [(su, .inr (4, [.ref sa, .long z, .long al, .long dp, .long wd, .int lim])), (sa, .inl (cJ, 4, .inr (.inl g)))])) (vp_Sl (fun r : Int64 => r = soF g o)) 0 0 (fun _ => False) := by
  refine my_met (ws := wsX4_stretchOf) (cc := cX4_stretchOf) (maxL := 2) (ret := (some .long)) (by decide) rfl (Nat.le_of_ble_eq_true rfl) ?_
  intro p e s m below meth c ls X hl hv
  obtain ⟨hP, hK⟩ := hv
  obtain ⟨hx, hb, hr, hml, hown, hts, hlocks, hnm⟩ := id X
  have hl : lv_has ls 2 [(0, .ref su), (1, .int o)] := hl
  refine lv_iload_n hx hb dX4_stretchOf_0 rfl (lv_at hl 1 rfl) ?_
  refine lv_if_lt (tgt := 18) hx hb dX4_stretchOf_1 (by decide) (fun c_1 => ?_) (fun c_1 => ?_)
  · refine lv_lconst (v := 0) hx hb dX4_stretchOf_18 (by decide) ?_
    exact my_lretR X (by simp [soF, c_1]) dX4_stretchOf_19
  · refine lv_iload_n hx hb dX4_stretchOf_4 rfl (lv_at hl 1 rfl) ?_
    refine lv_iconst (v := 4) hx hb dX4_stretchOf_5 (by decide) ?_
    refine lv_icmp_ge (tgt := 18) hx hb dX4_stretchOf_6 (by decide) (fun c_6 => ?_) (fun c_6 => ?_)
    · refine lv_lconst (v := 0) hx hb dX4_stretchOf_18 (by decide) ?_
      exact my_lretR X (by simp [soF, c_1, c_6]) dX4_stretchOf_19
    · obtain ⟨jo, hjo, ejo⟩ := ix4 c_1 c_6
      rw [ejo] at hl
      refine lv_aload_n hx hb dX4_stretchOf_9 rfl (lv_at hl 0 rfl) ?_
      refine my_get X hK in_X4_stretchOf_X4 hP 0 rfl rfl 0 (by decide) (List.mem_of_getElem? (i := 1) rfl) rfl dX4_stretchOf_10 ?_
      refine lv_iload_n hx hb dX4_stretchOf_13 rfl (lv_at hl 1 rfl) ?_
      refine my_lald (k := jo) hx hb hK hP 1 rfl (rfl) (by omega) (by omega) dX4_stretchOf_14 ?_
      refine lv_goto (tgt := 19) hx hb dX4_stretchOf_15 (by decide) ?_
      exact my_lretR X (by rw [ejo]; simp only [soF, nI_clamp (show jo < 2 ^ 31 by omega)]; rw [if_pos ⟨nI_pos (by omega), by intro q; exact absurd (nc_le (a := 4) (b := jo) q (by decide) (by omega)) (by omega)⟩]) dX4_stretchOf_19
theorem in_X4_highestOrder_X4 : ∀ w ∈ wsX40, w ∈ wsX4_highestOrder := fun _ h => List.mem_cons_of_mem _ (List.mem_append_right _ h)
set_option maxHeartbeats 200000 in
set_option maxRecDepth 100000 in
theorem c_highestOrder (l : Launch) (dC : Nat → ClassId) (dI : Nat → Nat → Nat) (cI cJ cO : ClassId) (su : Nat) (sa : Nat) (g : Nat → Int64) (z : Int64) (al : Int64) (dp : Int64) (wd : Int64) (lim : Int32)  : Met l yX4_highestOrder wsX4_highestOrder ({ frames := 0, cells := 0, slots := 0, locals := 0 }) (va_Pc [.ref su] (PR dC dI cI cJ cO [(su, .inr (4, [.ref sa, .long z, .long al, .long dp, .long wd, .int lim])), (sa, .inl (cJ, 4, .inr (.inl g)))])) (vp_Si (fun r : Int32 => r = hiO g)) 0 0 (fun _ => False) := by
  refine my_met (ws := wsX4_highestOrder) (cc := cX4_highestOrder) (maxL := 2) (ret := (some .int)) (by decide) rfl (Nat.le_of_ble_eq_true rfl) ?_
  intro p e s m below meth c ls X hl hv
  obtain ⟨hP, hK⟩ := hv
  obtain ⟨hx, hb, hr, hml, hown, hts, hlocks, hnm⟩ := id X
  have hl : lv_has ls 2 [(0, .ref su)] := hl
  refine lv_iconst (v := 3) hx hb dX4_highestOrder_0 (by decide) ?_
  refine lv_istore_n (lv' := [(1, .int 3), (0, .ref su)]) hx hb dX4_highestOrder_1 rfl hl (by decide) rfl (fun ls hl => ?_)
  refine lv_iload_n hx hb dX4_highestOrder_2 rfl (lv_at hl 0 rfl) ?_
  refine lv_if_lt (tgt := 25) hx hb dX4_highestOrder_3 (by decide) (fun c_3 => ?_) (fun c_3 => ?_)
  · exact absurd c_3 (by decide)
  · have c_3 := nc_nlt (a := 3) (b := 0) c_3 (by omega) (by omega)
    refine lv_aload_n hx hb dX4_highestOrder_6 rfl (lv_at hl 1 rfl) ?_
    refine my_get X hK in_X4_highestOrder_X4 hP 0 rfl rfl 0 (by decide) (List.mem_of_getElem? (i := 1) rfl) rfl dX4_highestOrder_7 ?_
    refine lv_iload_n hx hb dX4_highestOrder_10 rfl (lv_at hl 0 rfl) ?_
    refine my_lald (k := 3) hx hb hK hP 1 rfl (rfl) (by omega) (by omega) dX4_highestOrder_11 ?_
    refine lv_lconst (v := 0) hx hb dX4_highestOrder_12 (by decide) ?_
    refine my_lif_le (tgt := 19) hx hb dX4_highestOrder_13 dX4_highestOrder_14 (by decide) (fun c_13 => ?_) (fun c_13 => ?_)
    · refine lv_iinc (v := nI 2) (lv' := [(1, .int (nI 2)), (0, .ref su)]) hx hb dX4_highestOrder_19 hl (k := 0) rfl (by decide) (by decide) rfl (fun ls hl => ?_)
      refine lv_goto (tgt := 2) hx hb dX4_highestOrder_22 (by decide) ?_
      refine lv_iload_n hx hb dX4_highestOrder_2 rfl (lv_at hl 0 rfl) ?_
      refine lv_if_lt (tgt := 25) hx hb dX4_highestOrder_3 (by decide) (fun c_3 => ?_) (fun c_3 => ?_)
      · exact absurd c_3 (by decide)
      · have c_3 := nc_nlt (a := 2) (b := 0) c_3 (by omega) (by omega)
        refine lv_aload_n hx hb dX4_highestOrder_6 rfl (lv_at hl 1 rfl) ?_
        refine my_get X hK in_X4_highestOrder_X4 hP 0 rfl rfl 0 (by decide) (List.mem_of_getElem? (i := 1) rfl) rfl dX4_highestOrder_7 ?_
        refine lv_iload_n hx hb dX4_highestOrder_10 rfl (lv_at hl 0 rfl) ?_
        refine my_lald (k := 2) hx hb hK hP 1 rfl (rfl) (by omega) (by omega) dX4_highestOrder_11 ?_
        refine lv_lconst (v := 0) hx hb dX4_highestOrder_12 (by decide) ?_
        refine my_lif_le (tgt := 19) hx hb dX4_highestOrder_13 dX4_highestOrder_14 (by decide) (fun c_13x => ?_) (fun c_13x => ?_)
        · refine lv_iinc (v := nI 1) (lv' := [(1, .int (nI 1)), (0, .ref su)]) hx hb dX4_highestOrder_19 hl (k := 0) rfl (by decide) (by decide) rfl (fun ls hl => ?_)
          refine lv_goto (tgt := 2) hx hb dX4_highestOrder_22 (by decide) ?_
          refine lv_iload_n hx hb dX4_highestOrder_2 rfl (lv_at hl 0 rfl) ?_
          refine lv_if_lt (tgt := 25) hx hb dX4_highestOrder_3 (by decide) (fun c_3 => ?_) (fun c_3 => ?_)
          · exact absurd c_3 (by decide)
          · have c_3 := nc_nlt (a := 1) (b := 0) c_3 (by omega) (by omega)
            refine lv_aload_n hx hb dX4_highestOrder_6 rfl (lv_at hl 1 rfl) ?_
            refine my_get X hK in_X4_highestOrder_X4 hP 0 rfl rfl 0 (by decide) (List.mem_of_getElem? (i := 1) rfl) rfl dX4_highestOrder_7 ?_
            refine lv_iload_n hx hb dX4_highestOrder_10 rfl (lv_at hl 0 rfl) ?_
            refine my_lald (k := 1) hx hb hK hP 1 rfl (rfl) (by omega) (by omega) dX4_highestOrder_11 ?_
            refine lv_lconst (v := 0) hx hb dX4_highestOrder_12 (by decide) ?_
            refine my_lif_le (tgt := 19) hx hb dX4_highestOrder_13 dX4_highestOrder_14 (by decide) (fun c_13xx => ?_) (fun c_13xx => ?_)
            · refine lv_iinc (v := nI 0) (lv' := [(1, .int (nI 0)), (0, .ref su)]) hx hb dX4_highestOrder_19 hl (k := 0) rfl (by decide) (by decide) rfl (fun ls hl => ?_)
              refine lv_goto (tgt := 2) hx hb dX4_highestOrder_22 (by decide) ?_
              refine lv_iload_n hx hb dX4_highestOrder_2 rfl (lv_at hl 0 rfl) ?_
              refine lv_if_lt (tgt := 25) hx hb dX4_highestOrder_3 (by decide) (fun c_3 => ?_) (fun c_3 => ?_)
              · exact absurd c_3 (by decide)
              · have c_3 := nc_nlt (a := 0) (b := 0) c_3 (by omega) (by omega)
                refine lv_aload_n hx hb dX4_highestOrder_6 rfl (lv_at hl 1 rfl) ?_
                refine my_get X hK in_X4_highestOrder_X4 hP 0 rfl rfl 0 (by decide) (List.mem_of_getElem? (i := 1) rfl) rfl dX4_highestOrder_7 ?_
                refine lv_iload_n hx hb dX4_highestOrder_10 rfl (lv_at hl 0 rfl) ?_
                refine my_lald (k := 0) hx hb hK hP 1 rfl (rfl) (by omega) (by omega) dX4_highestOrder_11 ?_
                refine lv_lconst (v := 0) hx hb dX4_highestOrder_12 (by decide) ?_
                refine my_lif_le (tgt := 19) hx hb dX4_highestOrder_13 dX4_highestOrder_14 (by decide) (fun c_13xxx => ?_) (fun c_13xxx => ?_)
                · refine lv_iinc (v := (-1)) (lv' := [(1, .int (-1)), (0, .ref su)]) hx hb dX4_highestOrder_19 hl (k := 0) rfl (by decide) (by decide) rfl (fun ls hl => ?_)
                  refine lv_goto (tgt := 2) hx hb dX4_highestOrder_22 (by decide) ?_
                  refine lv_iload_n hx hb dX4_highestOrder_2 rfl (lv_at hl 0 rfl) ?_
                  refine lv_if_lt (tgt := 25) hx hb dX4_highestOrder_3 (by decide) (fun c_3 => ?_) (fun c_3 => ?_)
                  · refine lv_iconst (v := (-1)) hx hb dX4_highestOrder_25 (by decide) ?_
                    exact my_iretR X (by simp [hiO, nI, c_13, c_13x, c_13xx, c_13xxx] <;> rfl) dX4_highestOrder_26
                  · exact absurd c_3 (by decide)
                · refine lv_iload_n hx hb dX4_highestOrder_17 rfl (lv_at hl 0 rfl) ?_
                  exact my_iretR X (by simp [hiO, nI, c_13, c_13x, c_13xx, c_13xxx] <;> rfl) dX4_highestOrder_18
            · refine lv_iload_n hx hb dX4_highestOrder_17 rfl (lv_at hl 0 rfl) ?_
              exact my_iretR X (by simp [hiO, nI, c_13, c_13x, c_13xx] <;> rfl) dX4_highestOrder_18
        · refine lv_iload_n hx hb dX4_highestOrder_17 rfl (lv_at hl 0 rfl) ?_
          exact my_iretR X (by simp [hiO, nI, c_13, c_13x] <;> rfl) dX4_highestOrder_18
    · refine lv_iload_n hx hb dX4_highestOrder_17 rfl (lv_at hl 0 rfl) ?_
      exact my_iretR X (by simp [hiO, nI, c_13] <;> rfl) dX4_highestOrder_18
theorem in_X4_areSizes_X4 : ∀ w ∈ wsX40, w ∈ wsX4_areSizes := fun _ h => List.mem_cons_of_mem _ (List.mem_append_right _ h)
set_option maxHeartbeats 200000 in
set_option maxRecDepth 100000 in
theorem c_areSizes (l : Launch) (dC : Nat → ClassId) (dI : Nat → Nat → Nat) (cI cJ cO : ClassId) (su : Nat) (sa : Nat) (g : Nat → Int64) (z : Int64) (al : Int64) (dp : Int64) (wd : Int64) (lim : Int32)  : Met l yX4_areSizes wsX4_areSizes ({ frames := 1, cells := 0, slots := 0, locals := 21 }) (va_Pc [.ref su] (PR dC dI cI cJ cO [(su, .inr (4, [.ref sa, .long z, .long al, .long dp, .long wd, .int lim])), (sa, .inl (cJ, 4, .inr (.inl g)))])) (vp_Si (fun r : Int32 => r = arS g (al - dp) z wd)) 0 0 (fun _ => False) := by
  refine my_met (ws := wsX4_areSizes) (cc := cX4_areSizes) (maxL := 2) (ret := (some .boolean)) (by decide) rfl (Nat.le_of_ble_eq_true rfl) ?_
  intro p e s m below meth c ls X hl hv
  obtain ⟨hP, hK⟩ := hv
  obtain ⟨hx, hb, hr, hml, hown, hts, hlocks, hnm⟩ := id X
  have hl : lv_has ls 2 [(0, .ref su)] := hl
  refine lv_iconst (v := 0) hx hb dX4_areSizes_0 (by decide) ?_
  refine lv_istore_n (lv' := [(1, .int 0), (0, .ref su)]) hx hb dX4_areSizes_1 rfl hl (by decide) rfl (fun ls hl => ?_)
  refine lv_iload_n hx hb dX4_areSizes_2 rfl (lv_at hl 0 rfl) ?_
  refine lv_iconst (v := 4) hx hb dX4_areSizes_3 (by decide) ?_
  refine lv_icmp_ge (tgt := 27) hx hb dX4_areSizes_4 (by decide) (fun c_4 => ?_) (fun c_4 => ?_)
  · exact absurd c_4 (by decide)
  · have c_4 := nc_nle (a := 4) (b := 0) c_4 (by omega) (by omega)
    refine lv_aload_n hx hb dX4_areSizes_7 rfl (lv_at hl 1 rfl) ?_
    refine my_get X hK in_X4_areSizes_X4 hP 0 rfl rfl 0 (by decide) (List.mem_of_getElem? (i := 1) rfl) rfl dX4_areSizes_8 ?_
    refine lv_iload_n hx hb dX4_areSizes_11 rfl (lv_at hl 0 rfl) ?_
    refine my_lald (k := 0) hx hb hK hP 1 rfl (rfl) (by omega) (by omega) dX4_areSizes_12 ?_
    have hPc := hP.sub (ws' := []) [] rfl
    refine my_rdi (my_runSN (n := 1) (As := [.long (g 0)]) (rest := []) X hK PR.blind (PR.pre hPc hK) (c_isSize l dC dI cI cJ cO (g 0) ) gX4_areSizes_X5_isSize_n60 rfl rfl rfl 7 rfl (List.mem_of_getElem? (i := 5) rfl) (List.mem_of_getElem? (i := 4) rfl) (by decide +kernel) rfl ⟨Nat.le_of_ble_eq_true rfl, Nat.le_of_ble_eq_true rfl⟩ hl.1 rfl (Nat.le_of_ble_eq_true rfl) dX4_areSizes_13 ⟨by first | decide | omega | (dsimp only; omega), by first | decide | omega | (dsimp only; omega)⟩) (fun r_1 hr_1 => ?_)
    subst hr_1
    refine lv_if_ne (tgt := 21) hx hb dX4_areSizes_16 (by decide) (fun c_16 => ?_) (fun c_16 => ?_)
    · have c_16 := b01n (szL_01 (g 0)) c_16
      refine lv_iinc (v := nI 1) (lv' := [(1, .int (nI 1)), (0, .ref su)]) hx hb dX4_areSizes_21 hl (k := 0) rfl (by decide) (by decide) rfl (fun ls hl => ?_)
      refine lv_goto (tgt := 2) hx hb dX4_areSizes_24 (by decide) ?_
      refine lv_iload_n hx hb dX4_areSizes_2 rfl (lv_at hl 0 rfl) ?_
      refine lv_iconst (v := 4) hx hb dX4_areSizes_3 (by decide) ?_
      refine lv_icmp_ge (tgt := 27) hx hb dX4_areSizes_4 (by decide) (fun c_4 => ?_) (fun c_4 => ?_)
      · exact absurd c_4 (by decide)
      · have c_4 := nc_nle (a := 4) (b := 1) c_4 (by omega) (by omega)
        refine lv_aload_n hx hb dX4_areSizes_7 rfl (lv_at hl 1 rfl) ?_
        refine my_get X hK in_X4_areSizes_X4 hP 0 rfl rfl 0 (by decide) (List.mem_of_getElem? (i := 1) rfl) rfl dX4_areSizes_8 ?_
        refine lv_iload_n hx hb dX4_areSizes_11 rfl (lv_at hl 0 rfl) ?_
        refine my_lald (k := 1) hx hb hK hP 1 rfl (rfl) (by omega) (by omega) dX4_areSizes_12 ?_
        have hPc := hP.sub (ws' := []) [] rfl
        refine my_rdi (my_runSN (n := 1) (As := [.long (g 1)]) (rest := []) X hK PR.blind (PR.pre hPc hK) (c_isSize l dC dI cI cJ cO (g 1) ) gX4_areSizes_X5_isSize_n60 rfl rfl rfl 7 rfl (List.mem_of_getElem? (i := 5) rfl) (List.mem_of_getElem? (i := 4) rfl) (by decide +kernel) rfl ⟨Nat.le_of_ble_eq_true rfl, Nat.le_of_ble_eq_true rfl⟩ hl.1 rfl (Nat.le_of_ble_eq_true rfl) dX4_areSizes_13 ⟨by first | decide | omega | (dsimp only; omega), by first | decide | omega | (dsimp only; omega)⟩) (fun r_2 hr_2 => ?_)
        subst hr_2
        refine lv_if_ne (tgt := 21) hx hb dX4_areSizes_16 (by decide) (fun c_16x => ?_) (fun c_16x => ?_)
        · have c_16x := b01n (szL_01 (g 1)) c_16x
          refine lv_iinc (v := nI 2) (lv' := [(1, .int (nI 2)), (0, .ref su)]) hx hb dX4_areSizes_21 hl (k := 0) rfl (by decide) (by decide) rfl (fun ls hl => ?_)
          refine lv_goto (tgt := 2) hx hb dX4_areSizes_24 (by decide) ?_
          refine lv_iload_n hx hb dX4_areSizes_2 rfl (lv_at hl 0 rfl) ?_
          refine lv_iconst (v := 4) hx hb dX4_areSizes_3 (by decide) ?_
          refine lv_icmp_ge (tgt := 27) hx hb dX4_areSizes_4 (by decide) (fun c_4 => ?_) (fun c_4 => ?_)
          · exact absurd c_4 (by decide)
          · have c_4 := nc_nle (a := 4) (b := 2) c_4 (by omega) (by omega)
            refine lv_aload_n hx hb dX4_areSizes_7 rfl (lv_at hl 1 rfl) ?_
            refine my_get X hK in_X4_areSizes_X4 hP 0 rfl rfl 0 (by decide) (List.mem_of_getElem? (i := 1) rfl) rfl dX4_areSizes_8 ?_
            refine lv_iload_n hx hb dX4_areSizes_11 rfl (lv_at hl 0 rfl) ?_
            refine my_lald (k := 2) hx hb hK hP 1 rfl (rfl) (by omega) (by omega) dX4_areSizes_12 ?_
            have hPc := hP.sub (ws' := []) [] rfl
            refine my_rdi (my_runSN (n := 1) (As := [.long (g 2)]) (rest := []) X hK PR.blind (PR.pre hPc hK) (c_isSize l dC dI cI cJ cO (g 2) ) gX4_areSizes_X5_isSize_n60 rfl rfl rfl 7 rfl (List.mem_of_getElem? (i := 5) rfl) (List.mem_of_getElem? (i := 4) rfl) (by decide +kernel) rfl ⟨Nat.le_of_ble_eq_true rfl, Nat.le_of_ble_eq_true rfl⟩ hl.1 rfl (Nat.le_of_ble_eq_true rfl) dX4_areSizes_13 ⟨by first | decide | omega | (dsimp only; omega), by first | decide | omega | (dsimp only; omega)⟩) (fun r_3 hr_3 => ?_)
            subst hr_3
            refine lv_if_ne (tgt := 21) hx hb dX4_areSizes_16 (by decide) (fun c_16xx => ?_) (fun c_16xx => ?_)
            · have c_16xx := b01n (szL_01 (g 2)) c_16xx
              refine lv_iinc (v := nI 3) (lv' := [(1, .int (nI 3)), (0, .ref su)]) hx hb dX4_areSizes_21 hl (k := 0) rfl (by decide) (by decide) rfl (fun ls hl => ?_)
              refine lv_goto (tgt := 2) hx hb dX4_areSizes_24 (by decide) ?_
              refine lv_iload_n hx hb dX4_areSizes_2 rfl (lv_at hl 0 rfl) ?_
              refine lv_iconst (v := 4) hx hb dX4_areSizes_3 (by decide) ?_
              refine lv_icmp_ge (tgt := 27) hx hb dX4_areSizes_4 (by decide) (fun c_4 => ?_) (fun c_4 => ?_)
              · exact absurd c_4 (by decide)
              · have c_4 := nc_nle (a := 4) (b := 3) c_4 (by omega) (by omega)
                refine lv_aload_n hx hb dX4_areSizes_7 rfl (lv_at hl 1 rfl) ?_
                refine my_get X hK in_X4_areSizes_X4 hP 0 rfl rfl 0 (by decide) (List.mem_of_getElem? (i := 1) rfl) rfl dX4_areSizes_8 ?_
                refine lv_iload_n hx hb dX4_areSizes_11 rfl (lv_at hl 0 rfl) ?_
                refine my_lald (k := 3) hx hb hK hP 1 rfl (rfl) (by omega) (by omega) dX4_areSizes_12 ?_
                have hPc := hP.sub (ws' := []) [] rfl
                refine my_rdi (my_runSN (n := 1) (As := [.long (g 3)]) (rest := []) X hK PR.blind (PR.pre hPc hK) (c_isSize l dC dI cI cJ cO (g 3) ) gX4_areSizes_X5_isSize_n60 rfl rfl rfl 7 rfl (List.mem_of_getElem? (i := 5) rfl) (List.mem_of_getElem? (i := 4) rfl) (by decide +kernel) rfl ⟨Nat.le_of_ble_eq_true rfl, Nat.le_of_ble_eq_true rfl⟩ hl.1 rfl (Nat.le_of_ble_eq_true rfl) dX4_areSizes_13 ⟨by first | decide | omega | (dsimp only; omega), by first | decide | omega | (dsimp only; omega)⟩) (fun r_4 hr_4 => ?_)
                subst hr_4
                refine lv_if_ne (tgt := 21) hx hb dX4_areSizes_16 (by decide) (fun c_16xxx => ?_) (fun c_16xxx => ?_)
                · have c_16xxx := b01n (szL_01 (g 3)) c_16xxx
                  refine lv_iinc (v := nI 4) (lv' := [(1, .int (nI 4)), (0, .ref su)]) hx hb dX4_areSizes_21 hl (k := 0) rfl (by decide) (by decide) rfl (fun ls hl => ?_)
                  refine lv_goto (tgt := 2) hx hb dX4_areSizes_24 (by decide) ?_
                  refine lv_iload_n hx hb dX4_areSizes_2 rfl (lv_at hl 0 rfl) ?_
                  refine lv_iconst (v := 4) hx hb dX4_areSizes_3 (by decide) ?_
                  refine lv_icmp_ge (tgt := 27) hx hb dX4_areSizes_4 (by decide) (fun c_4 => ?_) (fun c_4 => ?_)
                  · have c_4 := nc_le (a := 4) (b := 4) c_4 (by omega) (by omega)
                    refine lv_aload_n hx hb dX4_areSizes_27 rfl (lv_at hl 1 rfl) ?_
                    have hPc := hP.sub (ws' := [(su, .inr (4, [.ref sa, .long z, .long al, .long dp, .long wd, .int lim])), (sa, .inl (cJ, 4, .inr (.inl g)))]) [0, 1] rfl
                    refine my_rdl (my_runV (n := 0) (As := []) (rest := []) (C := RX4) X PR.blind (PR.pre hPc hK) (va_recv hK.1 hPc (ci := 4) (q0 := 0) rfl rfl) (c_total l dC dI cI cJ cO su sa g z al dp wd lim ) gX4_areSizes_X4_total rfl rfl rfl (by decide +kernel) rfl ⟨Nat.le_of_ble_eq_true rfl, Nat.le_of_ble_eq_true rfl⟩ hl.1 rfl (Nat.le_of_ble_eq_true rfl) dX4_areSizes_28 ⟨by first | decide | omega | (dsimp only; omega), by first | decide | omega | (dsimp only; omega)⟩) (fun r_5 hr_5 => ?_)
                    subst hr_5
                    have hPc := hP.sub (ws' := []) [] rfl
                    refine my_rdi (my_runSN (n := 1) (As := [.long (al - dp)]) (rest := []) X hK PR.blind (PR.pre hPc hK) (c_isSize l dC dI cI cJ cO (al - dp) ) gX4_areSizes_X5_isSize_n60 rfl rfl rfl 7 rfl (List.mem_of_getElem? (i := 5) rfl) (List.mem_of_getElem? (i := 4) rfl) (by decide +kernel) rfl ⟨Nat.le_of_ble_eq_true rfl, Nat.le_of_ble_eq_true rfl⟩ hl.1 rfl (Nat.le_of_ble_eq_true rfl) dX4_areSizes_31 ⟨by first | decide | omega | (dsimp only; omega), by first | decide | omega | (dsimp only; omega)⟩) (fun r_6 hr_6 => ?_)
                    subst hr_6
                    refine lv_if_eq (tgt := 61) hx hb dX4_areSizes_34 (by decide) (fun c_34 => ?_) (fun c_34 => ?_)
                    · refine lv_iconst (v := 0) hx hb dX4_areSizes_61 (by decide) ?_
                      exact my_zretR X rfl (by simp [arS, c_16, c_16x, c_16xx, c_16xxx, c_34]) dX4_areSizes_62
                    · have c_34 := b01n (szL_01 (al - dp)) c_34
                      refine lv_aload_n hx hb dX4_areSizes_37 rfl (lv_at hl 1 rfl) ?_
                      refine my_get X hK in_X4_areSizes_X4 hP 0 rfl rfl 1 (by decide) (List.mem_of_getElem? (i := 2) rfl) rfl dX4_areSizes_38 ?_
                      have hPc := hP.sub (ws' := []) [] rfl
                      refine my_rdi (my_runSN (n := 1) (As := [.long z]) (rest := []) X hK PR.blind (PR.pre hPc hK) (c_isSize l dC dI cI cJ cO z ) gX4_areSizes_X5_isSize_n60 rfl rfl rfl 7 rfl (List.mem_of_getElem? (i := 5) rfl) (List.mem_of_getElem? (i := 4) rfl) (by decide +kernel) rfl ⟨Nat.le_of_ble_eq_true rfl, Nat.le_of_ble_eq_true rfl⟩ hl.1 rfl (Nat.le_of_ble_eq_true rfl) dX4_areSizes_41 ⟨by first | decide | omega | (dsimp only; omega), by first | decide | omega | (dsimp only; omega)⟩) (fun r_7 hr_7 => ?_)
                      subst hr_7
                      refine lv_if_eq (tgt := 61) hx hb dX4_areSizes_44 (by decide) (fun c_44 => ?_) (fun c_44 => ?_)
                      · refine lv_iconst (v := 0) hx hb dX4_areSizes_61 (by decide) ?_
                        exact my_zretR X rfl (by simp [arS, c_16, c_16x, c_16xx, c_16xxx, c_34, c_44]) dX4_areSizes_62
                      · have c_44 := b01n (szL_01 z) c_44
                        refine lv_aload_n hx hb dX4_areSizes_47 rfl (lv_at hl 1 rfl) ?_
                        refine my_get X hK in_X4_areSizes_X4 hP 0 rfl rfl 4 (by decide) (List.mem_of_getElem? (i := 3) rfl) rfl dX4_areSizes_48 ?_
                        have hPc := hP.sub (ws' := []) [] rfl
                        refine my_rdi (my_runSN (n := 1) (As := [.long wd]) (rest := []) X hK PR.blind (PR.pre hPc hK) (c_isSize l dC dI cI cJ cO wd ) gX4_areSizes_X5_isSize_n60 rfl rfl rfl 7 rfl (List.mem_of_getElem? (i := 5) rfl) (List.mem_of_getElem? (i := 4) rfl) (by decide +kernel) rfl ⟨Nat.le_of_ble_eq_true rfl, Nat.le_of_ble_eq_true rfl⟩ hl.1 rfl (Nat.le_of_ble_eq_true rfl) dX4_areSizes_51 ⟨by first | decide | omega | (dsimp only; omega), by first | decide | omega | (dsimp only; omega)⟩) (fun r_8 hr_8 => ?_)
                        subst hr_8
                        refine lv_if_eq (tgt := 61) hx hb dX4_areSizes_54 (by decide) (fun c_54 => ?_) (fun c_54 => ?_)
                        · refine lv_iconst (v := 0) hx hb dX4_areSizes_61 (by decide) ?_
                          exact my_zretR X rfl (by simp [arS, c_16, c_16x, c_16xx, c_16xxx, c_34, c_44, c_54]) dX4_areSizes_62
                        · have c_54 := b01n (szL_01 wd) c_54
                          refine lv_iconst (v := 1) hx hb dX4_areSizes_57 (by decide) ?_
                          refine lv_goto (tgt := 62) hx hb dX4_areSizes_58 (by decide) ?_
                          exact my_zretR X rfl (by simp [arS, c_16, c_16x, c_16xx, c_16xxx, c_34, c_44, c_54]) dX4_areSizes_62
                  · exact absurd c_4 (by decide)
                · refine lv_iconst (v := 0) hx hb dX4_areSizes_19 (by decide) ?_
                  exact my_zretR X rfl (by simp [arS, c_16, c_16x, c_16xx, c_16xxx]) dX4_areSizes_20
            · refine lv_iconst (v := 0) hx hb dX4_areSizes_19 (by decide) ?_
              exact my_zretR X rfl (by simp [arS, c_16, c_16x, c_16xx]) dX4_areSizes_20
        · refine lv_iconst (v := 0) hx hb dX4_areSizes_19 (by decide) ?_
          exact my_zretR X rfl (by simp [arS, c_16, c_16x]) dX4_areSizes_20
    · refine lv_iconst (v := 0) hx hb dX4_areSizes_19 (by decide) ?_
      exact my_zretR X rfl (by simp [arS, c_16]) dX4_areSizes_20
theorem in_X4_takeGlue_X4 : ∀ w ∈ wsX40, w ∈ wsX4_takeGlue := fun _ h => List.mem_cons_of_mem _ (List.mem_append_left _ (List.mem_append_right _ h))
set_option maxHeartbeats 200000 in
set_option maxRecDepth 100000 in
theorem c_takeGlue (l : Launch) (dC : Nat → ClassId) (dI : Nat → Nat → Nat) (cI cJ cO : ClassId) (hz : Nat) (su : Nat) (sa : Nat) (g : Nat → Int64) (z : Int64) (al : Int64) (dp : Int64) (wd : Int64) (lim : Int32) (o : Nat) (ar : Nat) (cap : Nat) (f : Nat → Int32) (sz : Nat) (k : Nat) (hk : k < sz) (hsz : sz ≤ cap) (hcap : cap ≤ 4001) : Met l yX4_takeGlue wsX4_takeGlue ({ frames := 1, cells := 0, slots := 0, locals := 23 }) (va_Pc [.ref su, .ref o, .int (nI k)] (PW dC dI cI cJ cO [(su, .inr (4, [.ref sa, .long z, .long al, .long dp, .long wd, .int lim])), (sa, .inl (cJ, 4, .inr (.inl g))), (o, .inr (0, [.ref ar, .int (nI sz)])), (ar, .inl (cI, (cap * 8), .inl f))] hz)) (va_Qv (fun g1 : Nat → Int64 => g1 = (tkG g (fun j => f (k * 8 + j)))) (fun (g1 : Nat → Int64) t9 => BW dC dI (va_A [(su, .inr (4, [.ref sa, .long z, .long al, .long dp, .long wd, .int lim])), (sa, .inl (cJ, 4, .inr (.inl g))), (o, .inr (0, [.ref ar, .int (nI sz)])), (ar, .inl (cI, (cap * 8), .inl f))] hz) [(su, .inr (4, [.ref sa, .long (z + (f (k * 8 + 7)).toInt64), .long (al + (f (k * 8 + 1)).toInt64), .long dp, .long wd, .int lim])), (sa, .inl (cJ, 4, .inr (.inl g1))), (o, .inr (0, [.ref ar, .int (nI sz)])), (ar, .inl (cI, (cap * 8), .inl f))] t9) (va_A [(su, .inr (4, [.ref sa, .long z, .long al, .long dp, .long wd, .int lim])), (sa, .inl (cJ, 4, .inr (.inl g))), (o, .inr (0, [.ref ar, .int (nI sz)])), (ar, .inl (cI, (cap * 8), .inl f))] hz)) 0 0 (va_A [(su, .inr (4, [.ref sa, .long z, .long al, .long dp, .long wd, .int lim])), (sa, .inl (cJ, 4, .inr (.inl g))), (o, .inr (0, [.ref ar, .int (nI sz)])), (ar, .inl (cI, (cap * 8), .inl f))] hz) := by
  refine my_metW (ws := wsX4_takeGlue) (cc := cX4_takeGlue) (maxL := 4) (ret := none) (Qc := fun A => va_Qv (fun g1 : Nat → Int64 => g1 = (tkG g (fun j => f (k * 8 + j)))) (fun (g1 : Nat → Int64) t9 => BW dC dI A [(su, .inr (4, [.ref sa, .long (z + (f (k * 8 + 7)).toInt64), .long (al + (f (k * 8 + 1)).toInt64), .long dp, .long wd, .int lim])), (sa, .inl (cJ, 4, .inr (.inl g1))), (o, .inr (0, [.ref ar, .int (nI sz)])), (ar, .inl (cI, (cap * 8), .inl f))] t9) A) (by decide) rfl (Nat.le_of_ble_eq_true rfl) ?_
  intro p e s m below meth c ls A X hl hK hA hP hD hS
  obtain ⟨hx, hb, hr, hml, hown, hts, hlocks, hnm⟩ := id X
  have hl : lv_has ls 4 [(0, .ref su), (1, .ref o), (2, .int (nI k))] := hl
  refine lv_aload_n hx hb dX4_takeGlue_0 rfl (lv_at hl 0 rfl) ?_
  refine lv_dup hx hb dX4_takeGlue_1 rfl ?_
  refine my_get X hK in_X4_takeGlue_X4 hP 0 rfl rfl 2 (by decide) (List.mem_of_getElem? (i := 1) rfl) rfl dX4_takeGlue_2 ?_
  refine lv_aload_n hx hb dX4_takeGlue_5 rfl (lv_at hl 1 rfl) ?_
  refine lv_iload_n hx hb dX4_takeGlue_6 rfl (lv_at hl 2 rfl) ?_
  refine lv_iconst (v := 1) hx hb dX4_takeGlue_7 (by decide) ?_
  have hPc := hP.sub (ws' := [(o, .inr (0, [.ref ar, .int (nI sz)])), (ar, .inl (cI, (cap * 8), .inl f))]) [2, 3] rfl
  refine my_rdi (my_runV (n := 2) (As := [.int (nI k), .int 1]) (rest := [.long al, .ref su]) (C := RX0) X PR.blind (PR.pre hPc hK) (va_recv hK.1 hPc (ci := 0) (q0 := 0) rfl rfl) (c_at l dC dI cI cJ cO o ar cap f sz k 1 (by omega) (by omega) (by omega) (by omega)) gX4_takeGlue_X0_at rfl rfl rfl (by decide +kernel) rfl ⟨Nat.le_of_ble_eq_true rfl, Nat.le_of_ble_eq_true rfl⟩ hl.1 rfl (Nat.le_of_ble_eq_true rfl) dX4_takeGlue_8 ⟨by first | decide | omega | (dsimp only; omega), by first | decide | omega | (dsimp only; omega)⟩) (fun r_1 hr_1 => ?_)
  subst hr_1
  refine lv_i2l (v := (f (k * 8 + 1)).toInt64) hx hb dX4_takeGlue_11 rfl ?_
  refine lv_ladd hx hb dX4_takeGlue_12 ?_
  refine my_put X hK in_X4_takeGlue_X4 tyX4 tyX4_ok nmX4 hP hD hS 0 rfl rfl 2 (by decide) (List.mem_of_getElem? (i := 1) rfl) rfl rfl rfl (Nat.le_of_ble_eq_true rfl) dX4_takeGlue_13 (fun H locs hP hD hS => ?_)
  have hP : va_P (dC, dI) vwCl ([(su, .inr (4, [.ref sa, .long z, .long (al + ((f (k * 8 + 1)).toInt64)), .long dp, .long wd, .int lim])), (sa, .inl (cJ, 4, .inr (.inl g))), (o, .inr (0, [.ref ar, .int (nI sz)])), (ar, .inl (cI, (cap * 8), .inl f))]) H := hP
  have hD : va_D A ([(su, .inr (4, [.ref sa, .long z, .long (al + ((f (k * 8 + 1)).toInt64)), .long dp, .long wd, .int lim])), (sa, .inl (cJ, 4, .inr (.inl g))), (o, .inr (0, [.ref ar, .int (nI sz)])), (ar, .inl (cI, (cap * 8), .inl f))]) := hD
  refine lv_aload_n hx hb dX4_takeGlue_16 rfl (lv_at hl 0 rfl) ?_
  refine lv_dup hx hb dX4_takeGlue_17 rfl ?_
  refine my_get X hK in_X4_takeGlue_X4 hP 0 rfl rfl 1 (by decide) (List.mem_of_getElem? (i := 2) rfl) rfl dX4_takeGlue_18 ?_
  refine lv_aload_n hx hb dX4_takeGlue_21 rfl (lv_at hl 1 rfl) ?_
  refine lv_iload_n hx hb dX4_takeGlue_22 rfl (lv_at hl 2 rfl) ?_
  refine lv_bipush (v := 7) hx hb dX4_takeGlue_23 (by decide) ?_
  have hPc := hP.sub (ws' := [(o, .inr (0, [.ref ar, .int (nI sz)])), (ar, .inl (cI, (cap * 8), .inl f))]) [2, 3] rfl
  refine my_rdi (my_runV (n := 2) (As := [.int (nI k), .int 7]) (rest := [.long z, .ref su]) (C := RX0) X PR.blind (PR.pre hPc hK) (va_recv hK.1 hPc (ci := 0) (q0 := 0) rfl rfl) (c_at l dC dI cI cJ cO o ar cap f sz k 7 (by omega) (by omega) (by omega) (by omega)) gX4_takeGlue_X0_at rfl rfl rfl (by decide +kernel) rfl ⟨Nat.le_of_ble_eq_true rfl, Nat.le_of_ble_eq_true rfl⟩ hl.1 rfl (Nat.le_of_ble_eq_true rfl) dX4_takeGlue_25 ⟨by first | decide | omega | (dsimp only; omega), by first | decide | omega | (dsimp only; omega)⟩) (fun r_2 hr_2 => ?_)
  subst hr_2
  refine lv_i2l (v := (f (k * 8 + 7)).toInt64) hx hb dX4_takeGlue_28 rfl ?_
  refine lv_ladd hx hb dX4_takeGlue_29 ?_
  refine my_put X hK in_X4_takeGlue_X4 tyX4 tyX4_ok nmX4 hP hD hS 0 rfl rfl 1 (by decide) (List.mem_of_getElem? (i := 2) rfl) rfl rfl rfl (Nat.le_of_ble_eq_true rfl) dX4_takeGlue_30 (fun H locs hP hD hS => ?_)
  have hP : va_P (dC, dI) vwCl ([(su, .inr (4, [.ref sa, .long (z + ((f (k * 8 + 7)).toInt64)), .long (al + ((f (k * 8 + 1)).toInt64)), .long dp, .long wd, .int lim])), (sa, .inl (cJ, 4, .inr (.inl g))), (o, .inr (0, [.ref ar, .int (nI sz)])), (ar, .inl (cI, (cap * 8), .inl f))]) H := hP
  have hD : va_D A ([(su, .inr (4, [.ref sa, .long (z + ((f (k * 8 + 7)).toInt64)), .long (al + ((f (k * 8 + 1)).toInt64)), .long dp, .long wd, .int lim])), (sa, .inl (cJ, 4, .inr (.inl g))), (o, .inr (0, [.ref ar, .int (nI sz)])), (ar, .inl (cI, (cap * 8), .inl f))]) := hD
  refine lv_aload_n hx hb dX4_takeGlue_33 rfl (lv_at hl 1 rfl) ?_
  refine lv_iload_n hx hb dX4_takeGlue_34 rfl (lv_at hl 2 rfl) ?_
  refine lv_bipush (v := 6) hx hb dX4_takeGlue_35 (by decide) ?_
  have hPc := hP.sub (ws' := [(o, .inr (0, [.ref ar, .int (nI sz)])), (ar, .inl (cI, (cap * 8), .inl f))]) [2, 3] rfl
  refine my_rdi (my_runV (n := 2) (As := [.int (nI k), .int 6]) (rest := []) (C := RX0) X PR.blind (PR.pre hPc hK) (va_recv hK.1 hPc (ci := 0) (q0 := 0) rfl rfl) (c_at l dC dI cI cJ cO o ar cap f sz k 6 (by omega) (by omega) (by omega) (by omega)) gX4_takeGlue_X0_at rfl rfl rfl (by decide +kernel) rfl ⟨Nat.le_of_ble_eq_true rfl, Nat.le_of_ble_eq_true rfl⟩ hl.1 rfl (Nat.le_of_ble_eq_true rfl) dX4_takeGlue_37 ⟨by first | decide | omega | (dsimp only; omega), by first | decide | omega | (dsimp only; omega)⟩) (fun r_3 hr_3 => ?_)
  subst hr_3
  refine lv_istore_n (lv' := [(3, .int (f (k * 8 + 6))), (0, .ref su), (1, .ref o), (2, .int (nI k))]) hx hb dX4_takeGlue_40 rfl hl (by decide) rfl (fun ls hl => ?_)
  refine lv_iload_n hx hb dX4_takeGlue_41 rfl (lv_at hl 0 rfl) ?_
  refine lv_if_lt (tgt := 66) hx hb dX4_takeGlue_42 (by decide) (fun c_42 => ?_) (fun c_42 => ?_)
  · exact my_vret (WSf := (fun g1 : Nat → Int64 => [(su, .inr (4, [.ref sa, .long (z + (f (k * 8 + 7)).toInt64), .long (al + (f (k * 8 + 1)).toInt64), .long dp, .long wd, .int lim])), (sa, .inl (cJ, 4, .inr (.inl g1))), (o, .inr (0, [.ref ar, .int (nI sz)])), (ar, .inl (cI, (cap * 8), .inl f))])) g X (by simp [tkG, c_42]) (hP) (hD) hS (by first | decide | omega | (dsimp only; omega)) (by first | decide | omega | (dsimp only; omega)) dX4_takeGlue_66
  · refine lv_iload_n hx hb dX4_takeGlue_45 rfl (lv_at hl 0 rfl) ?_
    refine lv_iconst (v := 4) hx hb dX4_takeGlue_46 (by decide) ?_
    refine lv_icmp_ge (tgt := 66) hx hb dX4_takeGlue_47 (by decide) (fun c_47 => ?_) (fun c_47 => ?_)
    · exact my_vret (WSf := (fun g1 : Nat → Int64 => [(su, .inr (4, [.ref sa, .long (z + (f (k * 8 + 7)).toInt64), .long (al + (f (k * 8 + 1)).toInt64), .long dp, .long wd, .int lim])), (sa, .inl (cJ, 4, .inr (.inl g1))), (o, .inr (0, [.ref ar, .int (nI sz)])), (ar, .inl (cI, (cap * 8), .inl f))])) g X (by simp [tkG, c_42, c_47]) (hP) (hD) hS (by first | decide | omega | (dsimp only; omega)) (by first | decide | omega | (dsimp only; omega)) dX4_takeGlue_66
    · obtain ⟨jo, hjo, ejo⟩ := ix4 c_42 c_47
      rw [ejo] at hl
      refine lv_aload_n hx hb dX4_takeGlue_50 rfl (lv_at hl 1 rfl) ?_
      refine my_get X hK in_X4_takeGlue_X4 hP 0 rfl rfl 0 (by decide) (List.mem_of_getElem? (i := 3) rfl) rfl dX4_takeGlue_51 ?_
      refine lv_iload_n hx hb dX4_takeGlue_54 rfl (lv_at hl 0 rfl) ?_
      refine lv_dup2_11 hx hb dX4_takeGlue_55 rfl rfl ?_
      refine my_lald (k := jo) hx hb hK hP 1 rfl (rfl) (by omega) (by omega) dX4_takeGlue_56 ?_
      refine lv_aload_n hx hb dX4_takeGlue_57 rfl (lv_at hl 2 rfl) ?_
      refine lv_iload_n hx hb dX4_takeGlue_58 rfl (lv_at hl 3 rfl) ?_
      refine lv_iconst (v := 5) hx hb dX4_takeGlue_59 (by decide) ?_
      have hPc := hP.sub (ws' := [(o, .inr (0, [.ref ar, .int (nI sz)])), (ar, .inl (cI, (cap * 8), .inl f))]) [2, 3] rfl
      refine my_rdi (my_runV (n := 2) (As := [.int (nI k), .int 5]) (rest := [.long (g jo), .int (nI jo), .ref sa]) (C := RX0) X PR.blind (PR.pre hPc hK) (va_recv hK.1 hPc (ci := 0) (q0 := 0) rfl rfl) (c_at l dC dI cI cJ cO o ar cap f sz k 5 (by omega) (by omega) (by omega) (by omega)) gX4_takeGlue_X0_at rfl rfl rfl (by decide +kernel) rfl ⟨Nat.le_of_ble_eq_true rfl, Nat.le_of_ble_eq_true rfl⟩ hl.1 rfl (Nat.le_of_ble_eq_true rfl) dX4_takeGlue_60 ⟨by first | decide | omega | (dsimp only; omega), by first | decide | omega | (dsimp only; omega)⟩) (fun r_4 hr_4 => ?_)
      subst hr_4
      refine lv_i2l (v := (f (k * 8 + 5)).toInt64) hx hb dX4_takeGlue_63 rfl ?_
      refine lv_ladd hx hb dX4_takeGlue_64 ?_
      refine my_last (k := jo) hx hb hK hP hD hS 1 rfl (rfl) (by omega) (by omega) dX4_takeGlue_65 (fun H locs hP hD hS => ?_)
      have hP : va_P (dC, dI) vwCl ([(su, .inr (4, [.ref sa, .long (z + ((f (k * 8 + 7)).toInt64)), .long (al + ((f (k * 8 + 1)).toInt64)), .long dp, .long wd, .int lim])), (sa, .inl (cJ, 4, .inr (.inl (vp_updL g jo ((g jo) + ((f (k * 8 + 5)).toInt64)))))), (o, .inr (0, [.ref ar, .int (nI sz)])), (ar, .inl (cI, (cap * 8), .inl f))]) H := hP
      have hD : va_D A ([(su, .inr (4, [.ref sa, .long (z + ((f (k * 8 + 7)).toInt64)), .long (al + ((f (k * 8 + 1)).toInt64)), .long dp, .long wd, .int lim])), (sa, .inl (cJ, 4, .inr (.inl (vp_updL g jo ((g jo) + ((f (k * 8 + 5)).toInt64)))))), (o, .inr (0, [.ref ar, .int (nI sz)])), (ar, .inl (cI, (cap * 8), .inl f))]) := hD
      exact my_vret (WSf := (fun g1 : Nat → Int64 => [(su, .inr (4, [.ref sa, .long (z + (f (k * 8 + 7)).toInt64), .long (al + (f (k * 8 + 1)).toInt64), .long dp, .long wd, .int lim])), (sa, .inl (cJ, 4, .inr (.inl g1))), (o, .inr (0, [.ref ar, .int (nI sz)])), (ar, .inl (cI, (cap * 8), .inl f))])) (vp_updL g jo ((g jo) + ((f (k * 8 + 5)).toInt64))) X (by simp only [tkG]; rw [ejo, if_pos ⟨nI_pos (by omega), by intro q; exact absurd (nc_le (a := 4) (b := jo) q (by decide) (by omega)) (by omega)⟩, nI_clamp (show jo < 2 ^ 31 by omega)]) (hP) (hD) hS (by first | decide | omega | (dsimp only; omega)) (by first | decide | omega | (dsimp only; omega)) dX4_takeGlue_66
theorem in_X4_takeSolid_X4 : ∀ w ∈ wsX40, w ∈ wsX4_takeSolid := fun _ h => List.mem_cons_of_mem _ (List.mem_append_left _ (List.mem_append_right _ h))
set_option maxHeartbeats 200000 in
set_option maxRecDepth 100000 in
theorem c_takeSolid (l : Launch) (dC : Nat → ClassId) (dI : Nat → Nat → Nat) (cI cJ cO : ClassId) (hz : Nat) (su : Nat) (sa : Nat) (g : Nat → Int64) (z : Int64) (al : Int64) (dp : Int64) (wd : Int64) (lim : Int32) (o : Nat) (ar : Nat) (cap : Nat) (f : Nat → Int32) (sz : Nat) (k : Nat) (hk : k < sz) (hsz : sz ≤ cap) (hcap : cap ≤ 4001) : Met l yX4_takeSolid wsX4_takeSolid ({ frames := 1, cells := 0, slots := 0, locals := 23 }) (va_Pc [.ref su, .ref o, .int (nI k)] (PW dC dI cI cJ cO [(su, .inr (4, [.ref sa, .long z, .long al, .long dp, .long wd, .int lim])), (sa, .inl (cJ, 4, .inr (.inl g))), (o, .inr (0, [.ref ar, .int (nI sz)])), (ar, .inl (cI, (cap * 8), .inl f))] hz)) (va_Qv (fun u : Int64 × Int64 => u.1 = (miL (f (k * 8 + 3)).toInt64 lim.toInt64) ∧ u.2 = (maL wd ((f (k * 8 + 1)).toInt64 + (f (k * 8 + 4)).toInt64))) (fun (u : Int64 × Int64) t9 => BW dC dI (va_A [(su, .inr (4, [.ref sa, .long z, .long al, .long dp, .long wd, .int lim])), (sa, .inl (cJ, 4, .inr (.inl g))), (o, .inr (0, [.ref ar, .int (nI sz)])), (ar, .inl (cI, (cap * 8), .inl f))] hz) [(su, .inr (4, [.ref sa, .long z, .long (al + ((f (k * 8 + 2)).toInt64 + (f (k * 8 + 3)).toInt64)), .long u.1, .long u.2, .int lim])), (sa, .inl (cJ, 4, .inr (.inl g))), (o, .inr (0, [.ref ar, .int (nI sz)])), (ar, .inl (cI, (cap * 8), .inl f))] t9) (va_A [(su, .inr (4, [.ref sa, .long z, .long al, .long dp, .long wd, .int lim])), (sa, .inl (cJ, 4, .inr (.inl g))), (o, .inr (0, [.ref ar, .int (nI sz)])), (ar, .inl (cI, (cap * 8), .inl f))] hz)) 0 0 (va_A [(su, .inr (4, [.ref sa, .long z, .long al, .long dp, .long wd, .int lim])), (sa, .inl (cJ, 4, .inr (.inl g))), (o, .inr (0, [.ref ar, .int (nI sz)])), (ar, .inl (cI, (cap * 8), .inl f))] hz) := by
  refine my_metW (ws := wsX4_takeSolid) (cc := cX4_takeSolid) (maxL := 5) (ret := none) (Qc := fun A => va_Qv (fun u : Int64 × Int64 => u.1 = (miL (f (k * 8 + 3)).toInt64 lim.toInt64) ∧ u.2 = (maL wd ((f (k * 8 + 1)).toInt64 + (f (k * 8 + 4)).toInt64))) (fun (u : Int64 × Int64) t9 => BW dC dI A [(su, .inr (4, [.ref sa, .long z, .long (al + ((f (k * 8 + 2)).toInt64 + (f (k * 8 + 3)).toInt64)), .long u.1, .long u.2, .int lim])), (sa, .inl (cJ, 4, .inr (.inl g))), (o, .inr (0, [.ref ar, .int (nI sz)])), (ar, .inl (cI, (cap * 8), .inl f))] t9) A) (by decide) rfl (Nat.le_of_ble_eq_true rfl) ?_
  intro p e s m below meth c ls A X hl hK hA hP hD hS
  obtain ⟨hx, hb, hr, hml, hown, hts, hlocks, hnm⟩ := id X
  have hl : lv_has ls 5 [(0, .ref su), (1, .ref o), (2, .int (nI k))] := hl
  refine lv_aload_n hx hb dX4_takeSolid_0 rfl (lv_at hl 1 rfl) ?_
  refine lv_iload_n hx hb dX4_takeSolid_1 rfl (lv_at hl 2 rfl) ?_
  refine lv_iconst (v := 3) hx hb dX4_takeSolid_2 (by decide) ?_
  have hPc := hP.sub (ws' := [(o, .inr (0, [.ref ar, .int (nI sz)])), (ar, .inl (cI, (cap * 8), .inl f))]) [2, 3] rfl
  refine my_rdi (my_runV (n := 2) (As := [.int (nI k), .int 3]) (rest := []) (C := RX0) X PR.blind (PR.pre hPc hK) (va_recv hK.1 hPc (ci := 0) (q0 := 0) rfl rfl) (c_at l dC dI cI cJ cO o ar cap f sz k 3 (by omega) (by omega) (by omega) (by omega)) gX4_takeSolid_X0_at rfl rfl rfl (by decide +kernel) rfl ⟨Nat.le_of_ble_eq_true rfl, Nat.le_of_ble_eq_true rfl⟩ hl.1 rfl (Nat.le_of_ble_eq_true rfl) dX4_takeSolid_3 ⟨by first | decide | omega | (dsimp only; omega), by first | decide | omega | (dsimp only; omega)⟩) (fun r_1 hr_1 => ?_)
  subst hr_1
  refine lv_i2l (v := (f (k * 8 + 3)).toInt64) hx hb dX4_takeSolid_6 rfl ?_
  refine lv_lstore_n (lv' := [(3, .long ((f (k * 8 + 3)).toInt64)), (0, .ref su), (1, .ref o), (2, .int (nI k))]) hx hb dX4_takeSolid_7 rfl hl (by decide) rfl (fun ls hl => ?_)
  refine lv_aload_n hx hb dX4_takeSolid_8 rfl (lv_at hl 1 rfl) ?_
  refine lv_dup hx hb dX4_takeSolid_9 rfl ?_
  refine my_get X hK in_X4_takeSolid_X4 hP 0 rfl rfl 2 (by decide) (List.mem_of_getElem? (i := 1) rfl) rfl dX4_takeSolid_10 ?_
  refine lv_aload_n hx hb dX4_takeSolid_13 rfl (lv_at hl 2 rfl) ?_
  refine lv_iload_n hx hb dX4_takeSolid_14 rfl (lv_at hl 3 rfl) ?_
  refine lv_iconst (v := 2) hx hb dX4_takeSolid_15 (by decide) ?_
  have hPc := hP.sub (ws' := [(o, .inr (0, [.ref ar, .int (nI sz)])), (ar, .inl (cI, (cap * 8), .inl f))]) [2, 3] rfl
  refine my_rdi (my_runV (n := 2) (As := [.int (nI k), .int 2]) (rest := [.long al, .ref su]) (C := RX0) X PR.blind (PR.pre hPc hK) (va_recv hK.1 hPc (ci := 0) (q0 := 0) rfl rfl) (c_at l dC dI cI cJ cO o ar cap f sz k 2 (by omega) (by omega) (by omega) (by omega)) gX4_takeSolid_X0_at rfl rfl rfl (by decide +kernel) rfl ⟨Nat.le_of_ble_eq_true rfl, Nat.le_of_ble_eq_true rfl⟩ hl.1 rfl (Nat.le_of_ble_eq_true rfl) dX4_takeSolid_16 ⟨by first | decide | omega | (dsimp only; omega), by first | decide | omega | (dsimp only; omega)⟩) (fun r_2 hr_2 => ?_)
  subst hr_2
  refine lv_i2l (v := (f (k * 8 + 2)).toInt64) hx hb dX4_takeSolid_19 rfl ?_
  refine lv_lload_n hx hb dX4_takeSolid_20 rfl (lv_at hl 0 rfl) ?_
  refine lv_ladd hx hb dX4_takeSolid_21 ?_
  refine lv_ladd hx hb dX4_takeSolid_22 ?_
  refine my_put X hK in_X4_takeSolid_X4 tyX4 tyX4_ok nmX4 hP hD hS 0 rfl rfl 2 (by decide) (List.mem_of_getElem? (i := 1) rfl) rfl rfl rfl (Nat.le_of_ble_eq_true rfl) dX4_takeSolid_23 (fun H locs hP hD hS => ?_)
  have hP : va_P (dC, dI) vwCl ([(su, .inr (4, [.ref sa, .long z, .long (al + (((f (k * 8 + 2)).toInt64) + ((f (k * 8 + 3)).toInt64))), .long dp, .long wd, .int lim])), (sa, .inl (cJ, 4, .inr (.inl g))), (o, .inr (0, [.ref ar, .int (nI sz)])), (ar, .inl (cI, (cap * 8), .inl f))]) H := hP
  have hD : va_D A ([(su, .inr (4, [.ref sa, .long z, .long (al + (((f (k * 8 + 2)).toInt64) + ((f (k * 8 + 3)).toInt64))), .long dp, .long wd, .int lim])), (sa, .inl (cJ, 4, .inr (.inl g))), (o, .inr (0, [.ref ar, .int (nI sz)])), (ar, .inl (cI, (cap * 8), .inl f))]) := hD
  refine lv_aload_n hx hb dX4_takeSolid_26 rfl (lv_at hl 1 rfl) ?_
  refine lv_lload_n hx hb dX4_takeSolid_27 rfl (lv_at hl 0 rfl) ?_
  refine lv_aload_n hx hb dX4_takeSolid_28 rfl (lv_at hl 1 rfl) ?_
  refine my_get X hK in_X4_takeSolid_X4 hP 0 rfl rfl 5 (by decide) (List.mem_of_getElem? (i := 2) rfl) rfl dX4_takeSolid_29 ?_
  refine lv_i2l (v := lim.toInt64) hx hb dX4_takeSolid_32 rfl ?_
  refine va_mmin_long hx hb (hml.trans hl.1.symm) hown (hts _ (List.mem_of_getElem? (i := 3) rfl)) (hts _ (List.mem_of_getElem? (i := 4) rfl)) (hts _ (List.mem_of_getElem? (i := 5) rfl)) (hts _ (List.mem_of_getElem? (i := 6) rfl)) (Nat.le_of_ble_eq_true rfl) (Nat.le_of_ble_eq_true rfl) (by first | decide | omega | (dsimp only; omega)) (by first | decide | omega | (dsimp only; omega)) dX4_takeSolid_33 ?_
  refine my_put X hK in_X4_takeSolid_X4 tyX4 tyX4_ok nmX4 hP hD hS 0 rfl rfl 3 (by decide) (List.mem_of_getElem? (i := 7) rfl) rfl rfl rfl (Nat.le_of_ble_eq_true rfl) dX4_takeSolid_36 (fun H locs hP hD hS => ?_)
  have hP : va_P (dC, dI) vwCl ([(su, .inr (4, [.ref sa, .long z, .long (al + (((f (k * 8 + 2)).toInt64) + ((f (k * 8 + 3)).toInt64))), .long (if lim.toInt64 < ((f (k * 8 + 3)).toInt64) then lim.toInt64 else ((f (k * 8 + 3)).toInt64)), .long wd, .int lim])), (sa, .inl (cJ, 4, .inr (.inl g))), (o, .inr (0, [.ref ar, .int (nI sz)])), (ar, .inl (cI, (cap * 8), .inl f))]) H := hP
  have hD : va_D A ([(su, .inr (4, [.ref sa, .long z, .long (al + (((f (k * 8 + 2)).toInt64) + ((f (k * 8 + 3)).toInt64))), .long (if lim.toInt64 < ((f (k * 8 + 3)).toInt64) then lim.toInt64 else ((f (k * 8 + 3)).toInt64)), .long wd, .int lim])), (sa, .inl (cJ, 4, .inr (.inl g))), (o, .inr (0, [.ref ar, .int (nI sz)])), (ar, .inl (cI, (cap * 8), .inl f))]) := hD
  refine lv_aload_n hx hb dX4_takeSolid_39 rfl (lv_at hl 1 rfl) ?_
  refine lv_aload_n hx hb dX4_takeSolid_40 rfl (lv_at hl 1 rfl) ?_
  refine my_get X hK in_X4_takeSolid_X4 hP 0 rfl rfl 4 (by decide) (List.mem_of_getElem? (i := 8) rfl) rfl dX4_takeSolid_41 ?_
  refine lv_aload_n hx hb dX4_takeSolid_44 rfl (lv_at hl 2 rfl) ?_
  refine lv_iload_n hx hb dX4_takeSolid_45 rfl (lv_at hl 3 rfl) ?_
  refine lv_iconst (v := 1) hx hb dX4_takeSolid_46 (by decide) ?_
  have hPc := hP.sub (ws' := [(o, .inr (0, [.ref ar, .int (nI sz)])), (ar, .inl (cI, (cap * 8), .inl f))]) [2, 3] rfl
  refine my_rdi (my_runV (n := 2) (As := [.int (nI k), .int 1]) (rest := [.long wd, .ref su]) (C := RX0) X PR.blind (PR.pre hPc hK) (va_recv hK.1 hPc (ci := 0) (q0 := 0) rfl rfl) (c_at l dC dI cI cJ cO o ar cap f sz k 1 (by omega) (by omega) (by omega) (by omega)) gX4_takeSolid_X0_at rfl rfl rfl (by decide +kernel) rfl ⟨Nat.le_of_ble_eq_true rfl, Nat.le_of_ble_eq_true rfl⟩ hl.1 rfl (Nat.le_of_ble_eq_true rfl) dX4_takeSolid_47 ⟨by first | decide | omega | (dsimp only; omega), by first | decide | omega | (dsimp only; omega)⟩) (fun r_3 hr_3 => ?_)
  subst hr_3
  refine lv_i2l (v := (f (k * 8 + 1)).toInt64) hx hb dX4_takeSolid_50 rfl ?_
  refine lv_aload_n hx hb dX4_takeSolid_51 rfl (lv_at hl 2 rfl) ?_
  refine lv_iload_n hx hb dX4_takeSolid_52 rfl (lv_at hl 3 rfl) ?_
  refine lv_iconst (v := 4) hx hb dX4_takeSolid_53 (by decide) ?_
  have hPc := hP.sub (ws' := [(o, .inr (0, [.ref ar, .int (nI sz)])), (ar, .inl (cI, (cap * 8), .inl f))]) [2, 3] rfl
  refine my_rdi (my_runV (n := 2) (As := [.int (nI k), .int 4]) (rest := [.long ((f (k * 8 + 1)).toInt64), .long wd, .ref su]) (C := RX0) X PR.blind (PR.pre hPc hK) (va_recv hK.1 hPc (ci := 0) (q0 := 0) rfl rfl) (c_at l dC dI cI cJ cO o ar cap f sz k 4 (by omega) (by omega) (by omega) (by omega)) gX4_takeSolid_X0_at rfl rfl rfl (by decide +kernel) rfl ⟨Nat.le_of_ble_eq_true rfl, Nat.le_of_ble_eq_true rfl⟩ hl.1 rfl (Nat.le_of_ble_eq_true rfl) dX4_takeSolid_54 ⟨by first | decide | omega | (dsimp only; omega), by first | decide | omega | (dsimp only; omega)⟩) (fun r_4 hr_4 => ?_)
  subst hr_4
  refine lv_i2l (v := (f (k * 8 + 4)).toInt64) hx hb dX4_takeSolid_57 rfl ?_
  refine lv_ladd hx hb dX4_takeSolid_58 ?_
  refine va_mmax_long hx hb (hml.trans hl.1.symm) hown (hts _ (List.mem_of_getElem? (i := 9) rfl)) (hts _ (List.mem_of_getElem? (i := 10) rfl)) (hts _ (List.mem_of_getElem? (i := 5) rfl)) (hts _ (List.mem_of_getElem? (i := 11) rfl)) (Nat.le_of_ble_eq_true rfl) (Nat.le_of_ble_eq_true rfl) (by first | decide | omega | (dsimp only; omega)) (by first | decide | omega | (dsimp only; omega)) dX4_takeSolid_59 ?_
  refine my_put X hK in_X4_takeSolid_X4 tyX4 tyX4_ok nmX4 hP hD hS 0 rfl rfl 4 (by decide) (List.mem_of_getElem? (i := 8) rfl) rfl rfl rfl (Nat.le_of_ble_eq_true rfl) dX4_takeSolid_62 (fun H locs hP hD hS => ?_)
  have hP : va_P (dC, dI) vwCl ([(su, .inr (4, [.ref sa, .long z, .long (al + (((f (k * 8 + 2)).toInt64) + ((f (k * 8 + 3)).toInt64))), .long (if lim.toInt64 < ((f (k * 8 + 3)).toInt64) then lim.toInt64 else ((f (k * 8 + 3)).toInt64)), .long (if (((f (k * 8 + 1)).toInt64) + ((f (k * 8 + 4)).toInt64)) < wd then wd else (((f (k * 8 + 1)).toInt64) + ((f (k * 8 + 4)).toInt64))), .int lim])), (sa, .inl (cJ, 4, .inr (.inl g))), (o, .inr (0, [.ref ar, .int (nI sz)])), (ar, .inl (cI, (cap * 8), .inl f))]) H := hP
  have hD : va_D A ([(su, .inr (4, [.ref sa, .long z, .long (al + (((f (k * 8 + 2)).toInt64) + ((f (k * 8 + 3)).toInt64))), .long (if lim.toInt64 < ((f (k * 8 + 3)).toInt64) then lim.toInt64 else ((f (k * 8 + 3)).toInt64)), .long (if (((f (k * 8 + 1)).toInt64) + ((f (k * 8 + 4)).toInt64)) < wd then wd else (((f (k * 8 + 1)).toInt64) + ((f (k * 8 + 4)).toInt64))), .int lim])), (sa, .inl (cJ, 4, .inr (.inl g))), (o, .inr (0, [.ref ar, .int (nI sz)])), (ar, .inl (cI, (cap * 8), .inl f))]) := hD
  exact my_vret (WSf := (fun u : Int64 × Int64 => [(su, .inr (4, [.ref sa, .long z, .long (al + ((f (k * 8 + 2)).toInt64 + (f (k * 8 + 3)).toInt64)), .long u.1, .long u.2, .int lim])), (sa, .inl (cJ, 4, .inr (.inl g))), (o, .inr (0, [.ref ar, .int (nI sz)])), (ar, .inl (cI, (cap * 8), .inl f))])) (if lim.toInt64 < ((f (k * 8 + 3)).toInt64) then lim.toInt64 else ((f (k * 8 + 3)).toInt64), if (((f (k * 8 + 1)).toInt64) + ((f (k * 8 + 4)).toInt64)) < wd then wd else (((f (k * 8 + 1)).toInt64) + ((f (k * 8 + 4)).toInt64))) X (⟨rfl, rfl⟩) (hP) (hD) hS (by first | decide | omega | (dsimp only; omega)) (by first | decide | omega | (dsimp only; omega)) dX4_takeSolid_65
theorem in_X4_take_X4 : ∀ w ∈ wsX40, w ∈ wsX4_take := fun _ h => List.mem_cons_of_mem _ (List.mem_append_left _ (List.mem_append_right _ h))
set_option maxHeartbeats 200000 in
set_option maxRecDepth 100000 in
theorem c_take (l : Launch) (dC : Nat → ClassId) (dI : Nat → Nat → Nat) (cI cJ cO : ClassId) (hz : Nat) (su : Nat) (sa : Nat) (g : Nat → Int64) (z : Int64) (al : Int64) (dp : Int64) (wd : Int64) (lim : Int32) (o : Nat) (ar : Nat) (cap : Nat) (f : Nat → Int32) (sz : Nat) (k : Nat) (hk : k < sz) (hsz : sz ≤ cap) (hcap : cap ≤ 4001) : Met l yX4_take wsX4_take ({ frames := 2, cells := 0, slots := 0, locals := 47 }) (va_Pc [.ref su, .ref o, .int (nI k)] (PW dC dI cI cJ cO [(su, .inr (4, [.ref sa, .long z, .long al, .long dp, .long wd, .int lim])), (sa, .inl (cJ, 4, .inr (.inl g))), (o, .inr (0, [.ref ar, .int (nI sz)])), (ar, .inl (cI, (cap * 8), .inl f))] hz)) (va_Qv (fun u : (Nat → Int64) × Int64 × Int64 × Int64 × Int64 => u.1 = (tS g (fun j => f (k * 8 + j))) ∧ u.2.1 = (tZ z (fun j => f (k * 8 + j))) ∧ u.2.2.1 = (tA al (fun j => f (k * 8 + j))) ∧ u.2.2.2.1 = (tD lim (fun j => f (k * 8 + j))) ∧ u.2.2.2.2 = (tW wd (fun j => f (k * 8 + j)))) (fun (u : (Nat → Int64) × Int64 × Int64 × Int64 × Int64) t9 => BW dC dI (va_A [(su, .inr (4, [.ref sa, .long z, .long al, .long dp, .long wd, .int lim])), (sa, .inl (cJ, 4, .inr (.inl g))), (o, .inr (0, [.ref ar, .int (nI sz)])), (ar, .inl (cI, (cap * 8), .inl f))] hz) [(su, .inr (4, [.ref sa, .long u.2.1, .long u.2.2.1, .long u.2.2.2.1, .long u.2.2.2.2, .int lim])), (sa, .inl (cJ, 4, .inr (.inl u.1))), (o, .inr (0, [.ref ar, .int (nI sz)])), (ar, .inl (cI, (cap * 8), .inl f))] t9) (va_A [(su, .inr (4, [.ref sa, .long z, .long al, .long dp, .long wd, .int lim])), (sa, .inl (cJ, 4, .inr (.inl g))), (o, .inr (0, [.ref ar, .int (nI sz)])), (ar, .inl (cI, (cap * 8), .inl f))] hz)) 0 0 (va_A [(su, .inr (4, [.ref sa, .long z, .long al, .long dp, .long wd, .int lim])), (sa, .inl (cJ, 4, .inr (.inl g))), (o, .inr (0, [.ref ar, .int (nI sz)])), (ar, .inl (cI, (cap * 8), .inl f))] hz) := by
  refine my_metW (ws := wsX4_take) (cc := cX4_take) (maxL := 3) (ret := none) (Qc := fun A => va_Qv (fun u : (Nat → Int64) × Int64 × Int64 × Int64 × Int64 => u.1 = (tS g (fun j => f (k * 8 + j))) ∧ u.2.1 = (tZ z (fun j => f (k * 8 + j))) ∧ u.2.2.1 = (tA al (fun j => f (k * 8 + j))) ∧ u.2.2.2.1 = (tD lim (fun j => f (k * 8 + j))) ∧ u.2.2.2.2 = (tW wd (fun j => f (k * 8 + j)))) (fun (u : (Nat → Int64) × Int64 × Int64 × Int64 × Int64) t9 => BW dC dI A [(su, .inr (4, [.ref sa, .long u.2.1, .long u.2.2.1, .long u.2.2.2.1, .long u.2.2.2.2, .int lim])), (sa, .inl (cJ, 4, .inr (.inl u.1))), (o, .inr (0, [.ref ar, .int (nI sz)])), (ar, .inl (cI, (cap * 8), .inl f))] t9) A) (by decide) rfl (Nat.le_of_ble_eq_true rfl) ?_
  intro p e s m below meth c ls A X hl hK hA hP hD hS
  obtain ⟨hx, hb, hr, hml, hown, hts, hlocks, hnm⟩ := id X
  have hl : lv_has ls 3 [(0, .ref su), (1, .ref o), (2, .int (nI k))] := hl
  refine lv_aload_n hx hb dX4_take_0 rfl (lv_at hl 0 rfl) ?_
  refine lv_lconst (v := 0) hx hb dX4_take_1 (by decide) ?_
  refine my_put X hK in_X4_take_X4 tyX4 tyX4_ok nmX4 hP hD hS 0 rfl rfl 3 (by decide) (List.mem_of_getElem? (i := 1) rfl) rfl rfl rfl (Nat.le_of_ble_eq_true rfl) dX4_take_2 (fun H locs hP hD hS => ?_)
  have hP : va_P (dC, dI) vwCl ([(su, .inr (4, [.ref sa, .long z, .long al, .long 0, .long wd, .int lim])), (sa, .inl (cJ, 4, .inr (.inl g))), (o, .inr (0, [.ref ar, .int (nI sz)])), (ar, .inl (cI, (cap * 8), .inl f))]) H := hP
  have hD : va_D A ([(su, .inr (4, [.ref sa, .long z, .long al, .long 0, .long wd, .int lim])), (sa, .inl (cJ, 4, .inr (.inl g))), (o, .inr (0, [.ref ar, .int (nI sz)])), (ar, .inl (cI, (cap * 8), .inl f))]) := hD
  refine lv_aload_n hx hb dX4_take_5 rfl (lv_at hl 1 rfl) ?_
  refine lv_iload_n hx hb dX4_take_6 rfl (lv_at hl 2 rfl) ?_
  refine lv_iconst (v := 0) hx hb dX4_take_7 (by decide) ?_
  have hPc := hP.sub (ws' := [(o, .inr (0, [.ref ar, .int (nI sz)])), (ar, .inl (cI, (cap * 8), .inl f))]) [2, 3] rfl
  refine my_rdi (my_runV (n := 2) (As := [.int (nI k), .int 0]) (rest := []) (C := RX0) X PR.blind (PR.pre hPc hK) (va_recv hK.1 hPc (ci := 0) (q0 := 0) rfl rfl) (c_at l dC dI cI cJ cO o ar cap f sz k 0 (by omega) (by omega) (by omega) (by omega)) gX4_take_X0_at rfl rfl rfl (by decide +kernel) rfl ⟨Nat.le_of_ble_eq_true rfl, Nat.le_of_ble_eq_true rfl⟩ hl.1 rfl (Nat.le_of_ble_eq_true rfl) dX4_take_8 ⟨by first | decide | omega | (dsimp only; omega), by first | decide | omega | (dsimp only; omega)⟩) (fun r_1 hr_1 => ?_)
  subst hr_1
  refine my_topi (show f (k * 8 + 0) = f (k * 8) from rfl) ?_
  by_cases k11_2 : f (k * 8) = 2
  · refine lv_tableIn (off := 33) (tgt := 44) hx hb dX4_take_11 (by rw [k11_2]; decide) (by rw [k11_2]; decide) (by rw [k11_2]; rfl) (by decide) ?_
    refine lv_aload_n hx hb dX4_take_44 rfl (lv_at hl 0 rfl) ?_
    refine lv_aload_n hx hb dX4_take_45 rfl (lv_at hl 1 rfl) ?_
    refine lv_iload_n hx hb dX4_take_46 rfl (lv_at hl 2 rfl) ?_
    have hPc := hP.sub (ws' := [(su, .inr (4, [.ref sa, .long z, .long al, .long 0, .long wd, .int lim])), (sa, .inl (cJ, 4, .inr (.inl g))), (o, .inr (0, [.ref ar, .int (nI sz)])), (ar, .inl (cI, (cap * 8), .inl f))]) [0, 1, 2, 3] rfl
    have hDc := hD.sub (ws' := [(su, .inr (4, [.ref sa, .long z, .long al, .long 0, .long wd, .int lim])), (sa, .inl (cJ, 4, .inr (.inl g))), (o, .inr (0, [.ref ar, .int (nI sz)])), (ar, .inl (cI, (cap * 8), .inl f))]) [0, 1, 2, 3] (by decide) rfl
    refine my_callv (ws := [(su, .inr (4, [.ref sa, .long z, .long al, .long 0, .long wd, .int lim])), (sa, .inl (cJ, 4, .inr (.inl g))), (o, .inr (0, [.ref ar, .int (nI sz)])), (ar, .inl (cI, (cap * 8), .inl f))]) (F := []) (wr := []) (my_runV (n := 2) (As := [.ref o, .int (nI k)]) (rest := []) (C := RX4) X PW.blind (PW.pre hPc hDc hK) (va_recv hK.1 hPc (ci := 4) (q0 := 0) rfl rfl) (c_takeSolid l dC dI cI cJ cO _ su sa g z al 0 wd lim o ar cap f sz k (by omega) (by omega) (by omega)) gX4_take_X4_takeSolid rfl rfl rfl (by decide +kernel) rfl ⟨Nat.le_of_ble_eq_true rfl, Nat.le_of_ble_eq_true rfl⟩ hl.1 rfl (Nat.le_of_ble_eq_true rfl) dX4_take_47 ⟨by first | decide | omega | (dsimp only; omega), by first | decide | omega | (dsimp only; omega)⟩) hS hP hD hA [0, 1, 2, 3] [] rfl rfl (by decide) (by decide) (fun u H locs hw_2 hP hD hS => ?_)
    obtain ⟨d1_3, w1_4⟩ := u
    try dsimp only at hw_2
    obtain ⟨e_5, e_6⟩ := hw_2
    rw [e_5, e_6] at hP hD
    have hP : va_P (dC, dI) vwCl [(su, .inr (4, [.ref sa, .long z, .long (al + ((f (k * 8 + 2)).toInt64 + (f (k * 8 + 3)).toInt64)), .long (miL (f (k * 8 + 3)).toInt64 lim.toInt64), .long (maL wd ((f (k * 8 + 1)).toInt64 + (f (k * 8 + 4)).toInt64)), .int lim])), (sa, .inl (cJ, 4, .inr (.inl g))), (o, .inr (0, [.ref ar, .int (nI sz)])), (ar, .inl (cI, (cap * 8), .inl f))] H := hP.sub [0, 1, 2, 3] rfl
    have hD : va_D A [(su, .inr (4, [.ref sa, .long z, .long (al + ((f (k * 8 + 2)).toInt64 + (f (k * 8 + 3)).toInt64)), .long (miL (f (k * 8 + 3)).toInt64 lim.toInt64), .long (maL wd ((f (k * 8 + 1)).toInt64 + (f (k * 8 + 4)).toInt64)), .int lim])), (sa, .inl (cJ, 4, .inr (.inl g))), (o, .inr (0, [.ref ar, .int (nI sz)])), (ar, .inl (cI, (cap * 8), .inl f))] := hD.sub [0, 1, 2, 3] (by decide) rfl
    refine lv_goto (tgt := 81) hx hb dX4_take_50 (by decide) ?_
    exact my_vret (WSf := (fun u : (Nat → Int64) × Int64 × Int64 × Int64 × Int64 => [(su, .inr (4, [.ref sa, .long u.2.1, .long u.2.2.1, .long u.2.2.2.1, .long u.2.2.2.2, .int lim])), (sa, .inl (cJ, 4, .inr (.inl u.1))), (o, .inr (0, [.ref ar, .int (nI sz)])), (ar, .inl (cI, (cap * 8), .inl f))])) (g, z, al + ((f (k * 8 + 2)).toInt64 + (f (k * 8 + 3)).toInt64), (miL (f (k * 8 + 3)).toInt64 lim.toInt64), (maL wd ((f (k * 8 + 1)).toInt64 + (f (k * 8 + 4)).toInt64))) X (by simp [tS, tZ, tA, tD, tW, k11_2]) (hP) (hD) hS (by first | decide | omega | (dsimp only; omega)) (by first | decide | omega | (dsimp only; omega)) dX4_take_81
  by_cases k11_3 : f (k * 8) = 3
  · refine lv_tableIn (off := 70) (tgt := 81) hx hb dX4_take_11 (by rw [k11_3]; decide) (by rw [k11_3]; decide) (by rw [k11_3]; rfl) (by decide) ?_
    exact my_vret (WSf := (fun u : (Nat → Int64) × Int64 × Int64 × Int64 × Int64 => [(su, .inr (4, [.ref sa, .long u.2.1, .long u.2.2.1, .long u.2.2.2.1, .long u.2.2.2.2, .int lim])), (sa, .inl (cJ, 4, .inr (.inl u.1))), (o, .inr (0, [.ref ar, .int (nI sz)])), (ar, .inl (cI, (cap * 8), .inl f))])) (g, z, al, 0, wd) X (by simp [tS, tZ, tA, tD, tW, k11_2, k11_3]) (hP) (hD) hS (by first | decide | omega | (dsimp only; omega)) (by first | decide | omega | (dsimp only; omega)) dX4_take_81
  by_cases k11_4 : f (k * 8) = 4
  · refine lv_tableIn (off := 33) (tgt := 44) hx hb dX4_take_11 (by rw [k11_4]; decide) (by rw [k11_4]; decide) (by rw [k11_4]; rfl) (by decide) ?_
    refine lv_aload_n hx hb dX4_take_44 rfl (lv_at hl 0 rfl) ?_
    refine lv_aload_n hx hb dX4_take_45 rfl (lv_at hl 1 rfl) ?_
    refine lv_iload_n hx hb dX4_take_46 rfl (lv_at hl 2 rfl) ?_
    have hPc := hP.sub (ws' := [(su, .inr (4, [.ref sa, .long z, .long al, .long 0, .long wd, .int lim])), (sa, .inl (cJ, 4, .inr (.inl g))), (o, .inr (0, [.ref ar, .int (nI sz)])), (ar, .inl (cI, (cap * 8), .inl f))]) [0, 1, 2, 3] rfl
    have hDc := hD.sub (ws' := [(su, .inr (4, [.ref sa, .long z, .long al, .long 0, .long wd, .int lim])), (sa, .inl (cJ, 4, .inr (.inl g))), (o, .inr (0, [.ref ar, .int (nI sz)])), (ar, .inl (cI, (cap * 8), .inl f))]) [0, 1, 2, 3] (by decide) rfl
    refine my_callv (ws := [(su, .inr (4, [.ref sa, .long z, .long al, .long 0, .long wd, .int lim])), (sa, .inl (cJ, 4, .inr (.inl g))), (o, .inr (0, [.ref ar, .int (nI sz)])), (ar, .inl (cI, (cap * 8), .inl f))]) (F := []) (wr := []) (my_runV (n := 2) (As := [.ref o, .int (nI k)]) (rest := []) (C := RX4) X PW.blind (PW.pre hPc hDc hK) (va_recv hK.1 hPc (ci := 4) (q0 := 0) rfl rfl) (c_takeSolid l dC dI cI cJ cO _ su sa g z al 0 wd lim o ar cap f sz k (by omega) (by omega) (by omega)) gX4_take_X4_takeSolid rfl rfl rfl (by decide +kernel) rfl ⟨Nat.le_of_ble_eq_true rfl, Nat.le_of_ble_eq_true rfl⟩ hl.1 rfl (Nat.le_of_ble_eq_true rfl) dX4_take_47 ⟨by first | decide | omega | (dsimp only; omega), by first | decide | omega | (dsimp only; omega)⟩) hS hP hD hA [0, 1, 2, 3] [] rfl rfl (by decide) (by decide) (fun u H locs hw_7 hP hD hS => ?_)
    obtain ⟨d1_8, w1_9⟩ := u
    try dsimp only at hw_7
    obtain ⟨e_10, e_11⟩ := hw_7
    rw [e_10, e_11] at hP hD
    have hP : va_P (dC, dI) vwCl [(su, .inr (4, [.ref sa, .long z, .long (al + ((f (k * 8 + 2)).toInt64 + (f (k * 8 + 3)).toInt64)), .long (miL (f (k * 8 + 3)).toInt64 lim.toInt64), .long (maL wd ((f (k * 8 + 1)).toInt64 + (f (k * 8 + 4)).toInt64)), .int lim])), (sa, .inl (cJ, 4, .inr (.inl g))), (o, .inr (0, [.ref ar, .int (nI sz)])), (ar, .inl (cI, (cap * 8), .inl f))] H := hP.sub [0, 1, 2, 3] rfl
    have hD : va_D A [(su, .inr (4, [.ref sa, .long z, .long (al + ((f (k * 8 + 2)).toInt64 + (f (k * 8 + 3)).toInt64)), .long (miL (f (k * 8 + 3)).toInt64 lim.toInt64), .long (maL wd ((f (k * 8 + 1)).toInt64 + (f (k * 8 + 4)).toInt64)), .int lim])), (sa, .inl (cJ, 4, .inr (.inl g))), (o, .inr (0, [.ref ar, .int (nI sz)])), (ar, .inl (cI, (cap * 8), .inl f))] := hD.sub [0, 1, 2, 3] (by decide) rfl
    refine lv_goto (tgt := 81) hx hb dX4_take_50 (by decide) ?_
    exact my_vret (WSf := (fun u : (Nat → Int64) × Int64 × Int64 × Int64 × Int64 => [(su, .inr (4, [.ref sa, .long u.2.1, .long u.2.2.1, .long u.2.2.2.1, .long u.2.2.2.2, .int lim])), (sa, .inl (cJ, 4, .inr (.inl u.1))), (o, .inr (0, [.ref ar, .int (nI sz)])), (ar, .inl (cI, (cap * 8), .inl f))])) (g, z, al + ((f (k * 8 + 2)).toInt64 + (f (k * 8 + 3)).toInt64), (miL (f (k * 8 + 3)).toInt64 lim.toInt64), (maL wd ((f (k * 8 + 1)).toInt64 + (f (k * 8 + 4)).toInt64))) X (by simp [tS, tZ, tA, tD, tW, k11_2, k11_3, k11_4]) (hP) (hD) hS (by first | decide | omega | (dsimp only; omega)) (by first | decide | omega | (dsimp only; omega)) dX4_take_81
  by_cases k11_5 : f (k * 8) = 5
  · refine lv_tableIn (off := 42) (tgt := 53) hx hb dX4_take_11 (by rw [k11_5]; decide) (by rw [k11_5]; decide) (by rw [k11_5]; rfl) (by decide) ?_
    refine lv_aload_n hx hb dX4_take_53 rfl (lv_at hl 0 rfl) ?_
    refine lv_aload_n hx hb dX4_take_54 rfl (lv_at hl 1 rfl) ?_
    refine lv_iload_n hx hb dX4_take_55 rfl (lv_at hl 2 rfl) ?_
    have hPc := hP.sub (ws' := [(su, .inr (4, [.ref sa, .long z, .long al, .long 0, .long wd, .int lim])), (sa, .inl (cJ, 4, .inr (.inl g))), (o, .inr (0, [.ref ar, .int (nI sz)])), (ar, .inl (cI, (cap * 8), .inl f))]) [0, 1, 2, 3] rfl
    have hDc := hD.sub (ws' := [(su, .inr (4, [.ref sa, .long z, .long al, .long 0, .long wd, .int lim])), (sa, .inl (cJ, 4, .inr (.inl g))), (o, .inr (0, [.ref ar, .int (nI sz)])), (ar, .inl (cI, (cap * 8), .inl f))]) [0, 1, 2, 3] (by decide) rfl
    refine my_callv (ws := [(su, .inr (4, [.ref sa, .long z, .long al, .long 0, .long wd, .int lim])), (sa, .inl (cJ, 4, .inr (.inl g))), (o, .inr (0, [.ref ar, .int (nI sz)])), (ar, .inl (cI, (cap * 8), .inl f))]) (F := []) (wr := []) (my_runV (n := 2) (As := [.ref o, .int (nI k)]) (rest := []) (C := RX4) X PW.blind (PW.pre hPc hDc hK) (va_recv hK.1 hPc (ci := 4) (q0 := 0) rfl rfl) (c_takeGlue l dC dI cI cJ cO _ su sa g z al 0 wd lim o ar cap f sz k (by omega) (by omega) (by omega)) gX4_take_X4_takeGlue rfl rfl rfl (by decide +kernel) rfl ⟨Nat.le_of_ble_eq_true rfl, Nat.le_of_ble_eq_true rfl⟩ hl.1 rfl (Nat.le_of_ble_eq_true rfl) dX4_take_56 ⟨by first | decide | omega | (dsimp only; omega), by first | decide | omega | (dsimp only; omega)⟩) hS hP hD hA [0, 1, 2, 3] [] rfl rfl (by decide) (by decide) (fun u H locs hw_12 hP hD hS => ?_)
    obtain ⟨g1_13, rfl⟩ : ∃ z, z = u := ⟨_, rfl⟩
    try dsimp only at hw_12
    rw [hw_12] at hP hD
    have hP : va_P (dC, dI) vwCl [(su, .inr (4, [.ref sa, .long (z + (f (k * 8 + 7)).toInt64), .long (al + (f (k * 8 + 1)).toInt64), .long 0, .long wd, .int lim])), (sa, .inl (cJ, 4, .inr (.inl (tkG g (fun j => f (k * 8 + j)))))), (o, .inr (0, [.ref ar, .int (nI sz)])), (ar, .inl (cI, (cap * 8), .inl f))] H := hP.sub [0, 1, 2, 3] rfl
    have hD : va_D A [(su, .inr (4, [.ref sa, .long (z + (f (k * 8 + 7)).toInt64), .long (al + (f (k * 8 + 1)).toInt64), .long 0, .long wd, .int lim])), (sa, .inl (cJ, 4, .inr (.inl (tkG g (fun j => f (k * 8 + j)))))), (o, .inr (0, [.ref ar, .int (nI sz)])), (ar, .inl (cI, (cap * 8), .inl f))] := hD.sub [0, 1, 2, 3] (by decide) rfl
    refine lv_goto (tgt := 81) hx hb dX4_take_59 (by decide) ?_
    exact my_vret (WSf := (fun u : (Nat → Int64) × Int64 × Int64 × Int64 × Int64 => [(su, .inr (4, [.ref sa, .long u.2.1, .long u.2.2.1, .long u.2.2.2.1, .long u.2.2.2.2, .int lim])), (sa, .inl (cJ, 4, .inr (.inl u.1))), (o, .inr (0, [.ref ar, .int (nI sz)])), (ar, .inl (cI, (cap * 8), .inl f))])) ((tkG g (fun j => f (k * 8 + j))), z + (f (k * 8 + 7)).toInt64, al + (f (k * 8 + 1)).toInt64, 0, wd) X (by simp [tS, tZ, tA, tD, tW, k11_2, k11_3, k11_4, k11_5]) (hP) (hD) hS (by first | decide | omega | (dsimp only; omega)) (by first | decide | omega | (dsimp only; omega)) dX4_take_81
  by_cases k11_6 : f (k * 8) = 6
  · refine lv_tableIn (off := 51) (tgt := 62) hx hb dX4_take_11 (by rw [k11_6]; decide) (by rw [k11_6]; decide) (by rw [k11_6]; rfl) (by decide) ?_
    refine lv_aload_n hx hb dX4_take_62 rfl (lv_at hl 0 rfl) ?_
    refine lv_dup hx hb dX4_take_63 rfl ?_
    refine my_get X hK in_X4_take_X4 hP 0 rfl rfl 2 (by decide) (List.mem_of_getElem? (i := 2) rfl) rfl dX4_take_64 ?_
    refine lv_aload_n hx hb dX4_take_67 rfl (lv_at hl 1 rfl) ?_
    refine lv_iload_n hx hb dX4_take_68 rfl (lv_at hl 2 rfl) ?_
    refine lv_iconst (v := 1) hx hb dX4_take_69 (by decide) ?_
    have hPc := hP.sub (ws' := [(o, .inr (0, [.ref ar, .int (nI sz)])), (ar, .inl (cI, (cap * 8), .inl f))]) [2, 3] rfl
    refine my_rdi (my_runV (n := 2) (As := [.int (nI k), .int 1]) (rest := [.long al, .ref su]) (C := RX0) X PR.blind (PR.pre hPc hK) (va_recv hK.1 hPc (ci := 0) (q0 := 0) rfl rfl) (c_at l dC dI cI cJ cO o ar cap f sz k 1 (by omega) (by omega) (by omega) (by omega)) gX4_take_X0_at rfl rfl rfl (by decide +kernel) rfl ⟨Nat.le_of_ble_eq_true rfl, Nat.le_of_ble_eq_true rfl⟩ hl.1 rfl (Nat.le_of_ble_eq_true rfl) dX4_take_70 ⟨by first | decide | omega | (dsimp only; omega), by first | decide | omega | (dsimp only; omega)⟩) (fun r_15 hr_15 => ?_)
    subst hr_15
    refine lv_i2l (v := (f (k * 8 + 1)).toInt64) hx hb dX4_take_73 rfl ?_
    refine lv_ladd hx hb dX4_take_74 ?_
    refine my_put X hK in_X4_take_X4 tyX4 tyX4_ok nmX4 hP hD hS 0 rfl rfl 2 (by decide) (List.mem_of_getElem? (i := 2) rfl) rfl rfl rfl (Nat.le_of_ble_eq_true rfl) dX4_take_75 (fun H locs hP hD hS => ?_)
    have hP : va_P (dC, dI) vwCl ([(su, .inr (4, [.ref sa, .long z, .long (al + ((f (k * 8 + 1)).toInt64)), .long 0, .long wd, .int lim])), (sa, .inl (cJ, 4, .inr (.inl g))), (o, .inr (0, [.ref ar, .int (nI sz)])), (ar, .inl (cI, (cap * 8), .inl f))]) H := hP
    have hD : va_D A ([(su, .inr (4, [.ref sa, .long z, .long (al + ((f (k * 8 + 1)).toInt64)), .long 0, .long wd, .int lim])), (sa, .inl (cJ, 4, .inr (.inl g))), (o, .inr (0, [.ref ar, .int (nI sz)])), (ar, .inl (cI, (cap * 8), .inl f))]) := hD
    refine lv_goto (tgt := 81) hx hb dX4_take_78 (by decide) ?_
    exact my_vret (WSf := (fun u : (Nat → Int64) × Int64 × Int64 × Int64 × Int64 => [(su, .inr (4, [.ref sa, .long u.2.1, .long u.2.2.1, .long u.2.2.2.1, .long u.2.2.2.2, .int lim])), (sa, .inl (cJ, 4, .inr (.inl u.1))), (o, .inr (0, [.ref ar, .int (nI sz)])), (ar, .inl (cI, (cap * 8), .inl f))])) (g, z, al + ((f (k * 8 + 1)).toInt64), 0, wd) X (by simp [tS, tZ, tA, tD, tW, k11_2, k11_3, k11_4, k11_5, k11_6]) (hP) (hD) hS (by first | decide | omega | (dsimp only; omega)) (by first | decide | omega | (dsimp only; omega)) dX4_take_81
  have q11_2 : (f (k * 8)).toInt ≠ 2 := i_ne k11_2
  have q11_3 : (f (k * 8)).toInt ≠ 3 := i_ne k11_3
  have q11_4 : (f (k * 8)).toInt ≠ 4 := i_ne k11_4
  have q11_5 : (f (k * 8)).toInt ≠ 5 := i_ne k11_5
  have q11_6 : (f (k * 8)).toInt ≠ 6 := i_ne k11_6
  refine lv_tableOut (tgt := 81) hx hb dX4_take_11 (by omega) (by decide) ?_
  exact my_vret (WSf := (fun u : (Nat → Int64) × Int64 × Int64 × Int64 × Int64 => [(su, .inr (4, [.ref sa, .long u.2.1, .long u.2.2.1, .long u.2.2.2.1, .long u.2.2.2.2, .int lim])), (sa, .inl (cJ, 4, .inr (.inl u.1))), (o, .inr (0, [.ref ar, .int (nI sz)])), (ar, .inl (cI, (cap * 8), .inl f))])) (g, z, al, 0, wd) X (by simp [tS, tZ, tA, tD, tW, k11_2, k11_3, k11_4, k11_5, k11_6]) (hP) (hD) hS (by first | decide | omega | (dsimp only; omega)) (by first | decide | omega | (dsimp only; omega)) dX4_take_81
set_option maxHeartbeats 200000 in
set_option maxRecDepth 100000 in
theorem c_fill (l : Launch) (dC : Nat → ClassId) (dI : Nat → Nat → Nat) (cI cJ cO : ClassId) (hz : Nat) (sa : Nat) (g : Nat → Int64) (v : Int64)  : Met l yJ7_fill_d0a16 wsJ7_fill_d0a16 ({ frames := 0, cells := 0, slots := 0, locals := 0 }) (va_Pc [.ref sa, .long v] (PW dC dI cI cJ cO [(sa, .inl (cJ, 4, .inr (.inl g)))] hz)) (va_Qv (fun g1 : Nat → Int64 => ∀ j, j < 4 → g1 j = v) (fun (g1 : Nat → Int64) t9 => BW dC dI (va_A [(sa, .inl (cJ, 4, .inr (.inl g)))] hz) [(sa, .inl (cJ, 4, .inr (.inl g1)))] t9) (va_A [(sa, .inl (cJ, 4, .inr (.inl g)))] hz)) 0 0 (va_A [(sa, .inl (cJ, 4, .inr (.inl g)))] hz) := by
  refine my_metW (ws := wsJ7_fill_d0a16) (cc := cJ7_fill_d0a16) (maxL := 5) (ret := none) (Qc := fun A => va_Qv (fun g1 : Nat → Int64 => ∀ j, j < 4 → g1 j = v) (fun (g1 : Nat → Int64) t9 => BW dC dI A [(sa, .inl (cJ, 4, .inr (.inl g1)))] t9) A) (by decide) rfl (Nat.le_of_ble_eq_true rfl) ?_
  intro p e s m below meth c ls A X hl hK hA hP hD hS
  obtain ⟨hx, hb, hr, hml, hown, hts, hlocks, hnm⟩ := id X
  have hl : lv_has ls 5 [(0, .ref sa), (1, .long v)] := hl
  refine lv_iconst (v := 0) hx hb dJ7_fill_d0a16_0 (by decide) ?_
  refine lv_istore_n (lv' := [(3, .int 0), (0, .ref sa), (1, .long v)]) hx hb dJ7_fill_d0a16_1 rfl hl (by decide) rfl (fun ls hl => ?_)
  refine lv_aload_n hx hb dJ7_fill_d0a16_2 rfl (lv_at hl 1 rfl) ?_
  refine va_alen (v := nI 4) hx hb hK.1 hP 0 1 rfl rfl rfl dJ7_fill_d0a16_3 ?_
  refine lv_istore (lv' := [(4, .int (nI 4)), (3, .int 0), (0, .ref sa), (1, .long v)]) hx hb dJ7_fill_d0a16_4 hl (by decide) rfl (fun ls hl => ?_)
  refine lv_iload_n hx hb dJ7_fill_d0a16_6 rfl (lv_at hl 1 rfl) ?_
  refine lv_iload hx hb dJ7_fill_d0a16_7 (lv_at hl 0 rfl) ?_
  refine lv_icmp_ge (tgt := 22) hx hb dJ7_fill_d0a16_9 (by decide) (fun c_9 => ?_) (fun c_9 => ?_)
  · exact absurd c_9 (by decide)
  · have c_9 := nc_nle (a := 4) (b := 0) c_9 (by omega) (by omega)
    refine lv_aload_n hx hb dJ7_fill_d0a16_12 rfl (lv_at hl 2 rfl) ?_
    refine lv_iload_n hx hb dJ7_fill_d0a16_13 rfl (lv_at hl 1 rfl) ?_
    refine lv_lload_n hx hb dJ7_fill_d0a16_14 rfl (lv_at hl 3 rfl) ?_
    refine my_last (k := 0) hx hb hK hP hD hS 0 rfl (rfl) (by omega) (by omega) dJ7_fill_d0a16_15 (fun H locs hP hD hS => ?_)
    have hP : va_P (dC, dI) vwCl ([(sa, .inl (cJ, 4, .inr (.inl (vp_updL g 0 v))))]) H := hP
    have hD : va_D A ([(sa, .inl (cJ, 4, .inr (.inl (vp_updL g 0 v))))]) := hD
    refine lv_iinc (v := nI 1) (lv' := [(3, .int (nI 1)), (4, .int (nI 4)), (0, .ref sa), (1, .long v)]) hx hb dJ7_fill_d0a16_16 hl (k := 1) rfl (by decide) (by decide) rfl (fun ls hl => ?_)
    refine lv_goto (tgt := 6) hx hb dJ7_fill_d0a16_19 (by decide) ?_
    refine lv_iload_n hx hb dJ7_fill_d0a16_6 rfl (lv_at hl 0 rfl) ?_
    refine lv_iload hx hb dJ7_fill_d0a16_7 (lv_at hl 1 rfl) ?_
    refine lv_icmp_ge (tgt := 22) hx hb dJ7_fill_d0a16_9 (by decide) (fun c_9 => ?_) (fun c_9 => ?_)
    · exact absurd c_9 (by decide)
    · have c_9 := nc_nle (a := 4) (b := 1) c_9 (by omega) (by omega)
      refine lv_aload_n hx hb dJ7_fill_d0a16_12 rfl (lv_at hl 2 rfl) ?_
      refine lv_iload_n hx hb dJ7_fill_d0a16_13 rfl (lv_at hl 0 rfl) ?_
      refine lv_lload_n hx hb dJ7_fill_d0a16_14 rfl (lv_at hl 3 rfl) ?_
      refine my_last (k := 1) hx hb hK hP hD hS 0 rfl (rfl) (by omega) (by omega) dJ7_fill_d0a16_15 (fun H locs hP hD hS => ?_)
      have hP : va_P (dC, dI) vwCl ([(sa, .inl (cJ, 4, .inr (.inl (vp_updL (vp_updL g 0 v) 1 v))))]) H := hP
      have hD : va_D A ([(sa, .inl (cJ, 4, .inr (.inl (vp_updL (vp_updL g 0 v) 1 v))))]) := hD
      refine lv_iinc (v := nI 2) (lv' := [(3, .int (nI 2)), (4, .int (nI 4)), (0, .ref sa), (1, .long v)]) hx hb dJ7_fill_d0a16_16 hl (k := 0) rfl (by decide) (by decide) rfl (fun ls hl => ?_)
      refine lv_goto (tgt := 6) hx hb dJ7_fill_d0a16_19 (by decide) ?_
      refine lv_iload_n hx hb dJ7_fill_d0a16_6 rfl (lv_at hl 0 rfl) ?_
      refine lv_iload hx hb dJ7_fill_d0a16_7 (lv_at hl 1 rfl) ?_
      refine lv_icmp_ge (tgt := 22) hx hb dJ7_fill_d0a16_9 (by decide) (fun c_9 => ?_) (fun c_9 => ?_)
      · exact absurd c_9 (by decide)
      · have c_9 := nc_nle (a := 4) (b := 2) c_9 (by omega) (by omega)
        refine lv_aload_n hx hb dJ7_fill_d0a16_12 rfl (lv_at hl 2 rfl) ?_
        refine lv_iload_n hx hb dJ7_fill_d0a16_13 rfl (lv_at hl 0 rfl) ?_
        refine lv_lload_n hx hb dJ7_fill_d0a16_14 rfl (lv_at hl 3 rfl) ?_
        refine my_last (k := 2) hx hb hK hP hD hS 0 rfl (rfl) (by omega) (by omega) dJ7_fill_d0a16_15 (fun H locs hP hD hS => ?_)
        have hP : va_P (dC, dI) vwCl ([(sa, .inl (cJ, 4, .inr (.inl (vp_updL (vp_updL (vp_updL g 0 v) 1 v) 2 v))))]) H := hP
        have hD : va_D A ([(sa, .inl (cJ, 4, .inr (.inl (vp_updL (vp_updL (vp_updL g 0 v) 1 v) 2 v))))]) := hD
        refine lv_iinc (v := nI 3) (lv' := [(3, .int (nI 3)), (4, .int (nI 4)), (0, .ref sa), (1, .long v)]) hx hb dJ7_fill_d0a16_16 hl (k := 0) rfl (by decide) (by decide) rfl (fun ls hl => ?_)
        refine lv_goto (tgt := 6) hx hb dJ7_fill_d0a16_19 (by decide) ?_
        refine lv_iload_n hx hb dJ7_fill_d0a16_6 rfl (lv_at hl 0 rfl) ?_
        refine lv_iload hx hb dJ7_fill_d0a16_7 (lv_at hl 1 rfl) ?_
        refine lv_icmp_ge (tgt := 22) hx hb dJ7_fill_d0a16_9 (by decide) (fun c_9 => ?_) (fun c_9 => ?_)
        · exact absurd c_9 (by decide)
        · have c_9 := nc_nle (a := 4) (b := 3) c_9 (by omega) (by omega)
          refine lv_aload_n hx hb dJ7_fill_d0a16_12 rfl (lv_at hl 2 rfl) ?_
          refine lv_iload_n hx hb dJ7_fill_d0a16_13 rfl (lv_at hl 0 rfl) ?_
          refine lv_lload_n hx hb dJ7_fill_d0a16_14 rfl (lv_at hl 3 rfl) ?_
          refine my_last (k := 3) hx hb hK hP hD hS 0 rfl (rfl) (by omega) (by omega) dJ7_fill_d0a16_15 (fun H locs hP hD hS => ?_)
          have hP : va_P (dC, dI) vwCl ([(sa, .inl (cJ, 4, .inr (.inl (vp_updL (vp_updL (vp_updL (vp_updL g 0 v) 1 v) 2 v) 3 v))))]) H := hP
          have hD : va_D A ([(sa, .inl (cJ, 4, .inr (.inl (vp_updL (vp_updL (vp_updL (vp_updL g 0 v) 1 v) 2 v) 3 v))))]) := hD
          refine lv_iinc (v := nI 4) (lv' := [(3, .int (nI 4)), (4, .int (nI 4)), (0, .ref sa), (1, .long v)]) hx hb dJ7_fill_d0a16_16 hl (k := 0) rfl (by decide) (by decide) rfl (fun ls hl => ?_)
          refine lv_goto (tgt := 6) hx hb dJ7_fill_d0a16_19 (by decide) ?_
          refine lv_iload_n hx hb dJ7_fill_d0a16_6 rfl (lv_at hl 0 rfl) ?_
          refine lv_iload hx hb dJ7_fill_d0a16_7 (lv_at hl 1 rfl) ?_
          refine lv_icmp_ge (tgt := 22) hx hb dJ7_fill_d0a16_9 (by decide) (fun c_9 => ?_) (fun c_9 => ?_)
          · have c_9 := nc_le (a := 4) (b := 4) c_9 (by omega) (by omega)
            exact my_vret (WSf := (fun g1 : Nat → Int64 => [(sa, .inl (cJ, 4, .inr (.inl g1)))])) (vp_updL (vp_updL (vp_updL (vp_updL g 0 v) 1 v) 2 v) 3 v) X (fun j hj => by rcases (show j = 0 ∨ j = 1 ∨ j = 2 ∨ j = 3 by omega) with h | h | h | h <;> subst h <;> rfl) (hP) (hD) hS (by first | decide | omega | (dsimp only; omega)) (by first | decide | omega | (dsimp only; omega)) dJ7_fill_d0a16_22
          · exact absurd c_9 (by decide)
theorem in_X4_clear_X4 : ∀ w ∈ wsX40, w ∈ wsX4_clear := fun _ h => List.mem_cons_of_mem _ (List.mem_append_right _ h)
set_option maxHeartbeats 200000 in
set_option maxRecDepth 100000 in
theorem c_sclear (l : Launch) (dC : Nat → ClassId) (dI : Nat → Nat → Nat) (cI cJ cO : ClassId) (hz : Nat) (su : Nat) (sa : Nat) (g : Nat → Int64) (z : Int64) (al : Int64) (dp : Int64) (wd : Int64) (lim : Int32) (lm : Int32)  : Met l yX4_clear wsX4_clear ({ frames := 1, cells := 0, slots := 0, locals := 24 }) (va_Pc [.ref su, .int lm] (PW dC dI cI cJ cO [(su, .inr (4, [.ref sa, .long z, .long al, .long dp, .long wd, .int lim])), (sa, .inl (cJ, 4, .inr (.inl g)))] hz)) (va_Qv (fun g1 : Nat → Int64 => ∀ j, j < 4 → g1 j = 0) (fun (g1 : Nat → Int64) t9 => BW dC dI (va_A [(su, .inr (4, [.ref sa, .long z, .long al, .long dp, .long wd, .int lim])), (sa, .inl (cJ, 4, .inr (.inl g)))] hz) [(su, .inr (4, [.ref sa, .long 0, .long 0, .long 0, .long 0, .int lm])), (sa, .inl (cJ, 4, .inr (.inl g1)))] t9) (va_A [(su, .inr (4, [.ref sa, .long z, .long al, .long dp, .long wd, .int lim])), (sa, .inl (cJ, 4, .inr (.inl g)))] hz)) 0 0 (va_A [(su, .inr (4, [.ref sa, .long z, .long al, .long dp, .long wd, .int lim])), (sa, .inl (cJ, 4, .inr (.inl g)))] hz) := by
  refine my_metW (ws := wsX4_clear) (cc := cX4_clear) (maxL := 2) (ret := none) (Qc := fun A => va_Qv (fun g1 : Nat → Int64 => ∀ j, j < 4 → g1 j = 0) (fun (g1 : Nat → Int64) t9 => BW dC dI A [(su, .inr (4, [.ref sa, .long 0, .long 0, .long 0, .long 0, .int lm])), (sa, .inl (cJ, 4, .inr (.inl g1)))] t9) A) (by decide) rfl (Nat.le_of_ble_eq_true rfl) ?_
  intro p e s m below meth c ls A X hl hK hA hP hD hS
  obtain ⟨hx, hb, hr, hml, hown, hts, hlocks, hnm⟩ := id X
  have hl : lv_has ls 2 [(0, .ref su), (1, .int lm)] := hl
  refine lv_aload_n hx hb dX4_clear_0 rfl (lv_at hl 0 rfl) ?_
  refine my_get X hK in_X4_clear_X4 hP 0 rfl rfl 0 (by decide) (List.mem_of_getElem? (i := 1) rfl) rfl dX4_clear_1 ?_
  refine lv_lconst (v := 0) hx hb dX4_clear_4 (by decide) ?_
  have hPc := hP.sub (ws' := [(sa, .inl (cJ, 4, .inr (.inl g)))]) [1] rfl
  have hDc := hD.sub (ws' := [(sa, .inl (cJ, 4, .inr (.inl g)))]) [1] (by decide) rfl
  refine my_callv (ws := [(su, .inr (4, [.ref sa, .long z, .long al, .long dp, .long wd, .int lim])), (sa, .inl (cJ, 4, .inr (.inl g)))]) (F := []) (wr := [(su, .inr (4, [.ref sa, .long z, .long al, .long dp, .long wd, .int lim]))]) (my_runS (n := 2) (As := [.ref sa, .long 0]) (rest := []) X PW.blind (PW.pre hPc hDc hK) (c_fill l dC dI cI cJ cO _ sa g 0 ) gX4_clear_J7_fill_d0a16 rfl rfl rfl (by decide +kernel) rfl ⟨Nat.le_of_ble_eq_true rfl, Nat.le_of_ble_eq_true rfl⟩ hl.1 rfl (Nat.le_of_ble_eq_true rfl) dX4_clear_5 ⟨by first | decide | omega | (dsimp only; omega), by first | decide | omega | (dsimp only; omega)⟩) hS hP hD hA [1] [0] rfl rfl (by decide) (by decide) (fun u H locs hw_1 hP hD hS => ?_)
  obtain ⟨g1_2, rfl⟩ : ∃ z, z = u := ⟨_, rfl⟩
  try dsimp only at hw_1
  have hP : va_P (dC, dI) vwCl [(su, .inr (4, [.ref sa, .long z, .long al, .long dp, .long wd, .int lim])), (sa, .inl (cJ, 4, .inr (.inl g1_2)))] H := hP.sub [0, 1] rfl
  have hD : va_D A [(su, .inr (4, [.ref sa, .long z, .long al, .long dp, .long wd, .int lim])), (sa, .inl (cJ, 4, .inr (.inl g1_2)))] := hD.sub [0, 1] (by decide) rfl
  refine lv_aload_n hx hb dX4_clear_8 rfl (lv_at hl 0 rfl) ?_
  refine lv_lconst (v := 0) hx hb dX4_clear_9 (by decide) ?_
  refine my_put X hK in_X4_clear_X4 tyX4 tyX4_ok nmX4 hP hD hS 0 rfl rfl 1 (by decide) (List.mem_of_getElem? (i := 2) rfl) rfl rfl rfl (Nat.le_of_ble_eq_true rfl) dX4_clear_10 (fun H locs hP hD hS => ?_)
  have hP : va_P (dC, dI) vwCl ([(su, .inr (4, [.ref sa, .long 0, .long al, .long dp, .long wd, .int lim])), (sa, .inl (cJ, 4, .inr (.inl g1_2)))]) H := hP
  have hD : va_D A ([(su, .inr (4, [.ref sa, .long 0, .long al, .long dp, .long wd, .int lim])), (sa, .inl (cJ, 4, .inr (.inl g1_2)))]) := hD
  refine lv_aload_n hx hb dX4_clear_13 rfl (lv_at hl 0 rfl) ?_
  refine lv_lconst (v := 0) hx hb dX4_clear_14 (by decide) ?_
  refine my_put X hK in_X4_clear_X4 tyX4 tyX4_ok nmX4 hP hD hS 0 rfl rfl 2 (by decide) (List.mem_of_getElem? (i := 3) rfl) rfl rfl rfl (Nat.le_of_ble_eq_true rfl) dX4_clear_15 (fun H locs hP hD hS => ?_)
  have hP : va_P (dC, dI) vwCl ([(su, .inr (4, [.ref sa, .long 0, .long 0, .long dp, .long wd, .int lim])), (sa, .inl (cJ, 4, .inr (.inl g1_2)))]) H := hP
  have hD : va_D A ([(su, .inr (4, [.ref sa, .long 0, .long 0, .long dp, .long wd, .int lim])), (sa, .inl (cJ, 4, .inr (.inl g1_2)))]) := hD
  refine lv_aload_n hx hb dX4_clear_18 rfl (lv_at hl 0 rfl) ?_
  refine lv_lconst (v := 0) hx hb dX4_clear_19 (by decide) ?_
  refine my_put X hK in_X4_clear_X4 tyX4 tyX4_ok nmX4 hP hD hS 0 rfl rfl 3 (by decide) (List.mem_of_getElem? (i := 4) rfl) rfl rfl rfl (Nat.le_of_ble_eq_true rfl) dX4_clear_20 (fun H locs hP hD hS => ?_)
  have hP : va_P (dC, dI) vwCl ([(su, .inr (4, [.ref sa, .long 0, .long 0, .long 0, .long wd, .int lim])), (sa, .inl (cJ, 4, .inr (.inl g1_2)))]) H := hP
  have hD : va_D A ([(su, .inr (4, [.ref sa, .long 0, .long 0, .long 0, .long wd, .int lim])), (sa, .inl (cJ, 4, .inr (.inl g1_2)))]) := hD
  refine lv_aload_n hx hb dX4_clear_23 rfl (lv_at hl 0 rfl) ?_
  refine lv_lconst (v := 0) hx hb dX4_clear_24 (by decide) ?_
  refine my_put X hK in_X4_clear_X4 tyX4 tyX4_ok nmX4 hP hD hS 0 rfl rfl 4 (by decide) (List.mem_of_getElem? (i := 5) rfl) rfl rfl rfl (Nat.le_of_ble_eq_true rfl) dX4_clear_25 (fun H locs hP hD hS => ?_)
  have hP : va_P (dC, dI) vwCl ([(su, .inr (4, [.ref sa, .long 0, .long 0, .long 0, .long 0, .int lim])), (sa, .inl (cJ, 4, .inr (.inl g1_2)))]) H := hP
  have hD : va_D A ([(su, .inr (4, [.ref sa, .long 0, .long 0, .long 0, .long 0, .int lim])), (sa, .inl (cJ, 4, .inr (.inl g1_2)))]) := hD
  refine lv_aload_n hx hb dX4_clear_28 rfl (lv_at hl 0 rfl) ?_
  refine lv_iload_n hx hb dX4_clear_29 rfl (lv_at hl 1 rfl) ?_
  refine my_put X hK in_X4_clear_X4 tyX4 tyX4_ok nmX4 hP hD hS 0 rfl rfl 5 (by decide) (List.mem_of_getElem? (i := 6) rfl) rfl rfl rfl (Nat.le_of_ble_eq_true rfl) dX4_clear_30 (fun H locs hP hD hS => ?_)
  have hP : va_P (dC, dI) vwCl ([(su, .inr (4, [.ref sa, .long 0, .long 0, .long 0, .long 0, .int lm])), (sa, .inl (cJ, 4, .inr (.inl g1_2)))]) H := hP
  have hD : va_D A ([(su, .inr (4, [.ref sa, .long 0, .long 0, .long 0, .long 0, .int lm])), (sa, .inl (cJ, 4, .inr (.inl g1_2)))]) := hD
  exact my_vret (WSf := (fun g1 : Nat → Int64 => [(su, .inr (4, [.ref sa, .long 0, .long 0, .long 0, .long 0, .int lm])), (sa, .inl (cJ, 4, .inr (.inl g1)))])) g1_2 X (hw_1) (hP) (hD) hS (by first | decide | omega | (dsimp only; omega)) (by first | decide | omega | (dsimp only; omega)) dX4_clear_33
theorem in_X2_hasBest_X2 : ∀ w ∈ wsX20, w ∈ wsX2_hasBest := fun _ h => List.mem_cons_of_mem _ (List.mem_append_right _ h)
set_option maxHeartbeats 200000 in
set_option maxRecDepth 100000 in
theorem c_hasBest (l : Launch) (dC : Nat → ClassId) (dI : Nat → Nat → Nat) (cI cJ cO : ClassId) (pg : Nat) (bg : Int32) (fi : Int32) (go : Int32) (be : Int32) (lc : Int64) (su : Nat)  : Met l yX2_hasBest wsX2_hasBest ({ frames := 0, cells := 0, slots := 0, locals := 0 }) (va_Pc [.ref pg] (PR dC dI cI cJ cO [(pg, .inr (2, [.ref su, .int bg, .int fi, .int go, .int be, .long lc]))])) (vp_Si (fun r : Int32 => r = if be = -1 then 0 else 1)) 0 0 (fun _ => False) := by
  refine my_met (ws := wsX2_hasBest) (cc := cX2_hasBest) (maxL := 1) (ret := (some .boolean)) (by decide) rfl (Nat.le_of_ble_eq_true rfl) ?_
  intro p e s m below meth c ls X hl hv
  obtain ⟨hP, hK⟩ := hv
  obtain ⟨hx, hb, hr, hml, hown, hts, hlocks, hnm⟩ := id X
  have hl : lv_has ls 1 [(0, .ref pg)] := hl
  refine lv_aload_n hx hb dX2_hasBest_0 rfl (lv_at hl 0 rfl) ?_
  refine my_get X hK in_X2_hasBest_X2 hP 0 rfl rfl 4 (by decide) (List.mem_of_getElem? (i := 1) rfl) rfl dX2_hasBest_1 ?_
  refine lv_iconst (v := (-1)) hx hb dX2_hasBest_4 (by decide) ?_
  refine lv_icmp_eq (tgt := 12) hx hb dX2_hasBest_5 (by decide) (fun c_5 => ?_) (fun c_5 => ?_)
  · refine lv_iconst (v := 0) hx hb dX2_hasBest_12 (by decide) ?_
    exact my_zretR X rfl (by simp [c_5]) dX2_hasBest_13
  · refine lv_iconst (v := 1) hx hb dX2_hasBest_8 (by decide) ?_
    refine lv_goto (tgt := 13) hx hb dX2_hasBest_9 (by decide) ?_
    exact my_zretR X rfl (by simp [c_5]) dX2_hasBest_13
set_option maxHeartbeats 200000 in
set_option maxRecDepth 100000 in
theorem c_costOf (l : Launch) (dC : Nat → ClassId) (dI : Nat → Nat → Nat) (cI cJ cO : ClassId) (b : Int64) (q : Int32)  : Met l yX2_costOf wsX2_costOf ({ frames := 0, cells := 0, slots := 0, locals := 0 }) (va_Pc [.long b, .int q] (PR dC dI cI cJ cO [])) (vp_Sl (fun r : Int64 => r = cst b q)) 0 0 (fun _ => False) := by
  refine my_met (ws := wsX2_costOf) (cc := cX2_costOf) (maxL := 3) (ret := (some .long)) (by decide) rfl (Nat.le_of_ble_eq_true rfl) ?_
  intro p e s m below meth c ls X hl hv
  obtain ⟨hP, hK⟩ := hv
  obtain ⟨hx, hb, hr, hml, hown, hts, hlocks, hnm⟩ := id X
  have hl : lv_has ls 3 [(0, .long b), (2, .int q)] := hl
  refine lv_iload_n hx hb dX2_costOf_0 rfl (lv_at hl 1 rfl) ?_
  refine lv_sipush (v := (-10000)) hx hb dX2_costOf_1 (by decide) ?_
  refine lv_icmp_gt (tgt := 10) hx hb dX2_costOf_4 (by decide) (fun c_4 => ?_) (fun c_4 => ?_)
  · refine lv_lload_n hx hb dX2_costOf_10 rfl (lv_at hl 0 rfl) ?_
    refine lv_ldc2 (v := (10000)) hx hb hown (hts _ (List.mem_of_getElem? (i := 1) rfl)) dX2_costOf_11 ?_
    refine my_lif_ge (tgt := 25) hx hb dX2_costOf_14 dX2_costOf_15 (by decide) (fun c_14 => ?_) (fun c_14 => ?_)
    · refine lv_ldc2 (v := (100000)) hx hb hown (hts _ (List.mem_of_getElem? (i := 2) rfl)) dX2_costOf_25 ?_
      exact my_lretR X (by simp [cst, c_4, c_14]) dX2_costOf_28
    · refine lv_lload_n hx hb dX2_costOf_18 rfl (lv_at hl 0 rfl) ?_
      refine lv_iload_n hx hb dX2_costOf_19 rfl (lv_at hl 1 rfl) ?_
      refine lv_i2l (v := q.toInt64) hx hb dX2_costOf_20 rfl ?_
      refine lv_ladd hx hb dX2_costOf_21 ?_
      refine lv_goto (tgt := 28) hx hb dX2_costOf_22 (by decide) ?_
      exact my_lretR X (by simp [cst, c_4, c_14]) dX2_costOf_28
  · refine lv_iload_n hx hb dX2_costOf_7 rfl (lv_at hl 1 rfl) ?_
    refine lv_i2l (v := q.toInt64) hx hb dX2_costOf_8 rfl ?_
    exact my_lretR X (by simp [cst, c_4]) dX2_costOf_9
theorem in_X2_badnessNow_X2 : ∀ w ∈ wsX20, w ∈ wsX2_badnessNow := fun _ h => List.mem_cons_of_mem _ (List.mem_append_left _ (List.mem_append_right _ h))
theorem in_X2_badnessNow_X4 : ∀ w ∈ wsX40, w ∈ wsX2_badnessNow := fun _ h => List.mem_cons_of_mem _ (List.mem_append_right _ h)
set_option maxHeartbeats 200000 in
set_option maxRecDepth 100000 in
theorem c_badnessNow (l : Launch) (dC : Nat → ClassId) (dI : Nat → Nat → Nat) (cI cJ cO : ClassId) (pg : Nat) (bg : Int32) (fi : Int32) (go : Int32) (be : Int32) (lc : Int64) (su : Nat) (sa : Nat) (g : Nat → Int64) (z : Int64) (al : Int64) (dp : Int64) (wd : Int64) (lim : Int32)  : Met l yX2_badnessNow wsX2_badnessNow ({ frames := 1, cells := 0, slots := 0, locals := 25 }) (va_Pc [.ref pg] (PR dC dI cI cJ cO [(pg, .inr (2, [.ref su, .int bg, .int fi, .int go, .int be, .long lc])), (su, .inr (4, [.ref sa, .long z, .long al, .long dp, .long wd, .int lim])), (sa, .inl (cJ, 4, .inr (.inl g)))])) (vp_Sl (fun r : Int64 => r = bnw go (al - dp) z g)) 0 0 (fun _ => False) := by
  refine my_met (ws := wsX2_badnessNow) (cc := cX2_badnessNow) (maxL := 3) (ret := (some .long)) (by decide) rfl (Nat.le_of_ble_eq_true rfl) ?_
  intro p e s m below meth c ls X hl hv
  obtain ⟨hP, hK⟩ := hv
  obtain ⟨hx, hb, hr, hml, hown, hts, hlocks, hnm⟩ := id X
  have hl : lv_has ls 3 [(0, .ref pg)] := hl
  refine lv_aload_n hx hb dX2_badnessNow_0 rfl (lv_at hl 0 rfl) ?_
  refine my_get X hK in_X2_badnessNow_X2 hP 0 rfl rfl 3 (by decide) (List.mem_of_getElem? (i := 1) rfl) rfl dX2_badnessNow_1 ?_
  refine lv_i2l (v := go.toInt64) hx hb dX2_badnessNow_4 rfl ?_
  refine lv_aload_n hx hb dX2_badnessNow_5 rfl (lv_at hl 0 rfl) ?_
  refine my_get X hK in_X2_badnessNow_X2 hP 0 rfl rfl 0 (by decide) (List.mem_of_getElem? (i := 2) rfl) rfl dX2_badnessNow_6 ?_
  have hPc := hP.sub (ws' := [(su, .inr (4, [.ref sa, .long z, .long al, .long dp, .long wd, .int lim])), (sa, .inl (cJ, 4, .inr (.inl g)))]) [1, 2] rfl
  refine my_rdl (my_runV (n := 0) (As := []) (rest := [.long go.toInt64]) (C := RX4) X PR.blind (PR.pre hPc hK) (va_recv hK.1 hPc (ci := 4) (q0 := 0) rfl rfl) (c_total l dC dI cI cJ cO su sa g z al dp wd lim ) gX2_badnessNow_X4_total rfl rfl rfl (by decide +kernel) rfl ⟨Nat.le_of_ble_eq_true rfl, Nat.le_of_ble_eq_true rfl⟩ hl.1 rfl (Nat.le_of_ble_eq_true rfl) dX2_badnessNow_9 ⟨by first | decide | omega | (dsimp only; omega), by first | decide | omega | (dsimp only; omega)⟩) (fun r_1 hr_1 => ?_)
  subst hr_1
  refine lv_lsub hx hb dX2_badnessNow_12 ?_
  refine lv_lstore_n (lv' := [(1, .long (go.toInt64 - (al - dp))), (0, .ref pg)]) hx hb dX2_badnessNow_13 rfl hl (by decide) rfl (fun ls hl => ?_)
  refine lv_lload_n hx hb dX2_badnessNow_14 rfl (lv_at hl 0 rfl) ?_
  refine lv_lconst (v := 0) hx hb dX2_badnessNow_15 (by decide) ?_
  refine my_lif_ge (tgt := 52) hx hb dX2_badnessNow_16 dX2_badnessNow_17 (by decide) (fun c_16 => ?_) (fun c_16 => ?_)
  · refine lv_aload_n hx hb dX2_badnessNow_52 rfl (lv_at hl 1 rfl) ?_
    refine my_get X hK in_X2_badnessNow_X2 hP 0 rfl rfl 0 (by decide) (List.mem_of_getElem? (i := 2) rfl) rfl dX2_badnessNow_53 ?_
    have hPc := hP.sub (ws' := [(su, .inr (4, [.ref sa, .long z, .long al, .long dp, .long wd, .int lim])), (sa, .inl (cJ, 4, .inr (.inl g)))]) [1, 2] rfl
    refine my_rdi (my_runV (n := 0) (As := []) (rest := []) (C := RX4) X PR.blind (PR.pre hPc hK) (va_recv hK.1 hPc (ci := 4) (q0 := 0) rfl rfl) (c_highestOrder l dC dI cI cJ cO su sa g z al dp wd lim ) gX2_badnessNow_X4_highestOrder rfl rfl rfl (by decide +kernel) rfl ⟨Nat.le_of_ble_eq_true rfl, Nat.le_of_ble_eq_true rfl⟩ hl.1 rfl (Nat.le_of_ble_eq_true rfl) dX2_badnessNow_56 ⟨by first | decide | omega | (dsimp only; omega), by first | decide | omega | (dsimp only; omega)⟩) (fun r_2 hr_2 => ?_)
    subst hr_2
    refine lv_if_le (tgt := 66) hx hb dX2_badnessNow_59 (by decide) (fun c_59 => ?_) (fun c_59 => ?_)
    · refine lv_lload_n hx hb dX2_badnessNow_66 rfl (lv_at hl 0 rfl) ?_
      refine lv_aload_n hx hb dX2_badnessNow_67 rfl (lv_at hl 1 rfl) ?_
      refine my_get X hK in_X2_badnessNow_X2 hP 0 rfl rfl 0 (by decide) (List.mem_of_getElem? (i := 2) rfl) rfl dX2_badnessNow_68 ?_
      refine lv_iconst (v := 0) hx hb dX2_badnessNow_71 (by decide) ?_
      have hPc := hP.sub (ws' := [(su, .inr (4, [.ref sa, .long z, .long al, .long dp, .long wd, .int lim])), (sa, .inl (cJ, 4, .inr (.inl g)))]) [1, 2] rfl
      refine my_rdl (my_runV (n := 1) (As := [.int 0]) (rest := [.long (go.toInt64 - (al - dp))]) (C := RX4) X PR.blind (PR.pre hPc hK) (va_recv hK.1 hPc (ci := 4) (q0 := 0) rfl rfl) (c_stretchOf l dC dI cI cJ cO su sa g z al dp wd lim 0 ) gX2_badnessNow_X4_stretchOf rfl rfl rfl (by decide +kernel) rfl ⟨Nat.le_of_ble_eq_true rfl, Nat.le_of_ble_eq_true rfl⟩ hl.1 rfl (Nat.le_of_ble_eq_true rfl) dX2_badnessNow_72 ⟨by first | decide | omega | (dsimp only; omega), by first | decide | omega | (dsimp only; omega)⟩) (fun r_3 hr_3 => ?_)
      subst hr_3
      have hPc := hP.sub (ws' := []) [] rfl
      refine my_rdl (my_runSN (n := 2) (As := [.long (go.toInt64 - (al - dp)), .long (soF g 0)]) (rest := []) X hK PR.blind (PR.pre hPc hK) (c_badness l dC dI cI cJ cO (go.toInt64 - (al - dp)) (soF g 0) ) gX2_badnessNow_X5_badness_n60 rfl rfl rfl 5 rfl (List.mem_of_getElem? (i := 12) rfl) (List.mem_of_getElem? (i := 11) rfl) (by decide +kernel) rfl ⟨Nat.le_of_ble_eq_true rfl, Nat.le_of_ble_eq_true rfl⟩ hl.1 rfl (Nat.le_of_ble_eq_true rfl) dX2_badnessNow_75 ⟨by first | decide | omega | (dsimp only; omega), by first | decide | omega | (dsimp only; omega)⟩) (fun r_4 hr_4 => ?_)
      subst hr_4
      exact my_lretR X (by simp only [bnw, soF_0, c_16, c_59, if_true, if_false]) dX2_badnessNow_78
    · refine lv_lconst (v := 0) hx hb dX2_badnessNow_62 (by decide) ?_
      refine lv_goto (tgt := 78) hx hb dX2_badnessNow_63 (by decide) ?_
      exact my_lretR X (by simp only [bnw, soF_0, c_16, c_59, if_true, if_false]) dX2_badnessNow_78
  · refine lv_lload_n hx hb dX2_badnessNow_20 rfl (lv_at hl 0 rfl) ?_
    refine lv_lneg hx hb dX2_badnessNow_21 ?_
    refine lv_aload_n hx hb dX2_badnessNow_22 rfl (lv_at hl 1 rfl) ?_
    refine my_get X hK in_X2_badnessNow_X2 hP 0 rfl rfl 0 (by decide) (List.mem_of_getElem? (i := 2) rfl) rfl dX2_badnessNow_23 ?_
    refine my_getN X hK in_X2_badnessNow_X4 hP 1 rfl rfl 1 (by decide) 17 rfl rfl dX2_badnessNow_26 ?_
    refine my_lif_gt (tgt := 48) hx hb dX2_badnessNow_29 dX2_badnessNow_30 (by decide) (fun c_29 => ?_) (fun c_29 => ?_)
    · refine lv_ldc2 (v := (-1)) hx hb hown (hts _ (List.mem_of_getElem? (i := 3) rfl)) dX2_badnessNow_48 ?_
      exact my_lretR X (by simp only [bnw, soF_0, c_16, c_29, if_true, if_false]) dX2_badnessNow_51
    · refine lv_lload_n hx hb dX2_badnessNow_33 rfl (lv_at hl 0 rfl) ?_
      refine lv_lneg hx hb dX2_badnessNow_34 ?_
      refine lv_aload_n hx hb dX2_badnessNow_35 rfl (lv_at hl 1 rfl) ?_
      refine my_get X hK in_X2_badnessNow_X2 hP 0 rfl rfl 0 (by decide) (List.mem_of_getElem? (i := 2) rfl) rfl dX2_badnessNow_36 ?_
      refine my_getN X hK in_X2_badnessNow_X4 hP 1 rfl rfl 1 (by decide) 17 rfl rfl dX2_badnessNow_39 ?_
      have hPc := hP.sub (ws' := []) [] rfl
      refine my_rdl (my_runSN (n := 2) (As := [.long (-(go.toInt64 - (al - dp))), .long z]) (rest := []) X hK PR.blind (PR.pre hPc hK) (c_badness l dC dI cI cJ cO (-(go.toInt64 - (al - dp))) z ) gX2_badnessNow_X5_badness_n60 rfl rfl rfl 5 rfl (List.mem_of_getElem? (i := 12) rfl) (List.mem_of_getElem? (i := 11) rfl) (by decide +kernel) rfl ⟨Nat.le_of_ble_eq_true rfl, Nat.le_of_ble_eq_true rfl⟩ hl.1 rfl (Nat.le_of_ble_eq_true rfl) dX2_badnessNow_42 ⟨by first | decide | omega | (dsimp only; omega), by first | decide | omega | (dsimp only; omega)⟩) (fun r_5 hr_5 => ?_)
      subst hr_5
      refine lv_goto (tgt := 51) hx hb dX2_badnessNow_45 (by decide) ?_
      exact my_lretR X (by simp only [bnw, soF_0, c_16, c_29, if_true, if_false]) dX2_badnessNow_51
