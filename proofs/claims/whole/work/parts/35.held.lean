theorem in_X3_held_X1 : ∀ w ∈ wsX10, w ∈ wsX3_held := fun _ h => List.mem_cons_of_mem _ (List.mem_append_left _ (List.mem_append_right _ h))
theorem in_X3_held_X3 : ∀ w ∈ wsX30, w ∈ wsX3_held := fun _ h => List.mem_cons_of_mem _ (List.mem_append_left _ (List.mem_append_left _ (List.mem_append_right _ h)))
set_option maxHeartbeats 200000 in
set_option maxRecDepth 100000 in
theorem lp_held {p : Program} {l : Launch} {e : Env} {s : State} {m : MethodId} {below : List Frame} {meth : Method} {c : Code} {dC : Nat → ClassId} {dI : Nat → Nat → Nat} {cI cJ cO : ClassId} (sf : Nat) (pa : Nat) (kp : Nat) (la : Nat) (em : Int32) (pf : Nat → Option Nat) (T : Nat → PRec) (ss : List Nat) (hkp : kp ≤ 8) (hla : la < 8) (hok : hOK pf T ss kp la) (hsm : hsum T la kp < 100000) (X : Cx p s m ([.ref sf] : List Value).toArray meth c cX3_held (some .int) 4 yX3_held.cls yX3_held.name wsX3_held) (hK : Kn dC dI cI cJ cO s) (hP : va_P (dC, dI) vwCl (([(sf, .inr (3, [.ref pa, .int (nI kp), .int (nI la), .int em])), (pa, .inl (cO, 8, .inr (.inr (.inr (.inr pf)))))] : va_W) ++ pws cI T ss) s.heap) : ∀ (fu9 : Nat) (t : Nat) (ht : t ≤ kp), kp - t < fu9 → ∀ (ls : Array Slot), lv_has ls 4 [(0, .ref sf), (1, .int (nI (kp + hsum T la t))), (2, .int (nI t))] → W p l e ({ frames := 2, cells := 0, slots := 0, locals := 43 }) s m ([.ref sf] : List Value).toArray below meth c s.heap [] 0 0 (MQ below (vp_Si (fun r : Int32 => r = nI (kp + hsum T la kp))) ([.ref sf] : List Value).toArray s 0 0 (fun _ => False)) (F0 m 7 ls []) := by
  obtain ⟨hx, hb, hr, hml, hown, hts, hlocks, hnm⟩ := id X
  intro fu9
  induction fu9 with
  | zero =>
    intro t ht hfu
    exact absurd hfu (Nat.not_lt_zero _)
  | succ fu9 ih =>
    intro t ht hfu ls hl
    have hmm := hsum_mono T la ht
    have hmk : t < kp → hsum T la (t + 1) ≤ hsum T la kp := fun q => hsum_mono T la (by omega)
    refine lv_iload_n hx hb dX3_held_7 rfl (lv_at hl 2 rfl) ?_
    refine lv_aload_n hx hb dX3_held_8 rfl (lv_at hl 0 rfl) ?_
    refine my_get X hK in_X3_held_X3 hP 0 rfl rfl 1 (by decide) (List.mem_of_getElem? (i := 1) rfl) rfl dX3_held_9 ?_
    refine lv_icmp_ge (tgt := 45) hx hb dX3_held_12 (by decide) (fun c_12 => ?_) (fun c_12 => ?_)
    · have c_12 := nc_le (a := kp) (b := t) c_12 (by omega) (by omega)
      refine lv_iload_n hx hb dX3_held_45 rfl (lv_at hl 1 rfl) ?_
      exact my_iretR X (by rw [show t = kp by omega]) dX3_held_46
    · have c_12 := nc_nle (a := kp) (b := t) c_12 (by omega) (by omega)
      refine lv_aload_n hx hb dX3_held_15 rfl (lv_at hl 0 rfl) ?_
      refine lv_iload_n hx hb dX3_held_16 rfl (lv_at hl 2 rfl) ?_
      have hPc := hP.sub (ws' := [(sf, .inr (3, [.ref pa, .int (nI kp), .int (nI la), .int em])), (pa, .inl (cO, 8, .inr (.inr (.inr (.inr pf)))))]) [0, 1] rfl
      refine my_rdq (my_runV (n := 1) (As := [.int (nI t)]) (rest := []) (C := RX3) X PR.blind (PR.pre hPc hK) (va_recv hK.1 hPc (ci := 3) (q0 := 0) rfl rfl) (c_madePage l dC dI cI cJ cO sf pa kp la em pf (nI t) (by omega) (by omega)) gX3_held_X3_madePage rfl rfl rfl (by decide +kernel) rfl ⟨Nat.le_of_ble_eq_true rfl, Nat.le_of_ble_eq_true rfl⟩ hl.1 rfl (Nat.le_of_ble_eq_true rfl) dX3_held_17 ⟨by first | decide | omega | (dsimp only; omega), by first | decide | omega | (dsimp only; omega)⟩) (fun r_1 hr_1 => ?_)
      subst hr_1
      obtain ⟨hpf, hmem⟩ := hok t (by omega)
      have hmp : (if ¬ nI t < 0 ∧ ¬ nI kp ≤ nI t then pf ((la + 8 - (nI t).toNatClampNeg) % 8) else none) = some (T ((la + 8 - t) % 8)).1 := by rw [if_pos ⟨nI_pos (by omega), by intro q9; exact absurd (nc_le (a := kp) (b := t) q9 (by omega) (by omega)) (by omega)⟩, nI_clamp (by omega)]; exact hpf
      refine my_topq hmp ?_
      refine lv_astore_n (lv' := [(3, .ref ((T ((la + 8 - t) % 8)).1)), (0, .ref sf), (1, .int (nI (kp + hsum T la t))), (2, .int (nI t))]) hx hb dX3_held_20 rfl hl (by decide) rfl (fun ls hl => ?_)
      refine lv_iload_n hx hb dX3_held_21 rfl (lv_at hl 2 rfl) ?_
      refine lv_aload_n hx hb dX3_held_22 rfl (lv_at hl 0 rfl) ?_
      refine lv_ifnonnull (tgt := 30) hx hb dX3_held_23 (by decide) ?_
      have hP0 := hP
      have hP : va_P (dC, dI) vwCl (pcells cI (T ((la + 8 - t) % 8))) s.heap := pws_get hP0 hmem
      refine lv_aload_n hx hb dX3_held_30 rfl (lv_at hl 0 rfl) ?_
      refine my_getN X hK in_X3_held_X1 hP 0 rfl rfl 0 (by decide) 18 rfl rfl dX3_held_31 ?_
      have hPc := hP.sub (ws' := [((T ((la + 8 - t) % 8)).2.1, .inr (0, [.ref ((T ((la + 8 - t) % 8)).2.2.1), .int (nI ((T ((la + 8 - t) % 8)).2.2.2.2.2.1))])), ((T ((la + 8 - t) % 8)).2.2.1, .inl (cI, ((T ((la + 8 - t) % 8)).2.2.2.1 * 8), .inl ((T ((la + 8 - t) % 8)).2.2.2.2.1)))]) [1, 2] rfl
      refine my_rdi (my_runV (n := 0) (As := []) (rest := [.int (nI (kp + hsum T la t))]) (C := RX0) X PR.blind (PR.pre hPc hK) (va_recv hK.1 hPc (ci := 0) (q0 := 0) rfl rfl) (c_size l dC dI cI cJ cO ((T ((la + 8 - t) % 8)).2.1) ((T ((la + 8 - t) % 8)).2.2.1) ((T ((la + 8 - t) % 8)).2.2.2.1) ((T ((la + 8 - t) % 8)).2.2.2.2.1) ((T ((la + 8 - t) % 8)).2.2.2.2.2.1) ) gX3_held_X0_size rfl rfl rfl (by decide +kernel) rfl ⟨Nat.le_of_ble_eq_true rfl, Nat.le_of_ble_eq_true rfl⟩ hl.1 rfl (Nat.le_of_ble_eq_true rfl) dX3_held_34 ⟨by first | decide | omega | (dsimp only; omega), by first | decide | omega | (dsimp only; omega)⟩) (fun r_2 hr_2 => ?_)
      subst hr_2
      have hP := hP0
      refine lv_iadd hx hb dX3_held_37 ?_
      refine my_topi (nI_add (kp + hsum T la t) ((T ((la + 8 - t) % 8)).2.2.2.2.2.1)) ?_
      refine my_topi (show nI (kp + hsum T la t + ((T ((la + 8 - t) % 8)).2.2.2.2.2.1)) = nI (kp + hsum T la (t + 1)) from congrArg nI (by simp only [hsum]; omega)) ?_
      refine lv_istore_n (lv' := [(1, .int (nI (kp + hsum T la (t + 1)))), (3, .ref ((T ((la + 8 - t) % 8)).1)), (0, .ref sf), (2, .int (nI t))]) hx hb dX3_held_38 rfl hl (by decide) rfl (fun ls hl => ?_)
      refine lv_iinc (v := nI (t + 1)) (lv' := [(2, .int (nI (t + 1))), (1, .int (nI (kp + hsum T la (t + 1)))), (3, .ref ((T ((la + 8 - t) % 8)).1)), (0, .ref sf)]) hx hb dX3_held_39 hl (k := 3) rfl (nI_add t 1) (by decide) rfl (fun ls hl => ?_)
      refine lv_goto (tgt := 7) hx hb dX3_held_42 (by decide) ?_
      exact ih  (t + 1) (by omega) (by omega) ls (lv_sub hl [3, 1, 0] rfl)
set_option maxHeartbeats 200000 in
set_option maxRecDepth 100000 in
theorem c_held (l : Launch) (dC : Nat → ClassId) (dI : Nat → Nat → Nat) (cI cJ cO : ClassId) (sf : Nat) (pa : Nat) (kp : Nat) (la : Nat) (em : Int32) (pf : Nat → Option Nat) (T : Nat → PRec) (ss : List Nat) (hkp : kp ≤ 8) (hla : la < 8) (hok : hOK pf T ss kp la) (hsm : hsum T la kp < 100000) : Met l yX3_held wsX3_held ({ frames := 2, cells := 0, slots := 0, locals := 43 }) (va_Pc [.ref sf] (PR dC dI cI cJ cO (([(sf, .inr (3, [.ref pa, .int (nI kp), .int (nI la), .int em])), (pa, .inl (cO, 8, .inr (.inr (.inr (.inr pf)))))] : va_W) ++ pws cI T ss))) (vp_Si (fun r : Int32 => r = nI (kp + hsum T la kp))) 0 0 (fun _ => False) := by
  refine my_met (ws := wsX3_held) (cc := cX3_held) (maxL := 4) (ret := (some .int)) (by decide) rfl (Nat.le_of_ble_eq_true rfl) ?_
  intro p e s m below meth c ls X hl hv
  obtain ⟨hP, hK⟩ := hv
  obtain ⟨hx, hb, hr, hml, hown, hts, hlocks, hnm⟩ := id X
  have hl : lv_has ls 4 [(0, .ref sf)] := hl
  refine lv_aload_n hx hb dX3_held_0 rfl (lv_at hl 0 rfl) ?_
  refine my_get X hK in_X3_held_X3 hP 0 rfl rfl 1 (by decide) (List.mem_of_getElem? (i := 1) rfl) rfl dX3_held_1 ?_
  refine lv_istore_n (lv' := [(1, .int (nI kp)), (0, .ref sf)]) hx hb dX3_held_4 rfl hl (by decide) rfl (fun ls hl => ?_)
  refine lv_iconst (v := 0) hx hb dX3_held_5 (by decide) ?_
  refine lv_istore_n (lv' := [(2, .int 0), (1, .int (nI kp)), (0, .ref sf)]) hx hb dX3_held_6 rfl hl (by decide) rfl (fun ls hl => ?_)
  have hl : lv_has ls 4 [(2, .int 0), (1, .int (nI (kp + hsum T la 0))), (0, .ref sf)] := hl
  exact lp_held sf pa kp la em pf T ss hkp hla hok hsm X hK hP (kp - 0 + 1) 0 (by omega) (by omega) ls (lv_sub hl [2, 1, 0] rfl)
