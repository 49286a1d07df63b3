theorem in_X6_share_X6 : ∀ w ∈ wsX60, w ∈ wsX6_share := fun _ h => List.mem_cons_of_mem _ (List.mem_append_right _ h)
set_option maxHeartbeats 200000 in
set_option maxRecDepth 100000 in
theorem lp_mshare1 {p : Program} {l : Launch} {e : Env} {s : State} {m : MethodId} {below : List Frame} {meth : Method} {c : Code} {dC : Nat → ClassId} {dI : Nat → Nat → Nat} {cI cJ cO : ClassId} {A : Nat → Prop} (md : Nat) (thr : Int32) (com : Nat) (the : Nat) (kep : Nat) (mad : Int32) (hei : Int32) (lmt : Int32) (twi : Int32) (tst : Int32) (tor : Int32) (tsh : Int32) (goa : Int32) (mos : Int32) (bes : Int32) (cos : Int32) (tot : Int64) (dep : Int64) (wid : Int64) (shs : Int64) (aK : Nat) (aW : Nat) (aH : Nat) (aD : Nat) (aS : Nat) (aO : Nat) (aZ : Nat) (aM : Nat) (aI : Nat) (aHt : Nat) (aDp : Nat) (aWd : Nat) (aSt : Nat) (kd : Nat → Int32) (sh : Nat → Int32) (od : Nat → Int32) (sk : Nat → Int32) (mo : Nat → Int64) (sts : Nat → Int64) (fr : Nat) (n : Nat) (ex : Int64) (hn : fr + n ≤ 12700) (X : Cx p s m ([.ref md, .int (nI fr), .int (nI n), .long ex] : List Value).toArray meth c cX6_share none 17 yX6_share.cls yX6_share.name wsX6_share) (hK : Kn dC dI cI cJ cO s) (hA : ∀ q : Nat, s.heap.size ≤ q → A q) : ∀ (fu9 : Nat) (oo : Nat) (sv : Int64) (ev : Int64) (t : Nat) (ho : oo < 4) (hfin : shM mo (gG kd od sv oo) (amG kd od sh sv oo) ev sv fr n = if 0 < ex then shM mo (gG kd od (sts (mho sts)) (mho sts)) (amG kd od sh (sts (mho sts)) (mho sts)) ex (sts (mho sts)) fr n else shM mo (gS kd shs) (amS kd sk shs) (if ex < -shs then -shs else ex) shs fr n) (ht : t ≤ n), n - t < fu9 → ∀ (H : Heap) (locs : List Loc), va_P (dC, dI) vwCl ([(md, .inr (6, [.int thr, .ref aK, .ref aW, .ref aH, .ref aD, .ref aS, .ref aO, .ref aZ, .ref aM, .int (nI com), .int (nI the), .int (nI kep), .ref aI, .ref aHt, .ref aDp, .ref aWd, .int mad, .int hei, .int lmt, .int twi, .int tst, .int tor, .int tsh, .int goa, .int mos, .int bes, .int cos, .long tot, .long dep, .long wid, .long shs, .ref aSt])), (aK, .inl (cI, 12700, .inl kd)), (aS, .inl (cI, 12700, .inl sh)), (aO, .inl (cI, 12700, .inl od)), (aZ, .inl (cI, 12700, .inl sk)), (aM, .inl (cJ, 12700, .inr (.inl (shM mo (gG kd od sv oo) (amG kd od sh sv oo) ev sv fr t)))), (aSt, .inl (cJ, 4, .inr (.inl sts)))]) H → va_D A ([(md, .inr (6, [.int thr, .ref aK, .ref aW, .ref aH, .ref aD, .ref aS, .ref aO, .ref aZ, .ref aM, .int (nI com), .int (nI the), .int (nI kep), .ref aI, .ref aHt, .ref aDp, .ref aWd, .int mad, .int hei, .int lmt, .int twi, .int tst, .int tor, .int tsh, .int goa, .int mos, .int bes, .int cos, .long tot, .long dep, .long wid, .long shs, .ref aSt])), (aK, .inl (cI, 12700, .inl kd)), (aS, .inl (cI, 12700, .inl sh)), (aO, .inl (cI, 12700, .inl od)), (aZ, .inl (cI, 12700, .inl sk)), (aM, .inl (cJ, 12700, .inr (.inl (shM mo (gG kd od sv oo) (amG kd od sh sv oo) ev sv fr t)))), (aSt, .inl (cJ, 4, .inr (.inl sts)))]) → va_S A s.heap H locs → ∀ (ls : Array Slot), lv_has ls 17 [(0, .ref md), (1, .int (nI fr)), (2, .int (nI n)), (3, .long ex), (5, .int (nI oo)), (6, .int 1), (7, .long sv), (9, .long ev), (11, .long (mB (amG kd od sh sv oo) fr t)), (13, .int (nI (fr + t)))] → W p l e ({ frames := 1, cells := 0, slots := 0, locals := 25 }) s m ([.ref md, .int (nI fr), .int (nI n), .long ex] : List Value).toArray below meth c H locs (0) (0) (MQ below (va_Qv (fun mo1 : Nat → Int64 => mo1 = (if 0 < ex then shM mo (gG kd od (sts (mho sts)) (mho sts)) (amG kd od sh (sts (mho sts)) (mho sts)) ex (sts (mho sts)) fr n else shM mo (gS kd shs) (amS kd sk shs) (if ex < -shs then -shs else ex) shs fr n)) (fun (mo1 : Nat → Int64) t9 => BW dC dI A [(md, .inr (6, [.int thr, .ref aK, .ref aW, .ref aH, .ref aD, .ref aS, .ref aO, .ref aZ, .ref aM, .int (nI com), .int (nI the), .int (nI kep), .ref aI, .ref aHt, .ref aDp, .ref aWd, .int mad, .int hei, .int lmt, .int twi, .int tst, .int tor, .int tsh, .int goa, .int mos, .int bes, .int cos, .long tot, .long dep, .long wid, .long shs, .ref aSt])), (aK, .inl (cI, 12700, .inl kd)), (aS, .inl (cI, 12700, .inl sh)), (aO, .inl (cI, 12700, .inl od)), (aZ, .inl (cI, 12700, .inl sk)), (aM, .inl (cJ, 12700, .inr (.inl mo1))), (aSt, .inl (cJ, 4, .inr (.inl sts)))] t9) A) ([.ref md, .int (nI fr), .int (nI n), .long ex] : List Value).toArray s 0 0 A) (F0 m 92 ls []) := by
  obtain ⟨hx, hb, hr, hml, hown, hts, hlocks, hnm⟩ := id X
  intro fu9
  induction fu9 with
  | zero =>
    intro oo sv ev t ho hfin ht hfu
    exact absurd hfu (Nat.not_lt_zero _)
  | succ fu9 ih =>
    intro oo sv ev t ho hfin ht hfu H locs hP hD hS ls hl
    refine lv_iload hx hb dX6_share_92 (lv_at hl 9 rfl) ?_
    refine lv_iload_n hx hb dX6_share_94 rfl (lv_at hl 1 rfl) ?_
    refine lv_iload_n hx hb dX6_share_95 rfl (lv_at hl 2 rfl) ?_
    refine lv_iadd hx hb dX6_share_96 ?_
    refine my_topi (nI_add fr n) ?_
    refine lv_icmp_ge (tgt := 226) hx hb dX6_share_97 (by decide) (fun c_97 => ?_) (fun c_97 => ?_)
    · have c_97 := nc_le (a := fr + n) (b := fr + t) c_97 (by omega) (by omega)
      exact my_vret (WSf := (fun mo1 : Nat → Int64 => [(md, .inr (6, [.int thr, .ref aK, .ref aW, .ref aH, .ref aD, .ref aS, .ref aO, .ref aZ, .ref aM, .int (nI com), .int (nI the), .int (nI kep), .ref aI, .ref aHt, .ref aDp, .ref aWd, .int mad, .int hei, .int lmt, .int twi, .int tst, .int tor, .int tsh, .int goa, .int mos, .int bes, .int cos, .long tot, .long dep, .long wid, .long shs, .ref aSt])), (aK, .inl (cI, 12700, .inl kd)), (aS, .inl (cI, 12700, .inl sh)), (aO, .inl (cI, 12700, .inl od)), (aZ, .inl (cI, 12700, .inl sk)), (aM, .inl (cJ, 12700, .inr (.inl mo1))), (aSt, .inl (cJ, 4, .inr (.inl sts)))])) (shM mo (gG kd od sv oo) (amG kd od sh sv oo) ev sv fr t) X (by rw [show t = n by omega]; exact hfin) (hP) (hD) hS (by first | decide | omega | (dsimp only; omega)) (by first | decide | omega | (dsimp only; omega)) dX6_share_226
    · have c_97 := nc_nle (a := fr + n) (b := fr + t) c_97 (by omega) (by omega)
      refine lv_aload_n hx hb dX6_share_100 rfl (lv_at hl 0 rfl) ?_
      refine my_get X hK in_X6_share_X6 hP 0 rfl rfl 1 (by decide) (List.mem_of_getElem? (i := 3) rfl) rfl dX6_share_101 ?_
      refine lv_iload hx hb dX6_share_104 (lv_at hl 9 rfl) ?_
      refine my_iald (k := (fr + t)) hx hb hK hP 1 rfl (rfl) (by omega) (by omega) dX6_share_106 ?_
      refine lv_iconst (v := 5) hx hb dX6_share_107 (by decide) ?_
      refine lv_icmp_ne (tgt := 139) hx hb dX6_share_108 (by decide) (fun c_108 => ?_) (fun c_108 => ?_)
      · refine lv_iconst (v := 0) hx hb dX6_share_139 (by decide) ?_
        refine lv_istore (lv' := [(14, .int 0), (0, .ref md), (1, .int (nI fr)), (2, .int (nI n)), (3, .long ex), (5, .int (nI oo)), (6, .int 1), (7, .long sv), (9, .long ev), (11, .long (mB (amG kd od sh sv oo) fr t)), (13, .int (nI (fr + t)))]) hx hb dX6_share_140 hl (by decide) rfl (fun ls hl => ?_)
        refine lv_lload hx hb dX6_share_142 (lv_at hl 9 rfl) ?_
        refine lv_iload hx hb dX6_share_144 (lv_at hl 0 rfl) ?_
        refine lv_if_eq (tgt := 174) hx hb dX6_share_146 (by decide) (fun c_146 => ?_) (fun c_146 => ?_)
        · have c_146 := nc_eq (a := 0) (b := 0) c_146 (by omega) (by omega)
          refine lv_iconst (v := 0) hx hb dX6_share_174 (by decide) ?_
          refine lv_i2l (v := (0 : Int32).toInt64) hx hb dX6_share_175 rfl ?_
          refine lv_ladd hx hb dX6_share_176 ?_
          refine my_topl (y := mB (amG kd od sh sv oo) fr (t + 1)) (by simp [mB, amG, gG, c_108]) ?_
          refine lv_lstore (lv' := [(15, .long (mB (amG kd od sh sv oo) fr (t + 1))), (14, .int 0), (0, .ref md), (1, .int (nI fr)), (2, .int (nI n)), (3, .long ex), (5, .int (nI oo)), (6, .int 1), (7, .long sv), (9, .long ev), (11, .long (mB (amG kd od sh sv oo) fr t)), (13, .int (nI (fr + t)))]) hx hb dX6_share_177 hl (by decide) rfl (fun ls hl => ?_)
          refine lv_aload_n hx hb dX6_share_179 rfl (lv_at hl 2 rfl) ?_
          refine my_get X hK in_X6_share_X6 hP 0 rfl rfl 8 (by decide) (List.mem_of_getElem? (i := 7) rfl) rfl dX6_share_180 ?_
          refine lv_iload hx hb dX6_share_183 (lv_at hl 11 rfl) ?_
          refine lv_iload hx hb dX6_share_185 (lv_at hl 1 rfl) ?_
          refine lv_if_eq (tgt := 214) hx hb dX6_share_187 (by decide) (fun c_187 => ?_) (fun c_187 => ?_)
          · have c_187 := nc_eq (a := 0) (b := 0) c_187 (by omega) (by omega)
            refine lv_lconst (v := 0) hx hb dX6_share_214 (by decide) ?_
            refine my_last (k := (fr + t)) hx hb hK hP hD hS 5 rfl (rfl) (by omega) (by omega) dX6_share_215 (fun H locs hP hD hS => ?_)
            have hP : va_P (dC, dI) vwCl ([(md, .inr (6, [.int thr, .ref aK, .ref aW, .ref aH, .ref aD, .ref aS, .ref aO, .ref aZ, .ref aM, .int (nI com), .int (nI the), .int (nI kep), .ref aI, .ref aHt, .ref aDp, .ref aWd, .int mad, .int hei, .int lmt, .int twi, .int tst, .int tor, .int tsh, .int goa, .int mos, .int bes, .int cos, .long tot, .long dep, .long wid, .long shs, .ref aSt])), (aK, .inl (cI, 12700, .inl kd)), (aS, .inl (cI, 12700, .inl sh)), (aO, .inl (cI, 12700, .inl od)), (aZ, .inl (cI, 12700, .inl sk)), (aM, .inl (cJ, 12700, .inr (.inl (vp_updL (shM mo (gG kd od sv oo) (amG kd od sh sv oo) ev sv fr t) (fr + t) 0)))), (aSt, .inl (cJ, 4, .inr (.inl sts)))]) H := hP
            have hD : va_D A ([(md, .inr (6, [.int thr, .ref aK, .ref aW, .ref aH, .ref aD, .ref aS, .ref aO, .ref aZ, .ref aM, .int (nI com), .int (nI the), .int (nI kep), .ref aI, .ref aHt, .ref aDp, .ref aWd, .int mad, .int hei, .int lmt, .int twi, .int tst, .int tor, .int tsh, .int goa, .int mos, .int bes, .int cos, .long tot, .long dep, .long wid, .long shs, .ref aSt])), (aK, .inl (cI, 12700, .inl kd)), (aS, .inl (cI, 12700, .inl sh)), (aO, .inl (cI, 12700, .inl od)), (aZ, .inl (cI, 12700, .inl sk)), (aM, .inl (cJ, 12700, .inr (.inl (vp_updL (shM mo (gG kd od sv oo) (amG kd od sh sv oo) ev sv fr t) (fr + t) 0)))), (aSt, .inl (cJ, 4, .inr (.inl sts)))]) := hD
            refine lv_lload hx hb dX6_share_216 (lv_at hl 0 rfl) ?_
            refine lv_lstore (lv' := [(11, .long (mB (amG kd od sh sv oo) fr (t + 1))), (15, .long (mB (amG kd od sh sv oo) fr (t + 1))), (14, .int 0), (0, .ref md), (1, .int (nI fr)), (2, .int (nI n)), (3, .long ex), (5, .int (nI oo)), (6, .int 1), (7, .long sv), (9, .long ev), (13, .int (nI (fr + t)))]) hx hb dX6_share_218 hl (by decide) rfl (fun ls hl => ?_)
            refine lv_iinc (v := nI (fr + t + 1)) (lv' := [(13, .int (nI (fr + t + 1))), (11, .long (mB (amG kd od sh sv oo) fr (t + 1))), (15, .long (mB (amG kd od sh sv oo) fr (t + 1))), (14, .int 0), (0, .ref md), (1, .int (nI fr)), (2, .int (nI n)), (3, .long ex), (5, .int (nI oo)), (6, .int 1), (7, .long sv), (9, .long ev)]) hx hb dX6_share_220 hl (k := 11) rfl (nI_add (fr + t) 1) (by decide) rfl (fun ls hl => ?_)
            refine lv_goto (tgt := 92) hx hb dX6_share_223 (by decide) ?_
            rw [shM_s mo (gG kd od sv oo) (amG kd od sh sv oo) ev sv fr t _ (by simp [gG, c_108])] at hP hD
            have hP : va_P (dC, dI) vwCl ([(md, .inr (6, [.int thr, .ref aK, .ref aW, .ref aH, .ref aD, .ref aS, .ref aO, .ref aZ, .ref aM, .int (nI com), .int (nI the), .int (nI kep), .ref aI, .ref aHt, .ref aDp, .ref aWd, .int mad, .int hei, .int lmt, .int twi, .int tst, .int tor, .int tsh, .int goa, .int mos, .int bes, .int cos, .long tot, .long dep, .long wid, .long shs, .ref aSt])), (aK, .inl (cI, 12700, .inl kd)), (aS, .inl (cI, 12700, .inl sh)), (aO, .inl (cI, 12700, .inl od)), (aZ, .inl (cI, 12700, .inl sk)), (aM, .inl (cJ, 12700, .inr (.inl (shM mo (gG kd od sv oo) (amG kd od sh sv oo) ev sv fr (t + 1))))), (aSt, .inl (cJ, 4, .inr (.inl sts)))]) H := hP
            have hD : va_D A ([(md, .inr (6, [.int thr, .ref aK, .ref aW, .ref aH, .ref aD, .ref aS, .ref aO, .ref aZ, .ref aM, .int (nI com), .int (nI the), .int (nI kep), .ref aI, .ref aHt, .ref aDp, .ref aWd, .int mad, .int hei, .int lmt, .int twi, .int tst, .int tor, .int tsh, .int goa, .int mos, .int bes, .int cos, .long tot, .long dep, .long wid, .long shs, .ref aSt])), (aK, .inl (cI, 12700, .inl kd)), (aS, .inl (cI, 12700, .inl sh)), (aO, .inl (cI, 12700, .inl od)), (aZ, .inl (cI, 12700, .inl sk)), (aM, .inl (cJ, 12700, .inr (.inl (shM mo (gG kd od sv oo) (amG kd od sh sv oo) ev sv fr (t + 1))))), (aSt, .inl (cJ, 4, .inr (.inl sts)))]) := hD
            exact ih  oo sv ev (t + 1) (by omega) hfin (by omega) (by omega) _ _ hP hD hS ls (lv_sub hl [4, 5, 6, 7, 8, 9, 10, 11, 1, 0] rfl)
          · exact absurd c_187 (by decide)
        · exact absurd c_146 (by decide)
      · refine lv_lload hx hb dX6_share_111 (lv_at hl 6 rfl) ?_
        refine lv_lconst (v := 0) hx hb dX6_share_113 (by decide) ?_
        refine my_lif_le (tgt := 139) hx hb dX6_share_114 dX6_share_115 (by decide) (fun c_114 => ?_) (fun c_114 => ?_)
        · refine lv_iconst (v := 0) hx hb dX6_share_139 (by decide) ?_
          refine lv_istore (lv' := [(14, .int 0), (0, .ref md), (1, .int (nI fr)), (2, .int (nI n)), (3, .long ex), (5, .int (nI oo)), (6, .int 1), (7, .long sv), (9, .long ev), (11, .long (mB (amG kd od sh sv oo) fr t)), (13, .int (nI (fr + t)))]) hx hb dX6_share_140 hl (by decide) rfl (fun ls hl => ?_)
          refine lv_lload hx hb dX6_share_142 (lv_at hl 9 rfl) ?_
          refine lv_iload hx hb dX6_share_144 (lv_at hl 0 rfl) ?_
          refine lv_if_eq (tgt := 174) hx hb dX6_share_146 (by decide) (fun c_146 => ?_) (fun c_146 => ?_)
          · have c_146 := nc_eq (a := 0) (b := 0) c_146 (by omega) (by omega)
            refine lv_iconst (v := 0) hx hb dX6_share_174 (by decide) ?_
            refine lv_i2l (v := (0 : Int32).toInt64) hx hb dX6_share_175 rfl ?_
            refine lv_ladd hx hb dX6_share_176 ?_
            refine my_topl (y := mB (amG kd od sh sv oo) fr (t + 1)) (by simp [mB, amG, gG, c_108, c_114]) ?_
            refine lv_lstore (lv' := [(15, .long (mB (amG kd od sh sv oo) fr (t + 1))), (14, .int 0), (0, .ref md), (1, .int (nI fr)), (2, .int (nI n)), (3, .long ex), (5, .int (nI oo)), (6, .int 1), (7, .long sv), (9, .long ev), (11, .long (mB (amG kd od sh sv oo) fr t)), (13, .int (nI (fr + t)))]) hx hb dX6_share_177 hl (by decide) rfl (fun ls hl => ?_)
            refine lv_aload_n hx hb dX6_share_179 rfl (lv_at hl 2 rfl) ?_
            refine my_get X hK in_X6_share_X6 hP 0 rfl rfl 8 (by decide) (List.mem_of_getElem? (i := 7) rfl) rfl dX6_share_180 ?_
            refine lv_iload hx hb dX6_share_183 (lv_at hl 11 rfl) ?_
            refine lv_iload hx hb dX6_share_185 (lv_at hl 1 rfl) ?_
            refine lv_if_eq (tgt := 214) hx hb dX6_share_187 (by decide) (fun c_187 => ?_) (fun c_187 => ?_)
            · have c_187 := nc_eq (a := 0) (b := 0) c_187 (by omega) (by omega)
              refine lv_lconst (v := 0) hx hb dX6_share_214 (by decide) ?_
              refine my_last (k := (fr + t)) hx hb hK hP hD hS 5 rfl (rfl) (by omega) (by omega) dX6_share_215 (fun H locs hP hD hS => ?_)
              have hP : va_P (dC, dI) vwCl ([(md, .inr (6, [.int thr, .ref aK, .ref aW, .ref aH, .ref aD, .ref aS, .ref aO, .ref aZ, .ref aM, .int (nI com), .int (nI the), .int (nI kep), .ref aI, .ref aHt, .ref aDp, .ref aWd, .int mad, .int hei, .int lmt, .int twi, .int tst, .int tor, .int tsh, .int goa, .int mos, .int bes, .int cos, .long tot, .long dep, .long wid, .long shs, .ref aSt])), (aK, .inl (cI, 12700, .inl kd)), (aS, .inl (cI, 12700, .inl sh)), (aO, .inl (cI, 12700, .inl od)), (aZ, .inl (cI, 12700, .inl sk)), (aM, .inl (cJ, 12700, .inr (.inl (vp_updL (shM mo (gG kd od sv oo) (amG kd od sh sv oo) ev sv fr t) (fr + t) 0)))), (aSt, .inl (cJ, 4, .inr (.inl sts)))]) H := hP
              have hD : va_D A ([(md, .inr (6, [.int thr, .ref aK, .ref aW, .ref aH, .ref aD, .ref aS, .ref aO, .ref aZ, .ref aM, .int (nI com), .int (nI the), .int (nI kep), .ref aI, .ref aHt, .ref aDp, .ref aWd, .int mad, .int hei, .int lmt, .int twi, .int tst, .int tor, .int tsh, .int goa, .int mos, .int bes, .int cos, .long tot, .long dep, .long wid, .long shs, .ref aSt])), (aK, .inl (cI, 12700, .inl kd)), (aS, .inl (cI, 12700, .inl sh)), (aO, .inl (cI, 12700, .inl od)), (aZ, .inl (cI, 12700, .inl sk)), (aM, .inl (cJ, 12700, .inr (.inl (vp_updL (shM mo (gG kd od sv oo) (amG kd od sh sv oo) ev sv fr t) (fr + t) 0)))), (aSt, .inl (cJ, 4, .inr (.inl sts)))]) := hD
              refine lv_lload hx hb dX6_share_216 (lv_at hl 0 rfl) ?_
              refine lv_lstore (lv' := [(11, .long (mB (amG kd od sh sv oo) fr (t + 1))), (15, .long (mB (amG kd od sh sv oo) fr (t + 1))), (14, .int 0), (0, .ref md), (1, .int (nI fr)), (2, .int (nI n)), (3, .long ex), (5, .int (nI oo)), (6, .int 1), (7, .long sv), (9, .long ev), (13, .int (nI (fr + t)))]) hx hb dX6_share_218 hl (by decide) rfl (fun ls hl => ?_)
              refine lv_iinc (v := nI (fr + t + 1)) (lv' := [(13, .int (nI (fr + t + 1))), (11, .long (mB (amG kd od sh sv oo) fr (t + 1))), (15, .long (mB (amG kd od sh sv oo) fr (t + 1))), (14, .int 0), (0, .ref md), (1, .int (nI fr)), (2, .int (nI n)), (3, .long ex), (5, .int (nI oo)), (6, .int 1), (7, .long sv), (9, .long ev)]) hx hb dX6_share_220 hl (k := 11) rfl (nI_add (fr + t) 1) (by decide) rfl (fun ls hl => ?_)
              refine lv_goto (tgt := 92) hx hb dX6_share_223 (by decide) ?_
              rw [shM_s mo (gG kd od sv oo) (amG kd od sh sv oo) ev sv fr t _ (by simp [gG, c_108, c_114])] at hP hD
              have hP : va_P (dC, dI) vwCl ([(md, .inr (6, [.int thr, .ref aK, .ref aW, .ref aH, .ref aD, .ref aS, .ref aO, .ref aZ, .ref aM, .int (nI com), .int (nI the), .int (nI kep), .ref aI, .ref aHt, .ref aDp, .ref aWd, .int mad, .int hei, .int lmt, .int twi, .int tst, .int tor, .int tsh, .int goa, .int mos, .int bes, .int cos, .long tot, .long dep, .long wid, .long shs, .ref aSt])), (aK, .inl (cI, 12700, .inl kd)), (aS, .inl (cI, 12700, .inl sh)), (aO, .inl (cI, 12700, .inl od)), (aZ, .inl (cI, 12700, .inl sk)), (aM, .inl (cJ, 12700, .inr (.inl (shM mo (gG kd od sv oo) (amG kd od sh sv oo) ev sv fr (t + 1))))), (aSt, .inl (cJ, 4, .inr (.inl sts)))]) H := hP
              have hD : va_D A ([(md, .inr (6, [.int thr, .ref aK, .ref aW, .ref aH, .ref aD, .ref aS, .ref aO, .ref aZ, .ref aM, .int (nI com), .int (nI the), .int (nI kep), .ref aI, .ref aHt, .ref aDp, .ref aWd, .int mad, .int hei, .int lmt, .int twi, .int tst, .int tor, .int tsh, .int goa, .int mos, .int bes, .int cos, .long tot, .long dep, .long wid, .long shs, .ref aSt])), (aK, .inl (cI, 12700, .inl kd)), (aS, .inl (cI, 12700, .inl sh)), (aO, .inl (cI, 12700, .inl od)), (aZ, .inl (cI, 12700, .inl sk)), (aM, .inl (cJ, 12700, .inr (.inl (shM mo (gG kd od sv oo) (amG kd od sh sv oo) ev sv fr (t + 1))))), (aSt, .inl (cJ, 4, .inr (.inl sts)))]) := hD
              exact ih  oo sv ev (t + 1) (by omega) hfin (by omega) (by omega) _ _ hP hD hS ls (lv_sub hl [4, 5, 6, 7, 8, 9, 10, 11, 1, 0] rfl)
            · exact absurd c_187 (by decide)
          · exact absurd c_146 (by decide)
        · refine lv_iload hx hb dX6_share_118 (lv_at hl 5 rfl) ?_
          refine lv_if_eq (tgt := 135) hx hb dX6_share_120 (by decide) (fun c_120 => ?_) (fun c_120 => ?_)
          · exact absurd c_120 (by decide)
          · have c_120 := nc_ne (a := 1) (b := 0) c_120 (by omega) (by omega)
            refine lv_aload_n hx hb dX6_share_123 rfl (lv_at hl 0 rfl) ?_
            refine my_get X hK in_X6_share_X6 hP 0 rfl rfl 6 (by decide) (List.mem_of_getElem? (i := 4) rfl) rfl dX6_share_124 ?_
            refine lv_iload hx hb dX6_share_127 (lv_at hl 9 rfl) ?_
            refine my_iald (k := (fr + t)) hx hb hK hP 3 rfl (rfl) (by omega) (by omega) dX6_share_129 ?_
            refine lv_iload hx hb dX6_share_130 (lv_at hl 4 rfl) ?_
            refine lv_icmp_ne (tgt := 139) hx hb dX6_share_132 (by decide) (fun c_132 => ?_) (fun c_132 => ?_)
            · refine lv_iconst (v := 0) hx hb dX6_share_139 (by decide) ?_
              refine lv_istore (lv' := [(14, .int 0), (0, .ref md), (1, .int (nI fr)), (2, .int (nI n)), (3, .long ex), (5, .int (nI oo)), (6, .int 1), (7, .long sv), (9, .long ev), (11, .long (mB (amG kd od sh sv oo) fr t)), (13, .int (nI (fr + t)))]) hx hb dX6_share_140 hl (by decide) rfl (fun ls hl => ?_)
              refine lv_lload hx hb dX6_share_142 (lv_at hl 9 rfl) ?_
              refine lv_iload hx hb dX6_share_144 (lv_at hl 0 rfl) ?_
              refine lv_if_eq (tgt := 174) hx hb dX6_share_146 (by decide) (fun c_146 => ?_) (fun c_146 => ?_)
              · have c_146 := nc_eq (a := 0) (b := 0) c_146 (by omega) (by omega)
                refine lv_iconst (v := 0) hx hb dX6_share_174 (by decide) ?_
                refine lv_i2l (v := (0 : Int32).toInt64) hx hb dX6_share_175 rfl ?_
                refine lv_ladd hx hb dX6_share_176 ?_
                refine my_topl (y := mB (amG kd od sh sv oo) fr (t + 1)) (by simp [mB, amG, gG, c_108, c_114, c_132]) ?_
                refine lv_lstore (lv' := [(15, .long (mB (amG kd od sh sv oo) fr (t + 1))), (14, .int 0), (0, .ref md), (1, .int (nI fr)), (2, .int (nI n)), (3, .long ex), (5, .int (nI oo)), (6, .int 1), (7, .long sv), (9, .long ev), (11, .long (mB (amG kd od sh sv oo) fr t)), (13, .int (nI (fr + t)))]) hx hb dX6_share_177 hl (by decide) rfl (fun ls hl => ?_)
                refine lv_aload_n hx hb dX6_share_179 rfl (lv_at hl 2 rfl) ?_
                refine my_get X hK in_X6_share_X6 hP 0 rfl rfl 8 (by decide) (List.mem_of_getElem? (i := 7) rfl) rfl dX6_share_180 ?_
                refine lv_iload hx hb dX6_share_183 (lv_at hl 11 rfl) ?_
                refine lv_iload hx hb dX6_share_185 (lv_at hl 1 rfl) ?_
                refine lv_if_eq (tgt := 214) hx hb dX6_share_187 (by decide) (fun c_187 => ?_) (fun c_187 => ?_)
                · have c_187 := nc_eq (a := 0) (b := 0) c_187 (by omega) (by omega)
                  refine lv_lconst (v := 0) hx hb dX6_share_214 (by decide) ?_
                  refine my_last (k := (fr + t)) hx hb hK hP hD hS 5 rfl (rfl) (by omega) (by omega) dX6_share_215 (fun H locs hP hD hS => ?_)
                  have hP : va_P (dC, dI) vwCl ([(md, .inr (6, [.int thr, .ref aK, .ref aW, .ref aH, .ref aD, .ref aS, .ref aO, .ref aZ, .ref aM, .int (nI com), .int (nI the), .int (nI kep), .ref aI, .ref aHt, .ref aDp, .ref aWd, .int mad, .int hei, .int lmt, .int twi, .int tst, .int tor, .int tsh, .int goa, .int mos, .int bes, .int cos, .long tot, .long dep, .long wid, .long shs, .ref aSt])), (aK, .inl (cI, 12700, .inl kd)), (aS, .inl (cI, 12700, .inl sh)), (aO, .inl (cI, 12700, .inl od)), (aZ, .inl (cI, 12700, .inl sk)), (aM, .inl (cJ, 12700, .inr (.inl (vp_updL (shM mo (gG kd od sv oo) (amG kd od sh sv oo) ev sv fr t) (fr + t) 0)))), (aSt, .inl (cJ, 4, .inr (.inl sts)))]) H := hP
                  have hD : va_D A ([(md, .inr (6, [.int thr, .ref aK, .ref aW, .ref aH, .ref aD, .ref aS, .ref aO, .ref aZ, .ref aM, .int (nI com), .int (nI the), .int (nI kep), .ref aI, .ref aHt, .ref aDp, .ref aWd, .int mad, .int hei, .int lmt, .int twi, .int tst, .int tor, .int tsh, .int goa, .int mos, .int bes, .int cos, .long tot, .long dep, .long wid, .long shs, .ref aSt])), (aK, .inl (cI, 12700, .inl kd)), (aS, .inl (cI, 12700, .inl sh)), (aO, .inl (cI, 12700, .inl od)), (aZ, .inl (cI, 12700, .inl sk)), (aM, .inl (cJ, 12700, .inr (.inl (vp_updL (shM mo (gG kd od sv oo) (amG kd od sh sv oo) ev sv fr t) (fr + t) 0)))), (aSt, .inl (cJ, 4, .inr (.inl sts)))]) := hD
                  refine lv_lload hx hb dX6_share_216 (lv_at hl 0 rfl) ?_
                  refine lv_lstore (lv' := [(11, .long (mB (amG kd od sh sv oo) fr (t + 1))), (15, .long (mB (amG kd od sh sv oo) fr (t + 1))), (14, .int 0), (0, .ref md), (1, .int (nI fr)), (2, .int (nI n)), (3, .long ex), (5, .int (nI oo)), (6, .int 1), (7, .long sv), (9, .long ev), (13, .int (nI (fr + t)))]) hx hb dX6_share_218 hl (by decide) rfl (fun ls hl => ?_)
                  refine lv_iinc (v := nI (fr + t + 1)) (lv' := [(13, .int (nI (fr + t + 1))), (11, .long (mB (amG kd od sh sv oo) fr (t + 1))), (15, .long (mB (amG kd od sh sv oo) fr (t + 1))), (14, .int 0), (0, .ref md), (1, .int (nI fr)), (2, .int (nI n)), (3, .long ex), (5, .int (nI oo)), (6, .int 1), (7, .long sv), (9, .long ev)]) hx hb dX6_share_220 hl (k := 11) rfl (nI_add (fr + t) 1) (by decide) rfl (fun ls hl => ?_)
                  refine lv_goto (tgt := 92) hx hb dX6_share_223 (by decide) ?_
                  rw [shM_s mo (gG kd od sv oo) (amG kd od sh sv oo) ev sv fr t _ (by simp [gG, c_108, c_114, c_132])] at hP hD
                  have hP : va_P (dC, dI) vwCl ([(md, .inr (6, [.int thr, .ref aK, .ref aW, .ref aH, .ref aD, .ref aS, .ref aO, .ref aZ, .ref aM, .int (nI com), .int (nI the), .int (nI kep), .ref aI, .ref aHt, .ref aDp, .ref aWd, .int mad, .int hei, .int lmt, .int twi, .int tst, .int tor, .int tsh, .int goa, .int mos, .int bes, .int cos, .long tot, .long dep, .long wid, .long shs, .ref aSt])), (aK, .inl (cI, 12700, .inl kd)), (aS, .inl (cI, 12700, .inl sh)), (aO, .inl (cI, 12700, .inl od)), (aZ, .inl (cI, 12700, .inl sk)), (aM, .inl (cJ, 12700, .inr (.inl (shM mo (gG kd od sv oo) (amG kd od sh sv oo) ev sv fr (t + 1))))), (aSt, .inl (cJ, 4, .inr (.inl sts)))]) H := hP
                  have hD : va_D A ([(md, .inr (6, [.int thr, .ref aK, .ref aW, .ref aH, .ref aD, .ref aS, .ref aO, .ref aZ, .ref aM, .int (nI com), .int (nI the), .int (nI kep), .ref aI, .ref aHt, .ref aDp, .ref aWd, .int mad, .int hei, .int lmt, .int twi, .int tst, .int tor, .int tsh, .int goa, .int mos, .int bes, .int cos, .long tot, .long dep, .long wid, .long shs, .ref aSt])), (aK, .inl (cI, 12700, .inl kd)), (aS, .inl (cI, 12700, .inl sh)), (aO, .inl (cI, 12700, .inl od)), (aZ, .inl (cI, 12700, .inl sk)), (aM, .inl (cJ, 12700, .inr (.inl (shM mo (gG kd od sv oo) (amG kd od sh sv oo) ev sv fr (t + 1))))), (aSt, .inl (cJ, 4, .inr (.inl sts)))]) := hD
                  exact ih  oo sv ev (t + 1) (by omega) hfin (by omega) (by omega) _ _ hP hD hS ls (lv_sub hl [4, 5, 6, 7, 8, 9, 10, 11, 1, 0] rfl)
                · exact absurd c_187 (by decide)
              · exact absurd c_146 (by decide)
            · refine lv_iconst (v := 1) hx hb dX6_share_135 (by decide) ?_
              refine lv_goto (tgt := 140) hx hb dX6_share_136 (by decide) ?_
              refine lv_istore (lv' := [(14, .int 1), (0, .ref md), (1, .int (nI fr)), (2, .int (nI n)), (3, .long ex), (5, .int (nI oo)), (6, .int 1), (7, .long sv), (9, .long ev), (11, .long (mB (amG kd od sh sv oo) fr t)), (13, .int (nI (fr + t)))]) hx hb dX6_share_140 hl (by decide) rfl (fun ls hl => ?_)
              refine lv_lload hx hb dX6_share_142 (lv_at hl 9 rfl) ?_
              refine lv_iload hx hb dX6_share_144 (lv_at hl 0 rfl) ?_
              refine lv_if_eq (tgt := 174) hx hb dX6_share_146 (by decide) (fun c_146 => ?_) (fun c_146 => ?_)
              · exact absurd c_146 (by decide)
              · have c_146 := nc_ne (a := 1) (b := 0) c_146 (by omega) (by omega)
                refine lv_iload hx hb dX6_share_149 (lv_at hl 6 rfl) ?_
                refine lv_if_eq (tgt := 164) hx hb dX6_share_151 (by decide) (fun c_151 => ?_) (fun c_151 => ?_)
                · exact absurd c_151 (by decide)
                · have c_151 := nc_ne (a := 1) (b := 0) c_151 (by omega) (by omega)
                  refine lv_aload_n hx hb dX6_share_154 rfl (lv_at hl 1 rfl) ?_
                  refine my_get X hK in_X6_share_X6 hP 0 rfl rfl 5 (by decide) (List.mem_of_getElem? (i := 5) rfl) rfl dX6_share_155 ?_
                  refine lv_iload hx hb dX6_share_158 (lv_at hl 10 rfl) ?_
                  refine my_iald (k := (fr + t)) hx hb hK hP 2 rfl (rfl) (by omega) (by omega) dX6_share_160 ?_
                  refine lv_goto (tgt := 175) hx hb dX6_share_161 (by decide) ?_
                  refine lv_i2l (v := (sh (fr + t)).toInt64) hx hb dX6_share_175 rfl ?_
                  refine lv_ladd hx hb dX6_share_176 ?_
                  refine my_topl (y := mB (amG kd od sh sv oo) fr (t + 1)) (by simp [mB, amG, gG, c_108, c_114, c_132]) ?_
                  refine lv_lstore (lv' := [(15, .long (mB (amG kd od sh sv oo) fr (t + 1))), (14, .int 1), (0, .ref md), (1, .int (nI fr)), (2, .int (nI n)), (3, .long ex), (5, .int (nI oo)), (6, .int 1), (7, .long sv), (9, .long ev), (11, .long (mB (amG kd od sh sv oo) fr t)), (13, .int (nI (fr + t)))]) hx hb dX6_share_177 hl (by decide) rfl (fun ls hl => ?_)
                  refine lv_aload_n hx hb dX6_share_179 rfl (lv_at hl 2 rfl) ?_
                  refine my_get X hK in_X6_share_X6 hP 0 rfl rfl 8 (by decide) (List.mem_of_getElem? (i := 7) rfl) rfl dX6_share_180 ?_
                  refine lv_iload hx hb dX6_share_183 (lv_at hl 11 rfl) ?_
                  refine lv_iload hx hb dX6_share_185 (lv_at hl 1 rfl) ?_
                  refine lv_if_eq (tgt := 214) hx hb dX6_share_187 (by decide) (fun c_187 => ?_) (fun c_187 => ?_)
                  · exact absurd c_187 (by decide)
                  · have c_187 := nc_ne (a := 1) (b := 0) c_187 (by omega) (by omega)
                    refine lv_lload hx hb dX6_share_190 (lv_at hl 9 rfl) ?_
                    refine lv_lload hx hb dX6_share_192 (lv_at hl 0 rfl) ?_
                    refine lv_lmul hx hb dX6_share_194 ?_
                    refine lv_lload hx hb dX6_share_195 (lv_at hl 8 rfl) ?_
                    have hPc := hP.sub (ws' := []) [] rfl
                    refine my_rdl (my_runS (n := 2) (As := [.long (ev * (mB (amG kd od sh sv oo) fr (t + 1))), .long sv]) (rest := [.int (nI (fr + t)), .ref aM]) X PR.blind (PR.pre hPc hK) (m_near l dC dI cI cJ cO (ev * (mB (amG kd od sh sv oo) fr (t + 1))) sv c_114) gX6_share_X6_near rfl rfl rfl (by decide +kernel) rfl ⟨Nat.le_of_ble_eq_true rfl, Nat.le_of_ble_eq_true rfl⟩ hl.1 rfl (Nat.le_of_ble_eq_true rfl) dX6_share_197 ⟨by first | decide | omega | (dsimp only; omega), by first | decide | omega | (dsimp only; omega)⟩) (fun r_1 hr_1 => ?_)
                    subst hr_1
                    refine lv_lload hx hb dX6_share_200 (lv_at hl 9 rfl) ?_
                    refine lv_lload hx hb dX6_share_202 (lv_at hl 10 rfl) ?_
                    refine lv_lmul hx hb dX6_share_204 ?_
                    refine lv_lload hx hb dX6_share_205 (lv_at hl 8 rfl) ?_
                    have hPc := hP.sub (ws' := []) [] rfl
                    refine my_rdl (my_runS (n := 2) (As := [.long (ev * (mB (amG kd od sh sv oo) fr t)), .long sv]) (rest := [.long (mne (ev * (mB (amG kd od sh sv oo) fr (t + 1))) sv), .int (nI (fr + t)), .ref aM]) X PR.blind (PR.pre hPc hK) (m_near l dC dI cI cJ cO (ev * (mB (amG kd od sh sv oo) fr t)) sv c_114) gX6_share_X6_near rfl rfl rfl (by decide +kernel) rfl ⟨Nat.le_of_ble_eq_true rfl, Nat.le_of_ble_eq_true rfl⟩ hl.1 rfl (Nat.le_of_ble_eq_true rfl) dX6_share_207 ⟨by first | decide | omega | (dsimp only; omega), by first | decide | omega | (dsimp only; omega)⟩) (fun r_2 hr_2 => ?_)
                    subst hr_2
                    refine lv_lsub hx hb dX6_share_210 ?_
                    refine lv_goto (tgt := 215) hx hb dX6_share_211 (by decide) ?_
                    refine my_last (k := (fr + t)) hx hb hK hP hD hS 5 rfl (rfl) (by omega) (by omega) dX6_share_215 (fun H locs hP hD hS => ?_)
                    have hP : va_P (dC, dI) vwCl ([(md, .inr (6, [.int thr, .ref aK, .ref aW, .ref aH, .ref aD, .ref aS, .ref aO, .ref aZ, .ref aM, .int (nI com), .int (nI the), .int (nI kep), .ref aI, .ref aHt, .ref aDp, .ref aWd, .int mad, .int hei, .int lmt, .int twi, .int tst, .int tor, .int tsh, .int goa, .int mos, .int bes, .int cos, .long tot, .long dep, .long wid, .long shs, .ref aSt])), (aK, .inl (cI, 12700, .inl kd)), (aS, .inl (cI, 12700, .inl sh)), (aO, .inl (cI, 12700, .inl od)), (aZ, .inl (cI, 12700, .inl sk)), (aM, .inl (cJ, 12700, .inr (.inl (vp_updL (shM mo (gG kd od sv oo) (amG kd od sh sv oo) ev sv fr t) (fr + t) ((mne (ev * (mB (amG kd od sh sv oo) fr (t + 1))) sv) - (mne (ev * (mB (amG kd od sh sv oo) fr t)) sv)))))), (aSt, .inl (cJ, 4, .inr (.inl sts)))]) H := hP
                    have hD : va_D A ([(md, .inr (6, [.int thr, .ref aK, .ref aW, .ref aH, .ref aD, .ref aS, .ref aO, .ref aZ, .ref aM, .int (nI com), .int (nI the), .int (nI kep), .ref aI, .ref aHt, .ref aDp, .ref aWd, .int mad, .int hei, .int lmt, .int twi, .int tst, .int tor, .int tsh, .int goa, .int mos, .int bes, .int cos, .long tot, .long dep, .long wid, .long shs, .ref aSt])), (aK, .inl (cI, 12700, .inl kd)), (aS, .inl (cI, 12700, .inl sh)), (aO, .inl (cI, 12700, .inl od)), (aZ, .inl (cI, 12700, .inl sk)), (aM, .inl (cJ, 12700, .inr (.inl (vp_updL (shM mo (gG kd od sv oo) (amG kd od sh sv oo) ev sv fr t) (fr + t) ((mne (ev * (mB (amG kd od sh sv oo) fr (t + 1))) sv) - (mne (ev * (mB (amG kd od sh sv oo) fr t)) sv)))))), (aSt, .inl (cJ, 4, .inr (.inl sts)))]) := hD
                    refine lv_lload hx hb dX6_share_216 (lv_at hl 0 rfl) ?_
                    refine lv_lstore (lv' := [(11, .long (mB (amG kd od sh sv oo) fr (t + 1))), (15, .long (mB (amG kd od sh sv oo) fr (t + 1))), (14, .int 1), (0, .ref md), (1, .int (nI fr)), (2, .int (nI n)), (3, .long ex), (5, .int (nI oo)), (6, .int 1), (7, .long sv), (9, .long ev), (13, .int (nI (fr + t)))]) hx hb dX6_share_218 hl (by decide) rfl (fun ls hl => ?_)
                    refine lv_iinc (v := nI (fr + t + 1)) (lv' := [(13, .int (nI (fr + t + 1))), (11, .long (mB (amG kd od sh sv oo) fr (t + 1))), (15, .long (mB (amG kd od sh sv oo) fr (t + 1))), (14, .int 1), (0, .ref md), (1, .int (nI fr)), (2, .int (nI n)), (3, .long ex), (5, .int (nI oo)), (6, .int 1), (7, .long sv), (9, .long ev)]) hx hb dX6_share_220 hl (k := 11) rfl (nI_add (fr + t) 1) (by decide) rfl (fun ls hl => ?_)
                    refine lv_goto (tgt := 92) hx hb dX6_share_223 (by decide) ?_
                    rw [shM_s mo (gG kd od sv oo) (amG kd od sh sv oo) ev sv fr t _ (by simp [gG, c_108, c_114, c_132])] at hP hD
                    have hP : va_P (dC, dI) vwCl ([(md, .inr (6, [.int thr, .ref aK, .ref aW, .ref aH, .ref aD, .ref aS, .ref aO, .ref aZ, .ref aM, .int (nI com), .int (nI the), .int (nI kep), .ref aI, .ref aHt, .ref aDp, .ref aWd, .int mad, .int hei, .int lmt, .int twi, .int tst, .int tor, .int tsh, .int goa, .int mos, .int bes, .int cos, .long tot, .long dep, .long wid, .long shs, .ref aSt])), (aK, .inl (cI, 12700, .inl kd)), (aS, .inl (cI, 12700, .inl sh)), (aO, .inl (cI, 12700, .inl od)), (aZ, .inl (cI, 12700, .inl sk)), (aM, .inl (cJ, 12700, .inr (.inl (shM mo (gG kd od sv oo) (amG kd od sh sv oo) ev sv fr (t + 1))))), (aSt, .inl (cJ, 4, .inr (.inl sts)))]) H := hP
                    have hD : va_D A ([(md, .inr (6, [.int thr, .ref aK, .ref aW, .ref aH, .ref aD, .ref aS, .ref aO, .ref aZ, .ref aM, .int (nI com), .int (nI the), .int (nI kep), .ref aI, .ref aHt, .ref aDp, .ref aWd, .int mad, .int hei, .int lmt, .int twi, .int tst, .int tor, .int tsh, .int goa, .int mos, .int bes, .int cos, .long tot, .long dep, .long wid, .long shs, .ref aSt])), (aK, .inl (cI, 12700, .inl kd)), (aS, .inl (cI, 12700, .inl sh)), (aO, .inl (cI, 12700, .inl od)), (aZ, .inl (cI, 12700, .inl sk)), (aM, .inl (cJ, 12700, .inr (.inl (shM mo (gG kd od sv oo) (amG kd od sh sv oo) ev sv fr (t + 1))))), (aSt, .inl (cJ, 4, .inr (.inl sts)))]) := hD
                    exact ih  oo sv ev (t + 1) (by omega) hfin (by omega) (by omega) _ _ hP hD hS ls (lv_sub hl [4, 5, 6, 7, 8, 9, 10, 11, 1, 0] rfl)
set_option maxHeartbeats 200000 in
set_option maxRecDepth 100000 in
theorem lp_mshare0 {p : Program} {l : Launch} {e : Env} {s : State} {m : MethodId} {below : List Frame} {meth : Method} {c : Code} {dC : Nat → ClassId} {dI : Nat → Nat → Nat} {cI cJ cO : ClassId} {A : Nat → Prop} (md : Nat) (thr : Int32) (com : Nat) (the : Nat) (kep : Nat) (mad : Int32) (hei : Int32) (lmt : Int32) (twi : Int32) (tst : Int32) (tor : Int32) (tsh : Int32) (goa : Int32) (mos : Int32) (bes : Int32) (cos : Int32) (tot : Int64) (dep : Int64) (wid : Int64) (shs : Int64) (aK : Nat) (aW : Nat) (aH : Nat) (aD : Nat) (aS : Nat) (aO : Nat) (aZ : Nat) (aM : Nat) (aI : Nat) (aHt : Nat) (aDp : Nat) (aWd : Nat) (aSt : Nat) (kd : Nat → Int32) (sh : Nat → Int32) (od : Nat → Int32) (sk : Nat → Int32) (mo : Nat → Int64) (sts : Nat → Int64) (fr : Nat) (n : Nat) (ex : Int64) (hn : fr + n ≤ 12700) (X : Cx p s m ([.ref md, .int (nI fr), .int (nI n), .long ex] : List Value).toArray meth c cX6_share none 17 yX6_share.cls yX6_share.name wsX6_share) (hK : Kn dC dI cI cJ cO s) (hA : ∀ q : Nat, s.heap.size ≤ q → A q) : ∀ (fu9 : Nat) (oo : Nat) (sv : Int64) (ev : Int64) (t : Nat) (ho : oo < 4) (hfin : shM mo (gS kd sv) (amS kd sk sv) ev sv fr n = if 0 < ex then shM mo (gG kd od (sts (mho sts)) (mho sts)) (amG kd od sh (sts (mho sts)) (mho sts)) ex (sts (mho sts)) fr n else shM mo (gS kd shs) (amS kd sk shs) (if ex < -shs then -shs else ex) shs fr n) (ht : t ≤ n), n - t < fu9 → ∀ (H : Heap) (locs : List Loc), va_P (dC, dI) vwCl ([(md, .inr (6, [.int thr, .ref aK, .ref aW, .ref aH, .ref aD, .ref aS, .ref aO, .ref aZ, .ref aM, .int (nI com), .int (nI the), .int (nI kep), .ref aI, .ref aHt, .ref aDp, .ref aWd, .int mad, .int hei, .int lmt, .int twi, .int tst, .int tor, .int tsh, .int goa, .int mos, .int bes, .int cos, .long tot, .long dep, .long wid, .long shs, .ref aSt])), (aK, .inl (cI, 12700, .inl kd)), (aS, .inl (cI, 12700, .inl sh)), (aO, .inl (cI, 12700, .inl od)), (aZ, .inl (cI, 12700, .inl sk)), (aM, .inl (cJ, 12700, .inr (.inl (shM mo (gS kd sv) (amS kd sk sv) ev sv fr t)))), (aSt, .inl (cJ, 4, .inr (.inl sts)))]) H → va_D A ([(md, .inr (6, [.int thr, .ref aK, .ref aW, .ref aH, .ref aD, .ref aS, .ref aO, .ref aZ, .ref aM, .int (nI com), .int (nI the), .int (nI kep), .ref aI, .ref aHt, .ref aDp, .ref aWd, .int mad, .int hei, .int lmt, .int twi, .int tst, .int tor, .int tsh, .int goa, .int mos, .int bes, .int cos, .long tot, .long dep, .long wid, .long shs, .ref aSt])), (aK, .inl (cI, 12700, .inl kd)), (aS, .inl (cI, 12700, .inl sh)), (aO, .inl (cI, 12700, .inl od)), (aZ, .inl (cI, 12700, .inl sk)), (aM, .inl (cJ, 12700, .inr (.inl (shM mo (gS kd sv) (amS kd sk sv) ev sv fr t)))), (aSt, .inl (cJ, 4, .inr (.inl sts)))]) → va_S A s.heap H locs → ∀ (ls : Array Slot), lv_has ls 17 [(0, .ref md), (1, .int (nI fr)), (2, .int (nI n)), (3, .long ex), (5, .int (nI oo)), (6, .int 0), (7, .long sv), (9, .long ev), (11, .long (mB (amS kd sk sv) fr t)), (13, .int (nI (fr + t)))] → W p l e ({ frames := 1, cells := 0, slots := 0, locals := 25 }) s m ([.ref md, .int (nI fr), .int (nI n), .long ex] : List Value).toArray below meth c H locs (0) (0) (MQ below (va_Qv (fun mo1 : Nat → Int64 => mo1 = (if 0 < ex then shM mo (gG kd od (sts (mho sts)) (mho sts)) (amG kd od sh (sts (mho sts)) (mho sts)) ex (sts (mho sts)) fr n else shM mo (gS kd shs) (amS kd sk shs) (if ex < -shs then -shs else ex) shs fr n)) (fun (mo1 : Nat → Int64) t9 => BW dC dI A [(md, .inr (6, [.int thr, .ref aK, .ref aW, .ref aH, .ref aD, .ref aS, .ref aO, .ref aZ, .ref aM, .int (nI com), .int (nI the), .int (nI kep), .ref aI, .ref aHt, .ref aDp, .ref aWd, .int mad, .int hei, .int lmt, .int twi, .int tst, .int tor, .int tsh, .int goa, .int mos, .int bes, .int cos, .long tot, .long dep, .long wid, .long shs, .ref aSt])), (aK, .inl (cI, 12700, .inl kd)), (aS, .inl (cI, 12700, .inl sh)), (aO, .inl (cI, 12700, .inl od)), (aZ, .inl (cI, 12700, .inl sk)), (aM, .inl (cJ, 12700, .inr (.inl mo1))), (aSt, .inl (cJ, 4, .inr (.inl sts)))] t9) A) ([.ref md, .int (nI fr), .int (nI n), .long ex] : List Value).toArray s 0 0 A) (F0 m 92 ls []) := by
  obtain ⟨hx, hb, hr, hml, hown, hts, hlocks, hnm⟩ := id X
  intro fu9
  induction fu9 with
  | zero =>
    intro oo sv ev t ho hfin ht hfu
    exact absurd hfu (Nat.not_lt_zero _)
  | succ fu9 ih =>
    intro oo sv ev t ho hfin ht hfu H locs hP hD hS ls hl
    refine lv_iload hx hb dX6_share_92 (lv_at hl 9 rfl) ?_
    refine lv_iload_n hx hb dX6_share_94 rfl (lv_at hl 1 rfl) ?_
    refine lv_iload_n hx hb dX6_share_95 rfl (lv_at hl 2 rfl) ?_
    refine lv_iadd hx hb dX6_share_96 ?_
    refine my_topi (nI_add fr n) ?_
    refine lv_icmp_ge (tgt := 226) hx hb dX6_share_97 (by decide) (fun c_97 => ?_) (fun c_97 => ?_)
    · have c_97 := nc_le (a := fr + n) (b := fr + t) c_97 (by omega) (by omega)
      exact my_vret (WSf := (fun mo1 : Nat → Int64 => [(md, .inr (6, [.int thr, .ref aK, .ref aW, .ref aH, .ref aD, .ref aS, .ref aO, .ref aZ, .ref aM, .int (nI com), .int (nI the), .int (nI kep), .ref aI, .ref aHt, .ref aDp, .ref aWd, .int mad, .int hei, .int lmt, .int twi, .int tst, .int tor, .int tsh, .int goa, .int mos, .int bes, .int cos, .long tot, .long dep, .long wid, .long shs, .ref aSt])), (aK, .inl (cI, 12700, .inl kd)), (aS, .inl (cI, 12700, .inl sh)), (aO, .inl (cI, 12700, .inl od)), (aZ, .inl (cI, 12700, .inl sk)), (aM, .inl (cJ, 12700, .inr (.inl mo1))), (aSt, .inl (cJ, 4, .inr (.inl sts)))])) (shM mo (gS kd sv) (amS kd sk sv) ev sv fr t) X (by rw [show t = n by omega]; exact hfin) (hP) (hD) hS (by first | decide | omega | (dsimp only; omega)) (by first | decide | omega | (dsimp only; omega)) dX6_share_226
    · have c_97 := nc_nle (a := fr + n) (b := fr + t) c_97 (by omega) (by omega)
      refine lv_aload_n hx hb dX6_share_100 rfl (lv_at hl 0 rfl) ?_
      refine my_get X hK in_X6_share_X6 hP 0 rfl rfl 1 (by decide) (List.mem_of_getElem? (i := 3) rfl) rfl dX6_share_101 ?_
      refine lv_iload hx hb dX6_share_104 (lv_at hl 9 rfl) ?_
      refine my_iald (k := (fr + t)) hx hb hK hP 1 rfl (rfl) (by omega) (by omega) dX6_share_106 ?_
      refine lv_iconst (v := 5) hx hb dX6_share_107 (by decide) ?_
      refine lv_icmp_ne (tgt := 139) hx hb dX6_share_108 (by decide) (fun c_108 => ?_) (fun c_108 => ?_)
      · refine lv_iconst (v := 0) hx hb dX6_share_139 (by decide) ?_
        refine lv_istore (lv' := [(14, .int 0), (0, .ref md), (1, .int (nI fr)), (2, .int (nI n)), (3, .long ex), (5, .int (nI oo)), (6, .int 0), (7, .long sv), (9, .long ev), (11, .long (mB (amS kd sk sv) fr t)), (13, .int (nI (fr + t)))]) hx hb dX6_share_140 hl (by decide) rfl (fun ls hl => ?_)
        refine lv_lload hx hb dX6_share_142 (lv_at hl 9 rfl) ?_
        refine lv_iload hx hb dX6_share_144 (lv_at hl 0 rfl) ?_
        refine lv_if_eq (tgt := 174) hx hb dX6_share_146 (by decide) (fun c_146 => ?_) (fun c_146 => ?_)
        · have c_146 := nc_eq (a := 0) (b := 0) c_146 (by omega) (by omega)
          refine lv_iconst (v := 0) hx hb dX6_share_174 (by decide) ?_
          refine lv_i2l (v := (0 : Int32).toInt64) hx hb dX6_share_175 rfl ?_
          refine lv_ladd hx hb dX6_share_176 ?_
          refine my_topl (y := mB (amS kd sk sv) fr (t + 1)) (by simp [mB, amS, gS, c_108]) ?_
          refine lv_lstore (lv' := [(15, .long (mB (amS kd sk sv) fr (t + 1))), (14, .int 0), (0, .ref md), (1, .int (nI fr)), (2, .int (nI n)), (3, .long ex), (5, .int (nI oo)), (6, .int 0), (7, .long sv), (9, .long ev), (11, .long (mB (amS kd sk sv) fr t)), (13, .int (nI (fr + t)))]) hx hb dX6_share_177 hl (by decide) rfl (fun ls hl => ?_)
          refine lv_aload_n hx hb dX6_share_179 rfl (lv_at hl 2 rfl) ?_
          refine my_get X hK in_X6_share_X6 hP 0 rfl rfl 8 (by decide) (List.mem_of_getElem? (i := 7) rfl) rfl dX6_share_180 ?_
          refine lv_iload hx hb dX6_share_183 (lv_at hl 11 rfl) ?_
          refine lv_iload hx hb dX6_share_185 (lv_at hl 1 rfl) ?_
          refine lv_if_eq (tgt := 214) hx hb dX6_share_187 (by decide) (fun c_187 => ?_) (fun c_187 => ?_)
          · have c_187 := nc_eq (a := 0) (b := 0) c_187 (by omega) (by omega)
            refine lv_lconst (v := 0) hx hb dX6_share_214 (by decide) ?_
            refine my_last (k := (fr + t)) hx hb hK hP hD hS 5 rfl (rfl) (by omega) (by omega) dX6_share_215 (fun H locs hP hD hS => ?_)
            have hP : va_P (dC, dI) vwCl ([(md, .inr (6, [.int thr, .ref aK, .ref aW, .ref aH, .ref aD, .ref aS, .ref aO, .ref aZ, .ref aM, .int (nI com), .int (nI the), .int (nI kep), .ref aI, .ref aHt, .ref aDp, .ref aWd, .int mad, .int hei, .int lmt, .int twi, .int tst, .int tor, .int tsh, .int goa, .int mos, .int bes, .int cos, .long tot, .long dep, .long wid, .long shs, .ref aSt])), (aK, .inl (cI, 12700, .inl kd)), (aS, .inl (cI, 12700, .inl sh)), (aO, .inl (cI, 12700, .inl od)), (aZ, .inl (cI, 12700, .inl sk)), (aM, .inl (cJ, 12700, .inr (.inl (vp_updL (shM mo (gS kd sv) (amS kd sk sv) ev sv fr t) (fr + t) 0)))), (aSt, .inl (cJ, 4, .inr (.inl sts)))]) H := hP
            have hD : va_D A ([(md, .inr (6, [.int thr, .ref aK, .ref aW, .ref aH, .ref aD, .ref aS, .ref aO, .ref aZ, .ref aM, .int (nI com), .int (nI the), .int (nI kep), .ref aI, .ref aHt, .ref aDp, .ref aWd, .int mad, .int hei, .int lmt, .int twi, .int tst, .int tor, .int tsh, .int goa, .int mos, .int bes, .int cos, .long tot, .long dep, .long wid, .long shs, .ref aSt])), (aK, .inl (cI, 12700, .inl kd)), (aS, .inl (cI, 12700, .inl sh)), (aO, .inl (cI, 12700, .inl od)), (aZ, .inl (cI, 12700, .inl sk)), (aM, .inl (cJ, 12700, .inr (.inl (vp_updL (shM mo (gS kd sv) (amS kd sk sv) ev sv fr t) (fr + t) 0)))), (aSt, .inl (cJ, 4, .inr (.inl sts)))]) := hD
            refine lv_lload hx hb dX6_share_216 (lv_at hl 0 rfl) ?_
            refine lv_lstore (lv' := [(11, .long (mB (amS kd sk sv) fr (t + 1))), (15, .long (mB (amS kd sk sv) fr (t + 1))), (14, .int 0), (0, .ref md), (1, .int (nI fr)), (2, .int (nI n)), (3, .long ex), (5, .int (nI oo)), (6, .int 0), (7, .long sv), (9, .long ev), (13, .int (nI (fr + t)))]) hx hb dX6_share_218 hl (by decide) rfl (fun ls hl => ?_)
            refine lv_iinc (v := nI (fr + t + 1)) (lv' := [(13, .int (nI (fr + t + 1))), (11, .long (mB (amS kd sk sv) fr (t + 1))), (15, .long (mB (amS kd sk sv) fr (t + 1))), (14, .int 0), (0, .ref md), (1, .int (nI fr)), (2, .int (nI n)), (3, .long ex), (5, .int (nI oo)), (6, .int 0), (7, .long sv), (9, .long ev)]) hx hb dX6_share_220 hl (k := 11) rfl (nI_add (fr + t) 1) (by decide) rfl (fun ls hl => ?_)
            refine lv_goto (tgt := 92) hx hb dX6_share_223 (by decide) ?_
            rw [shM_s mo (gS kd sv) (amS kd sk sv) ev sv fr t _ (by simp [gS, c_108])] at hP hD
            have hP : va_P (dC, dI) vwCl ([(md, .inr (6, [.int thr, .ref aK, .ref aW, .ref aH, .ref aD, .ref aS, .ref aO, .ref aZ, .ref aM, .int (nI com), .int (nI the), .int (nI kep), .ref aI, .ref aHt, .ref aDp, .ref aWd, .int mad, .int hei, .int lmt, .int twi, .int tst, .int tor, .int tsh, .int goa, .int mos, .int bes, .int cos, .long tot, .long dep, .long wid, .long shs, .ref aSt])), (aK, .inl (cI, 12700, .inl kd)), (aS, .inl (cI, 12700, .inl sh)), (aO, .inl (cI, 12700, .inl od)), (aZ, .inl (cI, 12700, .inl sk)), (aM, .inl (cJ, 12700, .inr (.inl (shM mo (gS kd sv) (amS kd sk sv) ev sv fr (t + 1))))), (aSt, .inl (cJ, 4, .inr (.inl sts)))]) H := hP
            have hD : va_D A ([(md, .inr (6, [.int thr, .ref aK, .ref aW, .ref aH, .ref aD, .ref aS, .ref aO, .ref aZ, .ref aM, .int (nI com), .int (nI the), .int (nI kep), .ref aI, .ref aHt, .ref aDp, .ref aWd, .int mad, .int hei, .int lmt, .int twi, .int tst, .int tor, .int tsh, .int goa, .int mos, .int bes, .int cos, .long tot, .long dep, .long wid, .long shs, .ref aSt])), (aK, .inl (cI, 12700, .inl kd)), (aS, .inl (cI, 12700, .inl sh)), (aO, .inl (cI, 12700, .inl od)), (aZ, .inl (cI, 12700, .inl sk)), (aM, .inl (cJ, 12700, .inr (.inl (shM mo (gS kd sv) (amS kd sk sv) ev sv fr (t + 1))))), (aSt, .inl (cJ, 4, .inr (.inl sts)))]) := hD
            exact ih  oo sv ev (t + 1) (by omega) hfin (by omega) (by omega) _ _ hP hD hS ls (lv_sub hl [4, 5, 6, 7, 8, 9, 10, 11, 1, 0] rfl)
          · exact absurd c_187 (by decide)
        · exact absurd c_146 (by decide)
      · refine lv_lload hx hb dX6_share_111 (lv_at hl 6 rfl) ?_
        refine lv_lconst (v := 0) hx hb dX6_share_113 (by decide) ?_
        refine my_lif_le (tgt := 139) hx hb dX6_share_114 dX6_share_115 (by decide) (fun c_114 => ?_) (fun c_114 => ?_)
        · refine lv_iconst (v := 0) hx hb dX6_share_139 (by decide) ?_
          refine lv_istore (lv' := [(14, .int 0), (0, .ref md), (1, .int (nI fr)), (2, .int (nI n)), (3, .long ex), (5, .int (nI oo)), (6, .int 0), (7, .long sv), (9, .long ev), (11, .long (mB (amS kd sk sv) fr t)), (13, .int (nI (fr + t)))]) hx hb dX6_share_140 hl (by decide) rfl (fun ls hl => ?_)
          refine lv_lload hx hb dX6_share_142 (lv_at hl 9 rfl) ?_
          refine lv_iload hx hb dX6_share_144 (lv_at hl 0 rfl) ?_
          refine lv_if_eq (tgt := 174) hx hb dX6_share_146 (by decide) (fun c_146 => ?_) (fun c_146 => ?_)
          · have c_146 := nc_eq (a := 0) (b := 0) c_146 (by omega) (by omega)
            refine lv_iconst (v := 0) hx hb dX6_share_174 (by decide) ?_
            refine lv_i2l (v := (0 : Int32).toInt64) hx hb dX6_share_175 rfl ?_
            refine lv_ladd hx hb dX6_share_176 ?_
            refine my_topl (y := mB (amS kd sk sv) fr (t + 1)) (by simp [mB, amS, gS, c_108, c_114]) ?_
            refine lv_lstore (lv' := [(15, .long (mB (amS kd sk sv) fr (t + 1))), (14, .int 0), (0, .ref md), (1, .int (nI fr)), (2, .int (nI n)), (3, .long ex), (5, .int (nI oo)), (6, .int 0), (7, .long sv), (9, .long ev), (11, .long (mB (amS kd sk sv) fr t)), (13, .int (nI (fr + t)))]) hx hb dX6_share_177 hl (by decide) rfl (fun ls hl => ?_)
            refine lv_aload_n hx hb dX6_share_179 rfl (lv_at hl 2 rfl) ?_
            refine my_get X hK in_X6_share_X6 hP 0 rfl rfl 8 (by decide) (List.mem_of_getElem? (i := 7) rfl) rfl dX6_share_180 ?_
            refine lv_iload hx hb dX6_share_183 (lv_at hl 11 rfl) ?_
            refine lv_iload hx hb dX6_share_185 (lv_at hl 1 rfl) ?_
            refine lv_if_eq (tgt := 214) hx hb dX6_share_187 (by decide) (fun c_187 => ?_) (fun c_187 => ?_)
            · have c_187 := nc_eq (a := 0) (b := 0) c_187 (by omega) (by omega)
              refine lv_lconst (v := 0) hx hb dX6_share_214 (by decide) ?_
              refine my_last (k := (fr + t)) hx hb hK hP hD hS 5 rfl (rfl) (by omega) (by omega) dX6_share_215 (fun H locs hP hD hS => ?_)
              have hP : va_P (dC, dI) vwCl ([(md, .inr (6, [.int thr, .ref aK, .ref aW, .ref aH, .ref aD, .ref aS, .ref aO, .ref aZ, .ref aM, .int (nI com), .int (nI the), .int (nI kep), .ref aI, .ref aHt, .ref aDp, .ref aWd, .int mad, .int hei, .int lmt, .int twi, .int tst, .int tor, .int tsh, .int goa, .int mos, .int bes, .int cos, .long tot, .long dep, .long wid, .long shs, .ref aSt])), (aK, .inl (cI, 12700, .inl kd)), (aS, .inl (cI, 12700, .inl sh)), (aO, .inl (cI, 12700, .inl od)), (aZ, .inl (cI, 12700, .inl sk)), (aM, .inl (cJ, 12700, .inr (.inl (vp_updL (shM mo (gS kd sv) (amS kd sk sv) ev sv fr t) (fr + t) 0)))), (aSt, .inl (cJ, 4, .inr (.inl sts)))]) H := hP
              have hD : va_D A ([(md, .inr (6, [.int thr, .ref aK, .ref aW, .ref aH, .ref aD, .ref aS, .ref aO, .ref aZ, .ref aM, .int (nI com), .int (nI the), .int (nI kep), .ref aI, .ref aHt, .ref aDp, .ref aWd, .int mad, .int hei, .int lmt, .int twi, .int tst, .int tor, .int tsh, .int goa, .int mos, .int bes, .int cos, .long tot, .long dep, .long wid, .long shs, .ref aSt])), (aK, .inl (cI, 12700, .inl kd)), (aS, .inl (cI, 12700, .inl sh)), (aO, .inl (cI, 12700, .inl od)), (aZ, .inl (cI, 12700, .inl sk)), (aM, .inl (cJ, 12700, .inr (.inl (vp_updL (shM mo (gS kd sv) (amS kd sk sv) ev sv fr t) (fr + t) 0)))), (aSt, .inl (cJ, 4, .inr (.inl sts)))]) := hD
              refine lv_lload hx hb dX6_share_216 (lv_at hl 0 rfl) ?_
              refine lv_lstore (lv' := [(11, .long (mB (amS kd sk sv) fr (t + 1))), (15, .long (mB (amS kd sk sv) fr (t + 1))), (14, .int 0), (0, .ref md), (1, .int (nI fr)), (2, .int (nI n)), (3, .long ex), (5, .int (nI oo)), (6, .int 0), (7, .long sv), (9, .long ev), (13, .int (nI (fr + t)))]) hx hb dX6_share_218 hl (by decide) rfl (fun ls hl => ?_)
              refine lv_iinc (v := nI (fr + t + 1)) (lv' := [(13, .int (nI (fr + t + 1))), (11, .long (mB (amS kd sk sv) fr (t + 1))), (15, .long (mB (amS kd sk sv) fr (t + 1))), (14, .int 0), (0, .ref md), (1, .int (nI fr)), (2, .int (nI n)), (3, .long ex), (5, .int (nI oo)), (6, .int 0), (7, .long sv), (9, .long ev)]) hx hb dX6_share_220 hl (k := 11) rfl (nI_add (fr + t) 1) (by decide) rfl (fun ls hl => ?_)
              refine lv_goto (tgt := 92) hx hb dX6_share_223 (by decide) ?_
              rw [shM_s mo (gS kd sv) (amS kd sk sv) ev sv fr t _ (by simp [gS, c_108, c_114])] at hP hD
              have hP : va_P (dC, dI) vwCl ([(md, .inr (6, [.int thr, .ref aK, .ref aW, .ref aH, .ref aD, .ref aS, .ref aO, .ref aZ, .ref aM, .int (nI com), .int (nI the), .int (nI kep), .ref aI, .ref aHt, .ref aDp, .ref aWd, .int mad, .int hei, .int lmt, .int twi, .int tst, .int tor, .int tsh, .int goa, .int mos, .int bes, .int cos, .long tot, .long dep, .long wid, .long shs, .ref aSt])), (aK, .inl (cI, 12700, .inl kd)), (aS, .inl (cI, 12700, .inl sh)), (aO, .inl (cI, 12700, .inl od)), (aZ, .inl (cI, 12700, .inl sk)), (aM, .inl (cJ, 12700, .inr (.inl (shM mo (gS kd sv) (amS kd sk sv) ev sv fr (t + 1))))), (aSt, .inl (cJ, 4, .inr (.inl sts)))]) H := hP
              have hD : va_D A ([(md, .inr (6, [.int thr, .ref aK, .ref aW, .ref aH, .ref aD, .ref aS, .ref aO, .ref aZ, .ref aM, .int (nI com), .int (nI the), .int (nI kep), .ref aI, .ref aHt, .ref aDp, .ref aWd, .int mad, .int hei, .int lmt, .int twi, .int tst, .int tor, .int tsh, .int goa, .int mos, .int bes, .int cos, .long tot, .long dep, .long wid, .long shs, .ref aSt])), (aK, .inl (cI, 12700, .inl kd)), (aS, .inl (cI, 12700, .inl sh)), (aO, .inl (cI, 12700, .inl od)), (aZ, .inl (cI, 12700, .inl sk)), (aM, .inl (cJ, 12700, .inr (.inl (shM mo (gS kd sv) (amS kd sk sv) ev sv fr (t + 1))))), (aSt, .inl (cJ, 4, .inr (.inl sts)))]) := hD
              exact ih  oo sv ev (t + 1) (by omega) hfin (by omega) (by omega) _ _ hP hD hS ls (lv_sub hl [4, 5, 6, 7, 8, 9, 10, 11, 1, 0] rfl)
            · exact absurd c_187 (by decide)
          · exact absurd c_146 (by decide)
        · refine lv_iload hx hb dX6_share_118 (lv_at hl 5 rfl) ?_
          refine lv_if_eq (tgt := 135) hx hb dX6_share_120 (by decide) (fun c_120 => ?_) (fun c_120 => ?_)
          · have c_120 := nc_eq (a := 0) (b := 0) c_120 (by omega) (by omega)
            refine lv_iconst (v := 1) hx hb dX6_share_135 (by decide) ?_
            refine lv_goto (tgt := 140) hx hb dX6_share_136 (by decide) ?_
            refine lv_istore (lv' := [(14, .int 1), (0, .ref md), (1, .int (nI fr)), (2, .int (nI n)), (3, .long ex), (5, .int (nI oo)), (6, .int 0), (7, .long sv), (9, .long ev), (11, .long (mB (amS kd sk sv) fr t)), (13, .int (nI (fr + t)))]) hx hb dX6_share_140 hl (by decide) rfl (fun ls hl => ?_)
            refine lv_lload hx hb dX6_share_142 (lv_at hl 9 rfl) ?_
            refine lv_iload hx hb dX6_share_144 (lv_at hl 0 rfl) ?_
            refine lv_if_eq (tgt := 174) hx hb dX6_share_146 (by decide) (fun c_146 => ?_) (fun c_146 => ?_)
            · exact absurd c_146 (by decide)
            · have c_146 := nc_ne (a := 1) (b := 0) c_146 (by omega) (by omega)
              refine lv_iload hx hb dX6_share_149 (lv_at hl 6 rfl) ?_
              refine lv_if_eq (tgt := 164) hx hb dX6_share_151 (by decide) (fun c_151 => ?_) (fun c_151 => ?_)
              · have c_151 := nc_eq (a := 0) (b := 0) c_151 (by omega) (by omega)
                refine lv_aload_n hx hb dX6_share_164 rfl (lv_at hl 1 rfl) ?_
                refine my_get X hK in_X6_share_X6 hP 0 rfl rfl 7 (by decide) (List.mem_of_getElem? (i := 6) rfl) rfl dX6_share_165 ?_
                refine lv_iload hx hb dX6_share_168 (lv_at hl 10 rfl) ?_
                refine my_iald (k := (fr + t)) hx hb hK hP 4 rfl (rfl) (by omega) (by omega) dX6_share_170 ?_
                refine lv_goto (tgt := 175) hx hb dX6_share_171 (by decide) ?_
                refine lv_i2l (v := (sk (fr + t)).toInt64) hx hb dX6_share_175 rfl ?_
                refine lv_ladd hx hb dX6_share_176 ?_
                refine my_topl (y := mB (amS kd sk sv) fr (t + 1)) (by simp [mB, amS, gS, c_108, c_114]) ?_
                refine lv_lstore (lv' := [(15, .long (mB (amS kd sk sv) fr (t + 1))), (14, .int 1), (0, .ref md), (1, .int (nI fr)), (2, .int (nI n)), (3, .long ex), (5, .int (nI oo)), (6, .int 0), (7, .long sv), (9, .long ev), (11, .long (mB (amS kd sk sv) fr t)), (13, .int (nI (fr + t)))]) hx hb dX6_share_177 hl (by decide) rfl (fun ls hl => ?_)
                refine lv_aload_n hx hb dX6_share_179 rfl (lv_at hl 2 rfl) ?_
                refine my_get X hK in_X6_share_X6 hP 0 rfl rfl 8 (by decide) (List.mem_of_getElem? (i := 7) rfl) rfl dX6_share_180 ?_
                refine lv_iload hx hb dX6_share_183 (lv_at hl 11 rfl) ?_
                refine lv_iload hx hb dX6_share_185 (lv_at hl 1 rfl) ?_
                refine lv_if_eq (tgt := 214) hx hb dX6_share_187 (by decide) (fun c_187 => ?_) (fun c_187 => ?_)
                · exact absurd c_187 (by decide)
                · have c_187 := nc_ne (a := 1) (b := 0) c_187 (by omega) (by omega)
                  refine lv_lload hx hb dX6_share_190 (lv_at hl 9 rfl) ?_
                  refine lv_lload hx hb dX6_share_192 (lv_at hl 0 rfl) ?_
                  refine lv_lmul hx hb dX6_share_194 ?_
                  refine lv_lload hx hb dX6_share_195 (lv_at hl 8 rfl) ?_
                  have hPc := hP.sub (ws' := []) [] rfl
                  refine my_rdl (my_runS (n := 2) (As := [.long (ev * (mB (amS kd sk sv) fr (t + 1))), .long sv]) (rest := [.int (nI (fr + t)), .ref aM]) X PR.blind (PR.pre hPc hK) (m_near l dC dI cI cJ cO (ev * (mB (amS kd sk sv) fr (t + 1))) sv c_114) gX6_share_X6_near rfl rfl rfl (by decide +kernel) rfl ⟨Nat.le_of_ble_eq_true rfl, Nat.le_of_ble_eq_true rfl⟩ hl.1 rfl (Nat.le_of_ble_eq_true rfl) dX6_share_197 ⟨by first | decide | omega | (dsimp only; omega), by first | decide | omega | (dsimp only; omega)⟩) (fun r_1 hr_1 => ?_)
                  subst hr_1
                  refine lv_lload hx hb dX6_share_200 (lv_at hl 9 rfl) ?_
                  refine lv_lload hx hb dX6_share_202 (lv_at hl 10 rfl) ?_
                  refine lv_lmul hx hb dX6_share_204 ?_
                  refine lv_lload hx hb dX6_share_205 (lv_at hl 8 rfl) ?_
                  have hPc := hP.sub (ws' := []) [] rfl
                  refine my_rdl (my_runS (n := 2) (As := [.long (ev * (mB (amS kd sk sv) fr t)), .long sv]) (rest := [.long (mne (ev * (mB (amS kd sk sv) fr (t + 1))) sv), .int (nI (fr + t)), .ref aM]) X PR.blind (PR.pre hPc hK) (m_near l dC dI cI cJ cO (ev * (mB (amS kd sk sv) fr t)) sv c_114) gX6_share_X6_near rfl rfl rfl (by decide +kernel) rfl ⟨Nat.le_of_ble_eq_true rfl, Nat.le_of_ble_eq_true rfl⟩ hl.1 rfl (Nat.le_of_ble_eq_true rfl) dX6_share_207 ⟨by first | decide | omega | (dsimp only; omega), by first | decide | omega | (dsimp only; omega)⟩) (fun r_2 hr_2 => ?_)
                  subst hr_2
                  refine lv_lsub hx hb dX6_share_210 ?_
                  refine lv_goto (tgt := 215) hx hb dX6_share_211 (by decide) ?_
                  refine my_last (k := (fr + t)) hx hb hK hP hD hS 5 rfl (rfl) (by omega) (by omega) dX6_share_215 (fun H locs hP hD hS => ?_)
                  have hP : va_P (dC, dI) vwCl ([(md, .inr (6, [.int thr, .ref aK, .ref aW, .ref aH, .ref aD, .ref aS, .ref aO, .ref aZ, .ref aM, .int (nI com), .int (nI the), .int (nI kep), .ref aI, .ref aHt, .ref aDp, .ref aWd, .int mad, .int hei, .int lmt, .int twi, .int tst, .int tor, .int tsh, .int goa, .int mos, .int bes, .int cos, .long tot, .long dep, .long wid, .long shs, .ref aSt])), (aK, .inl (cI, 12700, .inl kd)), (aS, .inl (cI, 12700, .inl sh)), (aO, .inl (cI, 12700, .inl od)), (aZ, .inl (cI, 12700, .inl sk)), (aM, .inl (cJ, 12700, .inr (.inl (vp_updL (shM mo (gS kd sv) (amS kd sk sv) ev sv fr t) (fr + t) ((mne (ev * (mB (amS kd sk sv) fr (t + 1))) sv) - (mne (ev * (mB (amS kd sk sv) fr t)) sv)))))), (aSt, .inl (cJ, 4, .inr (.inl sts)))]) H := hP
                  have hD : va_D A ([(md, .inr (6, [.int thr, .ref aK, .ref aW, .ref aH, .ref aD, .ref aS, .ref aO, .ref aZ, .ref aM, .int (nI com), .int (nI the), .int (nI kep), .ref aI, .ref aHt, .ref aDp, .ref aWd, .int mad, .int hei, .int lmt, .int twi, .int tst, .int tor, .int tsh, .int goa, .int mos, .int bes, .int cos, .long tot, .long dep, .long wid, .long shs, .ref aSt])), (aK, .inl (cI, 12700, .inl kd)), (aS, .inl (cI, 12700, .inl sh)), (aO, .inl (cI, 12700, .inl od)), (aZ, .inl (cI, 12700, .inl sk)), (aM, .inl (cJ, 12700, .inr (.inl (vp_updL (shM mo (gS kd sv) (amS kd sk sv) ev sv fr t) (fr + t) ((mne (ev * (mB (amS kd sk sv) fr (t + 1))) sv) - (mne (ev * (mB (amS kd sk sv) fr t)) sv)))))), (aSt, .inl (cJ, 4, .inr (.inl sts)))]) := hD
                  refine lv_lload hx hb dX6_share_216 (lv_at hl 0 rfl) ?_
                  refine lv_lstore (lv' := [(11, .long (mB (amS kd sk sv) fr (t + 1))), (15, .long (mB (amS kd sk sv) fr (t + 1))), (14, .int 1), (0, .ref md), (1, .int (nI fr)), (2, .int (nI n)), (3, .long ex), (5, .int (nI oo)), (6, .int 0), (7, .long sv), (9, .long ev), (13, .int (nI (fr + t)))]) hx hb dX6_share_218 hl (by decide) rfl (fun ls hl => ?_)
                  refine lv_iinc (v := nI (fr + t + 1)) (lv' := [(13, .int (nI (fr + t + 1))), (11, .long (mB (amS kd sk sv) fr (t + 1))), (15, .long (mB (amS kd sk sv) fr (t + 1))), (14, .int 1), (0, .ref md), (1, .int (nI fr)), (2, .int (nI n)), (3, .long ex), (5, .int (nI oo)), (6, .int 0), (7, .long sv), (9, .long ev)]) hx hb dX6_share_220 hl (k := 11) rfl (nI_add (fr + t) 1) (by decide) rfl (fun ls hl => ?_)
                  refine lv_goto (tgt := 92) hx hb dX6_share_223 (by decide) ?_
                  rw [shM_s mo (gS kd sv) (amS kd sk sv) ev sv fr t _ (by simp [gS, c_108, c_114])] at hP hD
                  have hP : va_P (dC, dI) vwCl ([(md, .inr (6, [.int thr, .ref aK, .ref aW, .ref aH, .ref aD, .ref aS, .ref aO, .ref aZ, .ref aM, .int (nI com), .int (nI the), .int (nI kep), .ref aI, .ref aHt, .ref aDp, .ref aWd, .int mad, .int hei, .int lmt, .int twi, .int tst, .int tor, .int tsh, .int goa, .int mos, .int bes, .int cos, .long tot, .long dep, .long wid, .long shs, .ref aSt])), (aK, .inl (cI, 12700, .inl kd)), (aS, .inl (cI, 12700, .inl sh)), (aO, .inl (cI, 12700, .inl od)), (aZ, .inl (cI, 12700, .inl sk)), (aM, .inl (cJ, 12700, .inr (.inl (shM mo (gS kd sv) (amS kd sk sv) ev sv fr (t + 1))))), (aSt, .inl (cJ, 4, .inr (.inl sts)))]) H := hP
                  have hD : va_D A ([(md, .inr (6, [.int thr, .ref aK, .ref aW, .ref aH, .ref aD, .ref aS, .ref aO, .ref aZ, .ref aM, .int (nI com), .int (nI the), .int (nI kep), .ref aI, .ref aHt, .ref aDp, .ref aWd, .int mad, .int hei, .int lmt, .int twi, .int tst, .int tor, .int tsh, .int goa, .int mos, .int bes, .int cos, .long tot, .long dep, .long wid, .long shs, .ref aSt])), (aK, .inl (cI, 12700, .inl kd)), (aS, .inl (cI, 12700, .inl sh)), (aO, .inl (cI, 12700, .inl od)), (aZ, .inl (cI, 12700, .inl sk)), (aM, .inl (cJ, 12700, .inr (.inl (shM mo (gS kd sv) (amS kd sk sv) ev sv fr (t + 1))))), (aSt, .inl (cJ, 4, .inr (.inl sts)))]) := hD
                  exact ih  oo sv ev (t + 1) (by omega) hfin (by omega) (by omega) _ _ hP hD hS ls (lv_sub hl [4, 5, 6, 7, 8, 9, 10, 11, 1, 0] rfl)
              · exact absurd c_151 (by decide)
          · exact absurd c_120 (by decide)
set_option maxHeartbeats 200000 in
set_option maxRecDepth 100000 in
theorem m_share (l : Launch) (dC : Nat → ClassId) (dI : Nat → Nat → Nat) (cI cJ cO : ClassId) (hz : Nat) (md : Nat) (thr : Int32) (com : Nat) (the : Nat) (kep : Nat) (mad : Int32) (hei : Int32) (lmt : Int32) (twi : Int32) (tst : Int32) (tor : Int32) (tsh : Int32) (goa : Int32) (mos : Int32) (bes : Int32) (cos : Int32) (tot : Int64) (dep : Int64) (wid : Int64) (shs : Int64) (aK : Nat) (aW : Nat) (aH : Nat) (aD : Nat) (aS : Nat) (aO : Nat) (aZ : Nat) (aM : Nat) (aI : Nat) (aHt : Nat) (aDp : Nat) (aWd : Nat) (aSt : Nat) (kd : Nat → Int32) (sh : Nat → Int32) (od : Nat → Int32) (sk : Nat → Int32) (mo : Nat → Int64) (sts : Nat → Int64) (fr : Nat) (n : Nat) (ex : Int64) (hn : fr + n ≤ 12700) : Met l yX6_share wsX6_share ({ frames := 1, cells := 0, slots := 0, locals := 25 }) (va_Pc [.ref md, .int (nI fr), .int (nI n), .long ex] (PW dC dI cI cJ cO [(md, .inr (6, [.int thr, .ref aK, .ref aW, .ref aH, .ref aD, .ref aS, .ref aO, .ref aZ, .ref aM, .int (nI com), .int (nI the), .int (nI kep), .ref aI, .ref aHt, .ref aDp, .ref aWd, .int mad, .int hei, .int lmt, .int twi, .int tst, .int tor, .int tsh, .int goa, .int mos, .int bes, .int cos, .long tot, .long dep, .long wid, .long shs, .ref aSt])), (aK, .inl (cI, 12700, .inl kd)), (aS, .inl (cI, 12700, .inl sh)), (aO, .inl (cI, 12700, .inl od)), (aZ, .inl (cI, 12700, .inl sk)), (aM, .inl (cJ, 12700, .inr (.inl mo))), (aSt, .inl (cJ, 4, .inr (.inl sts)))] hz)) (va_Qv (fun mo1 : Nat → Int64 => mo1 = (if 0 < ex then shM mo (gG kd od (sts (mho sts)) (mho sts)) (amG kd od sh (sts (mho sts)) (mho sts)) ex (sts (mho sts)) fr n else shM mo (gS kd shs) (amS kd sk shs) (if ex < -shs then -shs else ex) shs fr n)) (fun (mo1 : Nat → Int64) t9 => BW dC dI (va_A [(md, .inr (6, [.int thr, .ref aK, .ref aW, .ref aH, .ref aD, .ref aS, .ref aO, .ref aZ, .ref aM, .int (nI com), .int (nI the), .int (nI kep), .ref aI, .ref aHt, .ref aDp, .ref aWd, .int mad, .int hei, .int lmt, .int twi, .int tst, .int tor, .int tsh, .int goa, .int mos, .int bes, .int cos, .long tot, .long dep, .long wid, .long shs, .ref aSt])), (aK, .inl (cI, 12700, .inl kd)), (aS, .inl (cI, 12700, .inl sh)), (aO, .inl (cI, 12700, .inl od)), (aZ, .inl (cI, 12700, .inl sk)), (aM, .inl (cJ, 12700, .inr (.inl mo))), (aSt, .inl (cJ, 4, .inr (.inl sts)))] hz) [(md, .inr (6, [.int thr, .ref aK, .ref aW, .ref aH, .ref aD, .ref aS, .ref aO, .ref aZ, .ref aM, .int (nI com), .int (nI the), .int (nI kep), .ref aI, .ref aHt, .ref aDp, .ref aWd, .int mad, .int hei, .int lmt, .int twi, .int tst, .int tor, .int tsh, .int goa, .int mos, .int bes, .int cos, .long tot, .long dep, .long wid, .long shs, .ref aSt])), (aK, .inl (cI, 12700, .inl kd)), (aS, .inl (cI, 12700, .inl sh)), (aO, .inl (cI, 12700, .inl od)), (aZ, .inl (cI, 12700, .inl sk)), (aM, .inl (cJ, 12700, .inr (.inl mo1))), (aSt, .inl (cJ, 4, .inr (.inl sts)))] t9) (va_A [(md, .inr (6, [.int thr, .ref aK, .ref aW, .ref aH, .ref aD, .ref aS, .ref aO, .ref aZ, .ref aM, .int (nI com), .int (nI the), .int (nI kep), .ref aI, .ref aHt, .ref aDp, .ref aWd, .int mad, .int hei, .int lmt, .int twi, .int tst, .int tor, .int tsh, .int goa, .int mos, .int bes, .int cos, .long tot, .long dep, .long wid, .long shs, .ref aSt])), (aK, .inl (cI, 12700, .inl kd)), (aS, .inl (cI, 12700, .inl sh)), (aO, .inl (cI, 12700, .inl od)), (aZ, .inl (cI, 12700, .inl sk)), (aM, .inl (cJ, 12700, .inr (.inl mo))), (aSt, .inl (cJ, 4, .inr (.inl sts)))] hz)) 0 0 (va_A [(md, .inr (6, [.int thr, .ref aK, .ref aW, .ref aH, .ref aD, .ref aS, .ref aO, .ref aZ, .ref aM, .int (nI com), .int (nI the), .int (nI kep), .ref aI, .ref aHt, .ref aDp, .ref aWd, .int mad, .int hei, .int lmt, .int twi, .int tst, .int tor, .int tsh, .int goa, .int mos, .int bes, .int cos, .long tot, .long dep, .long wid, .long shs, .ref aSt])), (aK, .inl (cI, 12700, .inl kd)), (aS, .inl (cI, 12700, .inl sh)), (aO, .inl (cI, 12700, .inl od)), (aZ, .inl (cI, 12700, .inl sk)), (aM, .inl (cJ, 12700, .inr (.inl mo))), (aSt, .inl (cJ, 4, .inr (.inl sts)))] hz) := by
  refine my_metW (ws := wsX6_share) (cc := cX6_share) (maxL := 17) (ret := none) (Qc := fun A => va_Qv (fun mo1 : Nat → Int64 => mo1 = (if 0 < ex then shM mo (gG kd od (sts (mho sts)) (mho sts)) (amG kd od sh (sts (mho sts)) (mho sts)) ex (sts (mho sts)) fr n else shM mo (gS kd shs) (amS kd sk shs) (if ex < -shs then -shs else ex) shs fr n)) (fun (mo1 : Nat → Int64) t9 => BW dC dI A [(md, .inr (6, [.int thr, .ref aK, .ref aW, .ref aH, .ref aD, .ref aS, .ref aO, .ref aZ, .ref aM, .int (nI com), .int (nI the), .int (nI kep), .ref aI, .ref aHt, .ref aDp, .ref aWd, .int mad, .int hei, .int lmt, .int twi, .int tst, .int tor, .int tsh, .int goa, .int mos, .int bes, .int cos, .long tot, .long dep, .long wid, .long shs, .ref aSt])), (aK, .inl (cI, 12700, .inl kd)), (aS, .inl (cI, 12700, .inl sh)), (aO, .inl (cI, 12700, .inl od)), (aZ, .inl (cI, 12700, .inl sk)), (aM, .inl (cJ, 12700, .inr (.inl mo1))), (aSt, .inl (cJ, 4, .inr (.inl sts)))] t9) A) (by decide) rfl (Nat.le_of_ble_eq_true rfl) ?_
  intro p e s m below meth c ls A X hl hK hA hP hD hS
  obtain ⟨hx, hb, hr, hml, hown, hts, hlocks, hnm⟩ := id X
  have hl : lv_has ls 17 [(0, .ref md), (1, .int (nI fr)), (2, .int (nI n)), (3, .long ex)] := hl
  refine lv_iconst (v := 3) hx hb dX6_share_0 (by decide) ?_
  refine lv_istore (lv' := [(5, .int 3), (0, .ref md), (1, .int (nI fr)), (2, .int (nI n)), (3, .long ex)]) hx hb dX6_share_1 hl (by decide) rfl (fun ls hl => ?_)
  refine lv_iload hx hb dX6_share_3 (lv_at hl 0 rfl) ?_
  refine lv_if_le (tgt := 26) hx hb dX6_share_5 (by decide) (fun c_5 => ?_) (fun c_5 => ?_)
  · exact absurd c_5 (by decide)
  · have c_5 := nc_nle (a := 3) (b := 0) c_5 (by omega) (by omega)
    refine lv_aload_n hx hb dX6_share_8 rfl (lv_at hl 1 rfl) ?_
    refine my_get X hK in_X6_share_X6 hP 0 rfl rfl 31 (by decide) (List.mem_of_getElem? (i := 1) rfl) rfl dX6_share_9 ?_
    refine lv_iload hx hb dX6_share_12 (lv_at hl 0 rfl) ?_
    refine my_lald (k := 3) hx hb hK hP 6 rfl (rfl) (by omega) (by omega) dX6_share_14 ?_
    refine lv_lconst (v := 0) hx hb dX6_share_15 (by decide) ?_
    refine my_lif_ne (tgt := 26) hx hb dX6_share_16 dX6_share_17 (by decide) (fun c_16 => ?_) (fun c_16 => ?_)
    · refine lv_lload_n hx hb dX6_share_26 rfl (lv_at hl 4 rfl) ?_
      refine lv_lconst (v := 0) hx hb dX6_share_27 (by decide) ?_
      refine my_lif_le (tgt := 36) hx hb dX6_share_28 dX6_share_29 (by decide) (fun c_28 => ?_) (fun c_28 => ?_)
      · refine lv_iconst (v := 0) hx hb dX6_share_36 (by decide) ?_
        refine lv_istore (lv' := [(6, .int 0), (5, .int 3), (0, .ref md), (1, .int (nI fr)), (2, .int (nI n)), (3, .long ex)]) hx hb dX6_share_37 hl (by decide) rfl (fun ls hl => ?_)
        refine lv_iload hx hb dX6_share_39 (lv_at hl 0 rfl) ?_
        refine lv_if_eq (tgt := 54) hx hb dX6_share_41 (by decide) (fun c_41 => ?_) (fun c_41 => ?_)
        · have c_41 := nc_eq (a := 0) (b := 0) c_41 (by omega) (by omega)
          refine lv_aload_n hx hb dX6_share_54 rfl (lv_at hl 2 rfl) ?_
          refine my_get X hK in_X6_share_X6 hP 0 rfl rfl 30 (by decide) (List.mem_of_getElem? (i := 2) rfl) rfl dX6_share_55 ?_
          refine lv_lstore (lv' := [(7, .long shs), (6, .int 0), (5, .int 3), (0, .ref md), (1, .int (nI fr)), (2, .int (nI n)), (3, .long ex)]) hx hb dX6_share_58 hl (by decide) rfl (fun ls hl => ?_)
          refine lv_iload hx hb dX6_share_60 (lv_at hl 1 rfl) ?_
          refine lv_if_ne (tgt := 83) hx hb dX6_share_62 (by decide) (fun c_62 => ?_) (fun c_62 => ?_)
          · exact absurd c_62 (by decide)
          · have c_62 := nc_eq (a := 0) (b := 0) c_62 (by omega) (by omega)
            refine lv_lload_n hx hb dX6_share_65 rfl (lv_at hl 6 rfl) ?_
            refine lv_aload_n hx hb dX6_share_66 rfl (lv_at hl 3 rfl) ?_
            refine my_get X hK in_X6_share_X6 hP 0 rfl rfl 30 (by decide) (List.mem_of_getElem? (i := 2) rfl) rfl dX6_share_67 ?_
            refine lv_lneg hx hb dX6_share_70 ?_
            refine my_lif_ge (tgt := 83) hx hb dX6_share_71 dX6_share_72 (by decide) (fun c_71 => ?_) (fun c_71 => ?_)
            · refine lv_lload_n hx hb dX6_share_83 rfl (lv_at hl 6 rfl) ?_
              refine lv_lstore (lv' := [(9, .long ex), (7, .long shs), (6, .int 0), (5, .int 3), (0, .ref md), (1, .int (nI fr)), (2, .int (nI n)), (3, .long ex)]) hx hb dX6_share_84 hl (by decide) rfl (fun ls hl => ?_)
              refine lv_lconst (v := 0) hx hb dX6_share_86 (by decide) ?_
              refine lv_lstore (lv' := [(11, .long 0), (9, .long ex), (7, .long shs), (6, .int 0), (5, .int 3), (0, .ref md), (1, .int (nI fr)), (2, .int (nI n)), (3, .long ex)]) hx hb dX6_share_87 hl (by decide) rfl (fun ls hl => ?_)
              refine lv_iload_n hx hb dX6_share_89 rfl (lv_at hl 6 rfl) ?_
              refine lv_istore (lv' := [(13, .int (nI fr)), (11, .long 0), (9, .long ex), (7, .long shs), (6, .int 0), (5, .int 3), (0, .ref md), (1, .int (nI fr)), (2, .int (nI n)), (3, .long ex)]) hx hb dX6_share_90 hl (by decide) rfl (fun ls hl => ?_)
              rw [← shM_0 mo (gS kd shs) (amS kd sk shs) ex shs fr] at hP hD
              have hl : lv_has ls 17 [(13, .int (nI (fr + 0))), (11, .long (mB (amS kd sk shs) fr 0)), (9, .long ex), (7, .long shs), (6, .int 0), (5, .int 3), (0, .ref md), (1, .int (nI fr)), (2, .int (nI n)), (3, .long ex)] := hl
              exact lp_mshare0 md thr com the kep mad hei lmt twi tst tor tsh goa mos bes cos tot dep wid shs aK aW aH aD aS aO aZ aM aI aHt aDp aWd aSt kd sh od sk mo sts fr n ex hn X hK hA (n - 0 + 1) 3 shs ex 0 (by omega) (by rw [if_neg c_28]; simp only [c_71, if_true, if_false]) (by omega) (by omega) _ _ hP hD hS ls (lv_sub hl [6, 7, 8, 9, 5, 4, 3, 2, 1, 0] rfl)
            · refine lv_aload_n hx hb dX6_share_75 rfl (lv_at hl 3 rfl) ?_
              refine my_get X hK in_X6_share_X6 hP 0 rfl rfl 30 (by decide) (List.mem_of_getElem? (i := 2) rfl) rfl dX6_share_76 ?_
              refine lv_lneg hx hb dX6_share_79 ?_
              refine lv_goto (tgt := 84) hx hb dX6_share_80 (by decide) ?_
              refine lv_lstore (lv' := [(9, .long (-shs)), (7, .long shs), (6, .int 0), (5, .int 3), (0, .ref md), (1, .int (nI fr)), (2, .int (nI n)), (3, .long ex)]) hx hb dX6_share_84 hl (by decide) rfl (fun ls hl => ?_)
              refine lv_lconst (v := 0) hx hb dX6_share_86 (by decide) ?_
              refine lv_lstore (lv' := [(11, .long 0), (9, .long (-shs)), (7, .long shs), (6, .int 0), (5, .int 3), (0, .ref md), (1, .int (nI fr)), (2, .int (nI n)), (3, .long ex)]) hx hb dX6_share_87 hl (by decide) rfl (fun ls hl => ?_)
              refine lv_iload_n hx hb dX6_share_89 rfl (lv_at hl 6 rfl) ?_
              refine lv_istore (lv' := [(13, .int (nI fr)), (11, .long 0), (9, .long (-shs)), (7, .long shs), (6, .int 0), (5, .int 3), (0, .ref md), (1, .int (nI fr)), (2, .int (nI n)), (3, .long ex)]) hx hb dX6_share_90 hl (by decide) rfl (fun ls hl => ?_)
              rw [← shM_0 mo (gS kd shs) (amS kd sk shs) (-shs) shs fr] at hP hD
              have hl : lv_has ls 17 [(13, .int (nI (fr + 0))), (11, .long (mB (amS kd sk shs) fr 0)), (9, .long (-shs)), (7, .long shs), (6, .int 0), (5, .int 3), (0, .ref md), (1, .int (nI fr)), (2, .int (nI n)), (3, .long ex)] := hl
              exact lp_mshare0 md thr com the kep mad hei lmt twi tst tor tsh goa mos bes cos tot dep wid shs aK aW aH aD aS aO aZ aM aI aHt aDp aWd aSt kd sh od sk mo sts fr n ex hn X hK hA (n - 0 + 1) 3 shs (-shs) 0 (by omega) (by rw [if_neg c_28]; simp only [c_71, if_true, if_false]) (by omega) (by omega) _ _ hP hD hS ls (lv_sub hl [6, 7, 8, 9, 5, 4, 3, 2, 1, 0] rfl)
        · exact absurd c_41 (by decide)
      · refine lv_iconst (v := 1) hx hb dX6_share_32 (by decide) ?_
        refine lv_goto (tgt := 37) hx hb dX6_share_33 (by decide) ?_
        refine lv_istore (lv' := [(6, .int 1), (5, .int 3), (0, .ref md), (1, .int (nI fr)), (2, .int (nI n)), (3, .long ex)]) hx hb dX6_share_37 hl (by decide) rfl (fun ls hl => ?_)
        refine lv_iload hx hb dX6_share_39 (lv_at hl 0 rfl) ?_
        refine lv_if_eq (tgt := 54) hx hb dX6_share_41 (by decide) (fun c_41 => ?_) (fun c_41 => ?_)
        · exact absurd c_41 (by decide)
        · have c_41 := nc_ne (a := 1) (b := 0) c_41 (by omega) (by omega)
          refine lv_aload_n hx hb dX6_share_44 rfl (lv_at hl 2 rfl) ?_
          refine my_get X hK in_X6_share_X6 hP 0 rfl rfl 31 (by decide) (List.mem_of_getElem? (i := 1) rfl) rfl dX6_share_45 ?_
          refine lv_iload hx hb dX6_share_48 (lv_at hl 1 rfl) ?_
          refine my_lald (k := 3) hx hb hK hP 6 rfl (rfl) (by omega) (by omega) dX6_share_50 ?_
          refine lv_goto (tgt := 58) hx hb dX6_share_51 (by decide) ?_
          refine lv_lstore (lv' := [(7, .long (sts 3)), (6, .int 1), (5, .int 3), (0, .ref md), (1, .int (nI fr)), (2, .int (nI n)), (3, .long ex)]) hx hb dX6_share_58 hl (by decide) rfl (fun ls hl => ?_)
          refine lv_iload hx hb dX6_share_60 (lv_at hl 1 rfl) ?_
          refine lv_if_ne (tgt := 83) hx hb dX6_share_62 (by decide) (fun c_62 => ?_) (fun c_62 => ?_)
          · have c_62 := nc_ne (a := 1) (b := 0) c_62 (by omega) (by omega)
            refine lv_lload_n hx hb dX6_share_83 rfl (lv_at hl 6 rfl) ?_
            refine lv_lstore (lv' := [(9, .long ex), (7, .long (sts 3)), (6, .int 1), (5, .int 3), (0, .ref md), (1, .int (nI fr)), (2, .int (nI n)), (3, .long ex)]) hx hb dX6_share_84 hl (by decide) rfl (fun ls hl => ?_)
            refine lv_lconst (v := 0) hx hb dX6_share_86 (by decide) ?_
            refine lv_lstore (lv' := [(11, .long 0), (9, .long ex), (7, .long (sts 3)), (6, .int 1), (5, .int 3), (0, .ref md), (1, .int (nI fr)), (2, .int (nI n)), (3, .long ex)]) hx hb dX6_share_87 hl (by decide) rfl (fun ls hl => ?_)
            refine lv_iload_n hx hb dX6_share_89 rfl (lv_at hl 6 rfl) ?_
            refine lv_istore (lv' := [(13, .int (nI fr)), (11, .long 0), (9, .long ex), (7, .long (sts 3)), (6, .int 1), (5, .int 3), (0, .ref md), (1, .int (nI fr)), (2, .int (nI n)), (3, .long ex)]) hx hb dX6_share_90 hl (by decide) rfl (fun ls hl => ?_)
            rw [← shM_0 mo (gG kd od (sts 3) 3) (amG kd od sh (sts 3) 3) ex (sts 3) fr] at hP hD
            have hl : lv_has ls 17 [(13, .int (nI (fr + 0))), (11, .long (mB (amG kd od sh (sts 3) 3) fr 0)), (9, .long ex), (7, .long (sts 3)), (6, .int 1), (5, .int 3), (0, .ref md), (1, .int (nI fr)), (2, .int (nI n)), (3, .long ex)] := hl
            exact lp_mshare1 md thr com the kep mad hei lmt twi tst tor tsh goa mos bes cos tot dep wid shs aK aW aH aD aS aO aZ aM aI aHt aDp aWd aSt kd sh od sk mo sts fr n ex hn X hK hA (n - 0 + 1) 3 (sts 3) ex 0 (by omega) ((fun em : mho sts = 3 => by rw [if_pos c_28, em]) (by simp [mho, c_16])) (by omega) (by omega) _ _ hP hD hS ls (lv_sub hl [6, 7, 8, 9, 5, 4, 3, 2, 1, 0] rfl)
          · exact absurd c_62 (by decide)
    · refine lv_iinc (v := nI 2) (lv' := [(5, .int (nI 2)), (0, .ref md), (1, .int (nI fr)), (2, .int (nI n)), (3, .long ex)]) hx hb dX6_share_20 hl (k := 0) rfl (by decide) (by decide) rfl (fun ls hl => ?_)
      refine lv_goto (tgt := 3) hx hb dX6_share_23 (by decide) ?_
      refine lv_iload hx hb dX6_share_3 (lv_at hl 0 rfl) ?_
      refine lv_if_le (tgt := 26) hx hb dX6_share_5 (by decide) (fun c_5 => ?_) (fun c_5 => ?_)
      · exact absurd c_5 (by decide)
      · have c_5 := nc_nle (a := 2) (b := 0) c_5 (by omega) (by omega)
        refine lv_aload_n hx hb dX6_share_8 rfl (lv_at hl 1 rfl) ?_
        refine my_get X hK in_X6_share_X6 hP 0 rfl rfl 31 (by decide) (List.mem_of_getElem? (i := 1) rfl) rfl dX6_share_9 ?_
        refine lv_iload hx hb dX6_share_12 (lv_at hl 0 rfl) ?_
        refine my_lald (k := 2) hx hb hK hP 6 rfl (rfl) (by omega) (by omega) dX6_share_14 ?_
        refine lv_lconst (v := 0) hx hb dX6_share_15 (by decide) ?_
        refine my_lif_ne (tgt := 26) hx hb dX6_share_16 dX6_share_17 (by decide) (fun c_16x => ?_) (fun c_16x => ?_)
        · refine lv_lload_n hx hb dX6_share_26 rfl (lv_at hl 4 rfl) ?_
          refine lv_lconst (v := 0) hx hb dX6_share_27 (by decide) ?_
          refine my_lif_le (tgt := 36) hx hb dX6_share_28 dX6_share_29 (by decide) (fun c_28 => ?_) (fun c_28 => ?_)
          · refine lv_iconst (v := 0) hx hb dX6_share_36 (by decide) ?_
            refine lv_istore (lv' := [(6, .int 0), (5, .int (nI 2)), (0, .ref md), (1, .int (nI fr)), (2, .int (nI n)), (3, .long ex)]) hx hb dX6_share_37 hl (by decide) rfl (fun ls hl => ?_)
            refine lv_iload hx hb dX6_share_39 (lv_at hl 0 rfl) ?_
            refine lv_if_eq (tgt := 54) hx hb dX6_share_41 (by decide) (fun c_41 => ?_) (fun c_41 => ?_)
            · have c_41 := nc_eq (a := 0) (b := 0) c_41 (by omega) (by omega)
              refine lv_aload_n hx hb dX6_share_54 rfl (lv_at hl 2 rfl) ?_
              refine my_get X hK in_X6_share_X6 hP 0 rfl rfl 30 (by decide) (List.mem_of_getElem? (i := 2) rfl) rfl dX6_share_55 ?_
              refine lv_lstore (lv' := [(7, .long shs), (6, .int 0), (5, .int (nI 2)), (0, .ref md), (1, .int (nI fr)), (2, .int (nI n)), (3, .long ex)]) hx hb dX6_share_58 hl (by decide) rfl (fun ls hl => ?_)
              refine lv_iload hx hb dX6_share_60 (lv_at hl 1 rfl) ?_
              refine lv_if_ne (tgt := 83) hx hb dX6_share_62 (by decide) (fun c_62 => ?_) (fun c_62 => ?_)
              · exact absurd c_62 (by decide)
              · have c_62 := nc_eq (a := 0) (b := 0) c_62 (by omega) (by omega)
                refine lv_lload_n hx hb dX6_share_65 rfl (lv_at hl 6 rfl) ?_
                refine lv_aload_n hx hb dX6_share_66 rfl (lv_at hl 3 rfl) ?_
                refine my_get X hK in_X6_share_X6 hP 0 rfl rfl 30 (by decide) (List.mem_of_getElem? (i := 2) rfl) rfl dX6_share_67 ?_
                refine lv_lneg hx hb dX6_share_70 ?_
                refine my_lif_ge (tgt := 83) hx hb dX6_share_71 dX6_share_72 (by decide) (fun c_71 => ?_) (fun c_71 => ?_)
                · refine lv_lload_n hx hb dX6_share_83 rfl (lv_at hl 6 rfl) ?_
                  refine lv_lstore (lv' := [(9, .long ex), (7, .long shs), (6, .int 0), (5, .int (nI 2)), (0, .ref md), (1, .int (nI fr)), (2, .int (nI n)), (3, .long ex)]) hx hb dX6_share_84 hl (by decide) rfl (fun ls hl => ?_)
                  refine lv_lconst (v := 0) hx hb dX6_share_86 (by decide) ?_
                  refine lv_lstore (lv' := [(11, .long 0), (9, .long ex), (7, .long shs), (6, .int 0), (5, .int (nI 2)), (0, .ref md), (1, .int (nI fr)), (2, .int (nI n)), (3, .long ex)]) hx hb dX6_share_87 hl (by decide) rfl (fun ls hl => ?_)
                  refine lv_iload_n hx hb dX6_share_89 rfl (lv_at hl 6 rfl) ?_
                  refine lv_istore (lv' := [(13, .int (nI fr)), (11, .long 0), (9, .long ex), (7, .long shs), (6, .int 0), (5, .int (nI 2)), (0, .ref md), (1, .int (nI fr)), (2, .int (nI n)), (3, .long ex)]) hx hb dX6_share_90 hl (by decide) rfl (fun ls hl => ?_)
                  rw [← shM_0 mo (gS kd shs) (amS kd sk shs) ex shs fr] at hP hD
                  have hl : lv_has ls 17 [(13, .int (nI (fr + 0))), (11, .long (mB (amS kd sk shs) fr 0)), (9, .long ex), (7, .long shs), (6, .int 0), (5, .int (nI 2)), (0, .ref md), (1, .int (nI fr)), (2, .int (nI n)), (3, .long ex)] := hl
                  exact lp_mshare0 md thr com the kep mad hei lmt twi tst tor tsh goa mos bes cos tot dep wid shs aK aW aH aD aS aO aZ aM aI aHt aDp aWd aSt kd sh od sk mo sts fr n ex hn X hK hA (n - 0 + 1) 2 shs ex 0 (by omega) (by rw [if_neg c_28]; simp only [c_71, if_true, if_false]) (by omega) (by omega) _ _ hP hD hS ls (lv_sub hl [6, 7, 8, 9, 5, 4, 3, 2, 1, 0] rfl)
                · refine lv_aload_n hx hb dX6_share_75 rfl (lv_at hl 3 rfl) ?_
                  refine my_get X hK in_X6_share_X6 hP 0 rfl rfl 30 (by decide) (List.mem_of_getElem? (i := 2) rfl) rfl dX6_share_76 ?_
                  refine lv_lneg hx hb dX6_share_79 ?_
                  refine lv_goto (tgt := 84) hx hb dX6_share_80 (by decide) ?_
                  refine lv_lstore (lv' := [(9, .long (-shs)), (7, .long shs), (6, .int 0), (5, .int (nI 2)), (0, .ref md), (1, .int (nI fr)), (2, .int (nI n)), (3, .long ex)]) hx hb dX6_share_84 hl (by decide) rfl (fun ls hl => ?_)
                  refine lv_lconst (v := 0) hx hb dX6_share_86 (by decide) ?_
                  refine lv_lstore (lv' := [(11, .long 0), (9, .long (-shs)), (7, .long shs), (6, .int 0), (5, .int (nI 2)), (0, .ref md), (1, .int (nI fr)), (2, .int (nI n)), (3, .long ex)]) hx hb dX6_share_87 hl (by decide) rfl (fun ls hl => ?_)
                  refine lv_iload_n hx hb dX6_share_89 rfl (lv_at hl 6 rfl) ?_
                  refine lv_istore (lv' := [(13, .int (nI fr)), (11, .long 0), (9, .long (-shs)), (7, .long shs), (6, .int 0), (5, .int (nI 2)), (0, .ref md), (1, .int (nI fr)), (2, .int (nI n)), (3, .long ex)]) hx hb dX6_share_90 hl (by decide) rfl (fun ls hl => ?_)
                  rw [← shM_0 mo (gS kd shs) (amS kd sk shs) (-shs) shs fr] at hP hD
                  have hl : lv_has ls 17 [(13, .int (nI (fr + 0))), (11, .long (mB (amS kd sk shs) fr 0)), (9, .long (-shs)), (7, .long shs), (6, .int 0), (5, .int (nI 2)), (0, .ref md), (1, .int (nI fr)), (2, .int (nI n)), (3, .long ex)] := hl
                  exact lp_mshare0 md thr com the kep mad hei lmt twi tst tor tsh goa mos bes cos tot dep wid shs aK aW aH aD aS aO aZ aM aI aHt aDp aWd aSt kd sh od sk mo sts fr n ex hn X hK hA (n - 0 + 1) 2 shs (-shs) 0 (by omega) (by rw [if_neg c_28]; simp only [c_71, if_true, if_false]) (by omega) (by omega) _ _ hP hD hS ls (lv_sub hl [6, 7, 8, 9, 5, 4, 3, 2, 1, 0] rfl)
            · exact absurd c_41 (by decide)
          · refine lv_iconst (v := 1) hx hb dX6_share_32 (by decide) ?_
            refine lv_goto (tgt := 37) hx hb dX6_share_33 (by decide) ?_
            refine lv_istore (lv' := [(6, .int 1), (5, .int (nI 2)), (0, .ref md), (1, .int (nI fr)), (2, .int (nI n)), (3, .long ex)]) hx hb dX6_share_37 hl (by decide) rfl (fun ls hl => ?_)
            refine lv_iload hx hb dX6_share_39 (lv_at hl 0 rfl) ?_
            refine lv_if_eq (tgt := 54) hx hb dX6_share_41 (by decide) (fun c_41 => ?_) (fun c_41 => ?_)
            · exact absurd c_41 (by decide)
            · have c_41 := nc_ne (a := 1) (b := 0) c_41 (by omega) (by omega)
              refine lv_aload_n hx hb dX6_share_44 rfl (lv_at hl 2 rfl) ?_
              refine my_get X hK in_X6_share_X6 hP 0 rfl rfl 31 (by decide) (List.mem_of_getElem? (i := 1) rfl) rfl dX6_share_45 ?_
              refine lv_iload hx hb dX6_share_48 (lv_at hl 1 rfl) ?_
              refine my_lald (k := 2) hx hb hK hP 6 rfl (rfl) (by omega) (by omega) dX6_share_50 ?_
              refine lv_goto (tgt := 58) hx hb dX6_share_51 (by decide) ?_
              refine lv_lstore (lv' := [(7, .long (sts 2)), (6, .int 1), (5, .int (nI 2)), (0, .ref md), (1, .int (nI fr)), (2, .int (nI n)), (3, .long ex)]) hx hb dX6_share_58 hl (by decide) rfl (fun ls hl => ?_)
              refine lv_iload hx hb dX6_share_60 (lv_at hl 1 rfl) ?_
              refine lv_if_ne (tgt := 83) hx hb dX6_share_62 (by decide) (fun c_62 => ?_) (fun c_62 => ?_)
              · have c_62 := nc_ne (a := 1) (b := 0) c_62 (by omega) (by omega)
                refine lv_lload_n hx hb dX6_share_83 rfl (lv_at hl 6 rfl) ?_
                refine lv_lstore (lv' := [(9, .long ex), (7, .long (sts 2)), (6, .int 1), (5, .int (nI 2)), (0, .ref md), (1, .int (nI fr)), (2, .int (nI n)), (3, .long ex)]) hx hb dX6_share_84 hl (by decide) rfl (fun ls hl => ?_)
                refine lv_lconst (v := 0) hx hb dX6_share_86 (by decide) ?_
                refine lv_lstore (lv' := [(11, .long 0), (9, .long ex), (7, .long (sts 2)), (6, .int 1), (5, .int (nI 2)), (0, .ref md), (1, .int (nI fr)), (2, .int (nI n)), (3, .long ex)]) hx hb dX6_share_87 hl (by decide) rfl (fun ls hl => ?_)
                refine lv_iload_n hx hb dX6_share_89 rfl (lv_at hl 6 rfl) ?_
                refine lv_istore (lv' := [(13, .int (nI fr)), (11, .long 0), (9, .long ex), (7, .long (sts 2)), (6, .int 1), (5, .int (nI 2)), (0, .ref md), (1, .int (nI fr)), (2, .int (nI n)), (3, .long ex)]) hx hb dX6_share_90 hl (by decide) rfl (fun ls hl => ?_)
                rw [← shM_0 mo (gG kd od (sts 2) 2) (amG kd od sh (sts 2) 2) ex (sts 2) fr] at hP hD
                have hl : lv_has ls 17 [(13, .int (nI (fr + 0))), (11, .long (mB (amG kd od sh (sts 2) 2) fr 0)), (9, .long ex), (7, .long (sts 2)), (6, .int 1), (5, .int (nI 2)), (0, .ref md), (1, .int (nI fr)), (2, .int (nI n)), (3, .long ex)] := hl
                exact lp_mshare1 md thr com the kep mad hei lmt twi tst tor tsh goa mos bes cos tot dep wid shs aK aW aH aD aS aO aZ aM aI aHt aDp aWd aSt kd sh od sk mo sts fr n ex hn X hK hA (n - 0 + 1) 2 (sts 2) ex 0 (by omega) ((fun em : mho sts = 2 => by rw [if_pos c_28, em]) (by simp [mho, c_16, c_16x])) (by omega) (by omega) _ _ hP hD hS ls (lv_sub hl [6, 7, 8, 9, 5, 4, 3, 2, 1, 0] rfl)
              · exact absurd c_62 (by decide)
        · refine lv_iinc (v := nI 1) (lv' := [(5, .int (nI 1)), (0, .ref md), (1, .int (nI fr)), (2, .int (nI n)), (3, .long ex)]) hx hb dX6_share_20 hl (k := 0) rfl (by decide) (by decide) rfl (fun ls hl => ?_)
          refine lv_goto (tgt := 3) hx hb dX6_share_23 (by decide) ?_
          refine lv_iload hx hb dX6_share_3 (lv_at hl 0 rfl) ?_
          refine lv_if_le (tgt := 26) hx hb dX6_share_5 (by decide) (fun c_5 => ?_) (fun c_5 => ?_)
          · exact absurd c_5 (by decide)
          · have c_5 := nc_nle (a := 1) (b := 0) c_5 (by omega) (by omega)
            refine lv_aload_n hx hb dX6_share_8 rfl (lv_at hl 1 rfl) ?_
            refine my_get X hK in_X6_share_X6 hP 0 rfl rfl 31 (by decide) (List.mem_of_getElem? (i := 1) rfl) rfl dX6_share_9 ?_
            refine lv_iload hx hb dX6_share_12 (lv_at hl 0 rfl) ?_
            refine my_lald (k := 1) hx hb hK hP 6 rfl (rfl) (by omega) (by omega) dX6_share_14 ?_
            refine lv_lconst (v := 0) hx hb dX6_share_15 (by decide) ?_
            refine my_lif_ne (tgt := 26) hx hb dX6_share_16 dX6_share_17 (by decide) (fun c_16xx => ?_) (fun c_16xx => ?_)
            · refine lv_lload_n hx hb dX6_share_26 rfl (lv_at hl 4 rfl) ?_
              refine lv_lconst (v := 0) hx hb dX6_share_27 (by decide) ?_
              refine my_lif_le (tgt := 36) hx hb dX6_share_28 dX6_share_29 (by decide) (fun c_28 => ?_) (fun c_28 => ?_)
              · refine lv_iconst (v := 0) hx hb dX6_share_36 (by decide) ?_
                refine lv_istore (lv' := [(6, .int 0), (5, .int (nI 1)), (0, .ref md), (1, .int (nI fr)), (2, .int (nI n)), (3, .long ex)]) hx hb dX6_share_37 hl (by decide) rfl (fun ls hl => ?_)
                refine lv_iload hx hb dX6_share_39 (lv_at hl 0 rfl) ?_
                refine lv_if_eq (tgt := 54) hx hb dX6_share_41 (by decide) (fun c_41 => ?_) (fun c_41 => ?_)
                · have c_41 := nc_eq (a := 0) (b := 0) c_41 (by omega) (by omega)
                  refine lv_aload_n hx hb dX6_share_54 rfl (lv_at hl 2 rfl) ?_
                  refine my_get X hK in_X6_share_X6 hP 0 rfl rfl 30 (by decide) (List.mem_of_getElem? (i := 2) rfl) rfl dX6_share_55 ?_
                  refine lv_lstore (lv' := [(7, .long shs), (6, .int 0), (5, .int (nI 1)), (0, .ref md), (1, .int (nI fr)), (2, .int (nI n)), (3, .long ex)]) hx hb dX6_share_58 hl (by decide) rfl (fun ls hl => ?_)
                  refine lv_iload hx hb dX6_share_60 (lv_at hl 1 rfl) ?_
                  refine lv_if_ne (tgt := 83) hx hb dX6_share_62 (by decide) (fun c_62 => ?_) (fun c_62 => ?_)
                  · exact absurd c_62 (by decide)
                  · have c_62 := nc_eq (a := 0) (b := 0) c_62 (by omega) (by omega)
                    refine lv_lload_n hx hb dX6_share_65 rfl (lv_at hl 6 rfl) ?_
                    refine lv_aload_n hx hb dX6_share_66 rfl (lv_at hl 3 rfl) ?_
                    refine my_get X hK in_X6_share_X6 hP 0 rfl rfl 30 (by decide) (List.mem_of_getElem? (i := 2) rfl) rfl dX6_share_67 ?_
                    refine lv_lneg hx hb dX6_share_70 ?_
                    refine my_lif_ge (tgt := 83) hx hb dX6_share_71 dX6_share_72 (by decide) (fun c_71 => ?_) (fun c_71 => ?_)
                    · refine lv_lload_n hx hb dX6_share_83 rfl (lv_at hl 6 rfl) ?_
                      refine lv_lstore (lv' := [(9, .long ex), (7, .long shs), (6, .int 0), (5, .int (nI 1)), (0, .ref md), (1, .int (nI fr)), (2, .int (nI n)), (3, .long ex)]) hx hb dX6_share_84 hl (by decide) rfl (fun ls hl => ?_)
                      refine lv_lconst (v := 0) hx hb dX6_share_86 (by decide) ?_
                      refine lv_lstore (lv' := [(11, .long 0), (9, .long ex), (7, .long shs), (6, .int 0), (5, .int (nI 1)), (0, .ref md), (1, .int (nI fr)), (2, .int (nI n)), (3, .long ex)]) hx hb dX6_share_87 hl (by decide) rfl (fun ls hl => ?_)
                      refine lv_iload_n hx hb dX6_share_89 rfl (lv_at hl 6 rfl) ?_
                      refine lv_istore (lv' := [(13, .int (nI fr)), (11, .long 0), (9, .long ex), (7, .long shs), (6, .int 0), (5, .int (nI 1)), (0, .ref md), (1, .int (nI fr)), (2, .int (nI n)), (3, .long ex)]) hx hb dX6_share_90 hl (by decide) rfl (fun ls hl => ?_)
                      rw [← shM_0 mo (gS kd shs) (amS kd sk shs) ex shs fr] at hP hD
                      have hl : lv_has ls 17 [(13, .int (nI (fr + 0))), (11, .long (mB (amS kd sk shs) fr 0)), (9, .long ex), (7, .long shs), (6, .int 0), (5, .int (nI 1)), (0, .ref md), (1, .int (nI fr)), (2, .int (nI n)), (3, .long ex)] := hl
                      exact lp_mshare0 md thr com the kep mad hei lmt twi tst tor tsh goa mos bes cos tot dep wid shs aK aW aH aD aS aO aZ aM aI aHt aDp aWd aSt kd sh od sk mo sts fr n ex hn X hK hA (n - 0 + 1) 1 shs ex 0 (by omega) (by rw [if_neg c_28]; simp only [c_71, if_true, if_false]) (by omega) (by omega) _ _ hP hD hS ls (lv_sub hl [6, 7, 8, 9, 5, 4, 3, 2, 1, 0] rfl)
                    · refine lv_aload_n hx hb dX6_share_75 rfl (lv_at hl 3 rfl) ?_
                      refine my_get X hK in_X6_share_X6 hP 0 rfl rfl 30 (by decide) (List.mem_of_getElem? (i := 2) rfl) rfl dX6_share_76 ?_
                      refine lv_lneg hx hb dX6_share_79 ?_
                      refine lv_goto (tgt := 84) hx hb dX6_share_80 (by decide) ?_
                      refine lv_lstore (lv' := [(9, .long (-shs)), (7, .long shs), (6, .int 0), (5, .int (nI 1)), (0, .ref md), (1, .int (nI fr)), (2, .int (nI n)), (3, .long ex)]) hx hb dX6_share_84 hl (by decide) rfl (fun ls hl => ?_)
                      refine lv_lconst (v := 0) hx hb dX6_share_86 (by decide) ?_
                      refine lv_lstore (lv' := [(11, .long 0), (9, .long (-shs)), (7, .long shs), (6, .int 0), (5, .int (nI 1)), (0, .ref md), (1, .int (nI fr)), (2, .int (nI n)), (3, .long ex)]) hx hb dX6_share_87 hl (by decide) rfl (fun ls hl => ?_)
                      refine lv_iload_n hx hb dX6_share_89 rfl (lv_at hl 6 rfl) ?_
                      refine lv_istore (lv' := [(13, .int (nI fr)), (11, .long 0), (9, .long (-shs)), (7, .long shs), (6, .int 0), (5, .int (nI 1)), (0, .ref md), (1, .int (nI fr)), (2, .int (nI n)), (3, .long ex)]) hx hb dX6_share_90 hl (by decide) rfl (fun ls hl => ?_)
                      rw [← shM_0 mo (gS kd shs) (amS kd sk shs) (-shs) shs fr] at hP hD
                      have hl : lv_has ls 17 [(13, .int (nI (fr + 0))), (11, .long (mB (amS kd sk shs) fr 0)), (9, .long (-shs)), (7, .long shs), (6, .int 0), (5, .int (nI 1)), (0, .ref md), (1, .int (nI fr)), (2, .int (nI n)), (3, .long ex)] := hl
                      exact lp_mshare0 md thr com the kep mad hei lmt twi tst tor tsh goa mos bes cos tot dep wid shs aK aW aH aD aS aO aZ aM aI aHt aDp aWd aSt kd sh od sk mo sts fr n ex hn X hK hA (n - 0 + 1) 1 shs (-shs) 0 (by omega) (by rw [if_neg c_28]; simp only [c_71, if_true, if_false]) (by omega) (by omega) _ _ hP hD hS ls (lv_sub hl [6, 7, 8, 9, 5, 4, 3, 2, 1, 0] rfl)
                · exact absurd c_41 (by decide)
              · refine lv_iconst (v := 1) hx hb dX6_share_32 (by decide) ?_
                refine lv_goto (tgt := 37) hx hb dX6_share_33 (by decide) ?_
                refine lv_istore (lv' := [(6, .int 1), (5, .int (nI 1)), (0, .ref md), (1, .int (nI fr)), (2, .int (nI n)), (3, .long ex)]) hx hb dX6_share_37 hl (by decide) rfl (fun ls hl => ?_)
                refine lv_iload hx hb dX6_share_39 (lv_at hl 0 rfl) ?_
                refine lv_if_eq (tgt := 54) hx hb dX6_share_41 (by decide) (fun c_41 => ?_) (fun c_41 => ?_)
                · exact absurd c_41 (by decide)
                · have c_41 := nc_ne (a := 1) (b := 0) c_41 (by omega) (by omega)
                  refine lv_aload_n hx hb dX6_share_44 rfl (lv_at hl 2 rfl) ?_
                  refine my_get X hK in_X6_share_X6 hP 0 rfl rfl 31 (by decide) (List.mem_of_getElem? (i := 1) rfl) rfl dX6_share_45 ?_
                  refine lv_iload hx hb dX6_share_48 (lv_at hl 1 rfl) ?_
                  refine my_lald (k := 1) hx hb hK hP 6 rfl (rfl) (by omega) (by omega) dX6_share_50 ?_
                  refine lv_goto (tgt := 58) hx hb dX6_share_51 (by decide) ?_
                  refine lv_lstore (lv' := [(7, .long (sts 1)), (6, .int 1), (5, .int (nI 1)), (0, .ref md), (1, .int (nI fr)), (2, .int (nI n)), (3, .long ex)]) hx hb dX6_share_58 hl (by decide) rfl (fun ls hl => ?_)
                  refine lv_iload hx hb dX6_share_60 (lv_at hl 1 rfl) ?_
                  refine lv_if_ne (tgt := 83) hx hb dX6_share_62 (by decide) (fun c_62 => ?_) (fun c_62 => ?_)
                  · have c_62 := nc_ne (a := 1) (b := 0) c_62 (by omega) (by omega)
                    refine lv_lload_n hx hb dX6_share_83 rfl (lv_at hl 6 rfl) ?_
                    refine lv_lstore (lv' := [(9, .long ex), (7, .long (sts 1)), (6, .int 1), (5, .int (nI 1)), (0, .ref md), (1, .int (nI fr)), (2, .int (nI n)), (3, .long ex)]) hx hb dX6_share_84 hl (by decide) rfl (fun ls hl => ?_)
                    refine lv_lconst (v := 0) hx hb dX6_share_86 (by decide) ?_
                    refine lv_lstore (lv' := [(11, .long 0), (9, .long ex), (7, .long (sts 1)), (6, .int 1), (5, .int (nI 1)), (0, .ref md), (1, .int (nI fr)), (2, .int (nI n)), (3, .long ex)]) hx hb dX6_share_87 hl (by decide) rfl (fun ls hl => ?_)
                    refine lv_iload_n hx hb dX6_share_89 rfl (lv_at hl 6 rfl) ?_
                    refine lv_istore (lv' := [(13, .int (nI fr)), (11, .long 0), (9, .long ex), (7, .long (sts 1)), (6, .int 1), (5, .int (nI 1)), (0, .ref md), (1, .int (nI fr)), (2, .int (nI n)), (3, .long ex)]) hx hb dX6_share_90 hl (by decide) rfl (fun ls hl => ?_)
                    rw [← shM_0 mo (gG kd od (sts 1) 1) (amG kd od sh (sts 1) 1) ex (sts 1) fr] at hP hD
                    have hl : lv_has ls 17 [(13, .int (nI (fr + 0))), (11, .long (mB (amG kd od sh (sts 1) 1) fr 0)), (9, .long ex), (7, .long (sts 1)), (6, .int 1), (5, .int (nI 1)), (0, .ref md), (1, .int (nI fr)), (2, .int (nI n)), (3, .long ex)] := hl
                    exact lp_mshare1 md thr com the kep mad hei lmt twi tst tor tsh goa mos bes cos tot dep wid shs aK aW aH aD aS aO aZ aM aI aHt aDp aWd aSt kd sh od sk mo sts fr n ex hn X hK hA (n - 0 + 1) 1 (sts 1) ex 0 (by omega) ((fun em : mho sts = 1 => by rw [if_pos c_28, em]) (by simp [mho, c_16, c_16x, c_16xx])) (by omega) (by omega) _ _ hP hD hS ls (lv_sub hl [6, 7, 8, 9, 5, 4, 3, 2, 1, 0] rfl)
                  · exact absurd c_62 (by decide)
            · refine lv_iinc (v := nI 0) (lv' := [(5, .int (nI 0)), (0, .ref md), (1, .int (nI fr)), (2, .int (nI n)), (3, .long ex)]) hx hb dX6_share_20 hl (k := 0) rfl (by decide) (by decide) rfl (fun ls hl => ?_)
              refine lv_goto (tgt := 3) hx hb dX6_share_23 (by decide) ?_
              refine lv_iload hx hb dX6_share_3 (lv_at hl 0 rfl) ?_
              refine lv_if_le (tgt := 26) hx hb dX6_share_5 (by decide) (fun c_5 => ?_) (fun c_5 => ?_)
              · have c_5 := nc_le (a := 0) (b := 0) c_5 (by omega) (by omega)
                refine lv_lload_n hx hb dX6_share_26 rfl (lv_at hl 4 rfl) ?_
                refine lv_lconst (v := 0) hx hb dX6_share_27 (by decide) ?_
                refine my_lif_le (tgt := 36) hx hb dX6_share_28 dX6_share_29 (by decide) (fun c_28 => ?_) (fun c_28 => ?_)
                · refine lv_iconst (v := 0) hx hb dX6_share_36 (by decide) ?_
                  refine lv_istore (lv' := [(6, .int 0), (5, .int (nI 0)), (0, .ref md), (1, .int (nI fr)), (2, .int (nI n)), (3, .long ex)]) hx hb dX6_share_37 hl (by decide) rfl (fun ls hl => ?_)
                  refine lv_iload hx hb dX6_share_39 (lv_at hl 0 rfl) ?_
                  refine lv_if_eq (tgt := 54) hx hb dX6_share_41 (by decide) (fun c_41 => ?_) (fun c_41 => ?_)
                  · have c_41 := nc_eq (a := 0) (b := 0) c_41 (by omega) (by omega)
                    refine lv_aload_n hx hb dX6_share_54 rfl (lv_at hl 2 rfl) ?_
                    refine my_get X hK in_X6_share_X6 hP 0 rfl rfl 30 (by decide) (List.mem_of_getElem? (i := 2) rfl) rfl dX6_share_55 ?_
                    refine lv_lstore (lv' := [(7, .long shs), (6, .int 0), (5, .int (nI 0)), (0, .ref md), (1, .int (nI fr)), (2, .int (nI n)), (3, .long ex)]) hx hb dX6_share_58 hl (by decide) rfl (fun ls hl => ?_)
                    refine lv_iload hx hb dX6_share_60 (lv_at hl 1 rfl) ?_
                    refine lv_if_ne (tgt := 83) hx hb dX6_share_62 (by decide) (fun c_62 => ?_) (fun c_62 => ?_)
                    · exact absurd c_62 (by decide)
                    · have c_62 := nc_eq (a := 0) (b := 0) c_62 (by omega) (by omega)
                      refine lv_lload_n hx hb dX6_share_65 rfl (lv_at hl 6 rfl) ?_
                      refine lv_aload_n hx hb dX6_share_66 rfl (lv_at hl 3 rfl) ?_
                      refine my_get X hK in_X6_share_X6 hP 0 rfl rfl 30 (by decide) (List.mem_of_getElem? (i := 2) rfl) rfl dX6_share_67 ?_
                      refine lv_lneg hx hb dX6_share_70 ?_
                      refine my_lif_ge (tgt := 83) hx hb dX6_share_71 dX6_share_72 (by decide) (fun c_71 => ?_) (fun c_71 => ?_)
                      · refine lv_lload_n hx hb dX6_share_83 rfl (lv_at hl 6 rfl) ?_
                        refine lv_lstore (lv' := [(9, .long ex), (7, .long shs), (6, .int 0), (5, .int (nI 0)), (0, .ref md), (1, .int (nI fr)), (2, .int (nI n)), (3, .long ex)]) hx hb dX6_share_84 hl (by decide) rfl (fun ls hl => ?_)
                        refine lv_lconst (v := 0) hx hb dX6_share_86 (by decide) ?_
                        refine lv_lstore (lv' := [(11, .long 0), (9, .long ex), (7, .long shs), (6, .int 0), (5, .int (nI 0)), (0, .ref md), (1, .int (nI fr)), (2, .int (nI n)), (3, .long ex)]) hx hb dX6_share_87 hl (by decide) rfl (fun ls hl => ?_)
                        refine lv_iload_n hx hb dX6_share_89 rfl (lv_at hl 6 rfl) ?_
                        refine lv_istore (lv' := [(13, .int (nI fr)), (11, .long 0), (9, .long ex), (7, .long shs), (6, .int 0), (5, .int (nI 0)), (0, .ref md), (1, .int (nI fr)), (2, .int (nI n)), (3, .long ex)]) hx hb dX6_share_90 hl (by decide) rfl (fun ls hl => ?_)
                        rw [← shM_0 mo (gS kd shs) (amS kd sk shs) ex shs fr] at hP hD
                        have hl : lv_has ls 17 [(13, .int (nI (fr + 0))), (11, .long (mB (amS kd sk shs) fr 0)), (9, .long ex), (7, .long shs), (6, .int 0), (5, .int (nI 0)), (0, .ref md), (1, .int (nI fr)), (2, .int (nI n)), (3, .long ex)] := hl
                        exact lp_mshare0 md thr com the kep mad hei lmt twi tst tor tsh goa mos bes cos tot dep wid shs aK aW aH aD aS aO aZ aM aI aHt aDp aWd aSt kd sh od sk mo sts fr n ex hn X hK hA (n - 0 + 1) 0 shs ex 0 (by omega) (by rw [if_neg c_28]; simp only [c_71, if_true, if_false]) (by omega) (by omega) _ _ hP hD hS ls (lv_sub hl [6, 7, 8, 9, 5, 4, 3, 2, 1, 0] rfl)
                      · refine lv_aload_n hx hb dX6_share_75 rfl (lv_at hl 3 rfl) ?_
                        refine my_get X hK in_X6_share_X6 hP 0 rfl rfl 30 (by decide) (List.mem_of_getElem? (i := 2) rfl) rfl dX6_share_76 ?_
                        refine lv_lneg hx hb dX6_share_79 ?_
                        refine lv_goto (tgt := 84) hx hb dX6_share_80 (by decide) ?_
                        refine lv_lstore (lv' := [(9, .long (-shs)), (7, .long shs), (6, .int 0), (5, .int (nI 0)), (0, .ref md), (1, .int (nI fr)), (2, .int (nI n)), (3, .long ex)]) hx hb dX6_share_84 hl (by decide) rfl (fun ls hl => ?_)
                        refine lv_lconst (v := 0) hx hb dX6_share_86 (by decide) ?_
                        refine lv_lstore (lv' := [(11, .long 0), (9, .long (-shs)), (7, .long shs), (6, .int 0), (5, .int (nI 0)), (0, .ref md), (1, .int (nI fr)), (2, .int (nI n)), (3, .long ex)]) hx hb dX6_share_87 hl (by decide) rfl (fun ls hl => ?_)
                        refine lv_iload_n hx hb dX6_share_89 rfl (lv_at hl 6 rfl) ?_
                        refine lv_istore (lv' := [(13, .int (nI fr)), (11, .long 0), (9, .long (-shs)), (7, .long shs), (6, .int 0), (5, .int (nI 0)), (0, .ref md), (1, .int (nI fr)), (2, .int (nI n)), (3, .long ex)]) hx hb dX6_share_90 hl (by decide) rfl (fun ls hl => ?_)
                        rw [← shM_0 mo (gS kd shs) (amS kd sk shs) (-shs) shs fr] at hP hD
                        have hl : lv_has ls 17 [(13, .int (nI (fr + 0))), (11, .long (mB (amS kd sk shs) fr 0)), (9, .long (-shs)), (7, .long shs), (6, .int 0), (5, .int (nI 0)), (0, .ref md), (1, .int (nI fr)), (2, .int (nI n)), (3, .long ex)] := hl
                        exact lp_mshare0 md thr com the kep mad hei lmt twi tst tor tsh goa mos bes cos tot dep wid shs aK aW aH aD aS aO aZ aM aI aHt aDp aWd aSt kd sh od sk mo sts fr n ex hn X hK hA (n - 0 + 1) 0 shs (-shs) 0 (by omega) (by rw [if_neg c_28]; simp only [c_71, if_true, if_false]) (by omega) (by omega) _ _ hP hD hS ls (lv_sub hl [6, 7, 8, 9, 5, 4, 3, 2, 1, 0] rfl)
                  · exact absurd c_41 (by decide)
                · refine lv_iconst (v := 1) hx hb dX6_share_32 (by decide) ?_
                  refine lv_goto (tgt := 37) hx hb dX6_share_33 (by decide) ?_
                  refine lv_istore (lv' := [(6, .int 1), (5, .int (nI 0)), (0, .ref md), (1, .int (nI fr)), (2, .int (nI n)), (3, .long ex)]) hx hb dX6_share_37 hl (by decide) rfl (fun ls hl => ?_)
                  refine lv_iload hx hb dX6_share_39 (lv_at hl 0 rfl) ?_
                  refine lv_if_eq (tgt := 54) hx hb dX6_share_41 (by decide) (fun c_41 => ?_) (fun c_41 => ?_)
                  · exact absurd c_41 (by decide)
                  · have c_41 := nc_ne (a := 1) (b := 0) c_41 (by omega) (by omega)
                    refine lv_aload_n hx hb dX6_share_44 rfl (lv_at hl 2 rfl) ?_
                    refine my_get X hK in_X6_share_X6 hP 0 rfl rfl 31 (by decide) (List.mem_of_getElem? (i := 1) rfl) rfl dX6_share_45 ?_
                    refine lv_iload hx hb dX6_share_48 (lv_at hl 1 rfl) ?_
                    refine my_lald (k := 0) hx hb hK hP 6 rfl (rfl) (by omega) (by omega) dX6_share_50 ?_
                    refine lv_goto (tgt := 58) hx hb dX6_share_51 (by decide) ?_
                    refine lv_lstore (lv' := [(7, .long (sts 0)), (6, .int 1), (5, .int (nI 0)), (0, .ref md), (1, .int (nI fr)), (2, .int (nI n)), (3, .long ex)]) hx hb dX6_share_58 hl (by decide) rfl (fun ls hl => ?_)
                    refine lv_iload hx hb dX6_share_60 (lv_at hl 1 rfl) ?_
                    refine lv_if_ne (tgt := 83) hx hb dX6_share_62 (by decide) (fun c_62 => ?_) (fun c_62 => ?_)
                    · have c_62 := nc_ne (a := 1) (b := 0) c_62 (by omega) (by omega)
                      refine lv_lload_n hx hb dX6_share_83 rfl (lv_at hl 6 rfl) ?_
                      refine lv_lstore (lv' := [(9, .long ex), (7, .long (sts 0)), (6, .int 1), (5, .int (nI 0)), (0, .ref md), (1, .int (nI fr)), (2, .int (nI n)), (3, .long ex)]) hx hb dX6_share_84 hl (by decide) rfl (fun ls hl => ?_)
                      refine lv_lconst (v := 0) hx hb dX6_share_86 (by decide) ?_
                      refine lv_lstore (lv' := [(11, .long 0), (9, .long ex), (7, .long (sts 0)), (6, .int 1), (5, .int (nI 0)), (0, .ref md), (1, .int (nI fr)), (2, .int (nI n)), (3, .long ex)]) hx hb dX6_share_87 hl (by decide) rfl (fun ls hl => ?_)
                      refine lv_iload_n hx hb dX6_share_89 rfl (lv_at hl 6 rfl) ?_
                      refine lv_istore (lv' := [(13, .int (nI fr)), (11, .long 0), (9, .long ex), (7, .long (sts 0)), (6, .int 1), (5, .int (nI 0)), (0, .ref md), (1, .int (nI fr)), (2, .int (nI n)), (3, .long ex)]) hx hb dX6_share_90 hl (by decide) rfl (fun ls hl => ?_)
                      rw [← shM_0 mo (gG kd od (sts 0) 0) (amG kd od sh (sts 0) 0) ex (sts 0) fr] at hP hD
                      have hl : lv_has ls 17 [(13, .int (nI (fr + 0))), (11, .long (mB (amG kd od sh (sts 0) 0) fr 0)), (9, .long ex), (7, .long (sts 0)), (6, .int 1), (5, .int (nI 0)), (0, .ref md), (1, .int (nI fr)), (2, .int (nI n)), (3, .long ex)] := hl
                      exact lp_mshare1 md thr com the kep mad hei lmt twi tst tor tsh goa mos bes cos tot dep wid shs aK aW aH aD aS aO aZ aM aI aHt aDp aWd aSt kd sh od sk mo sts fr n ex hn X hK hA (n - 0 + 1) 0 (sts 0) ex 0 (by omega) ((fun em : mho sts = 0 => by rw [if_pos c_28, em]) (by simp [mho, c_16, c_16x, c_16xx])) (by omega) (by omega) _ _ hP hD hS ls (lv_sub hl [6, 7, 8, 9, 5, 4, 3, 2, 1, 0] rfl)
                    · exact absurd c_62 (by decide)
              · exact absurd c_5 (by decide)
