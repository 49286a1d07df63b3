theorem ix_5 {L ix : Nat} (hL : L ≤ 2560) (hx : ix ≤ 2560) (h : ¬ nI L - 5 < nI ix) : ix + 5 ≤ L := by
  rw [Int32.lt_iff_toInt_lt, Int32.toInt_sub] at h
  have e1 : (nI L).toInt = L := nI_toInt (by omega)
  have e2 : (nI ix).toInt = ix := nI_toInt (by omega)
  have e5 : (5 : Int32).toInt = 5 := rfl
  rw [e1, e2, e5] at h
  simp only [Int.bmod] at h
  split at h <;> omega
theorem ix_6 {L ix : Nat} (hL : L ≤ 2560) (hx : ix ≤ 2560) (h : nI L - 5 < nI ix) : L < ix + 5 := by
  rw [Int32.lt_iff_toInt_lt, Int32.toInt_sub] at h
  have e1 : (nI L).toInt = L := nI_toInt (by omega)
  have e2 : (nI ix).toInt = ix := nI_toInt (by omega)
  have e5 : (5 : Int32).toInt = 5 := rfl
  rw [e1, e2, e5] at h
  simp only [Int.bmod] at h
  split at h <;> omega
set_option maxHeartbeats 1000000 in
set_option maxRecDepth 100000 in
theorem law_loop {p : Program} {l : Launch} {e : Env} {s : State} {m : MethodId} {below : List Frame} {meth : Method} {c : Code} {dC : Nat → ClassId} {dI : Nat → Nat → Nat} {cI cJ cO : ClassId} {A : Nat → Prop} {b L : Nat} {xs : Nat → Int32} (X : Cx p s m #[Value.ref b] meth c cL_law ret 7 RL meth.name wsL_law) (hK : Kn dC dI cI cJ cO s) (hA : ∀ q : Nat, s.heap.size ≤ q → A q) (hX : va_X b L xs s s.heap) (hbl : b < s.heap.size) (hbA : ¬ A b) (hst : l.stackTraces = false) (str sp sw si : Nat) (hXU : XW RX5 "java/lang/UnsupportedOperationException" [(103, "a page can't be made", str)] A s) (hXI : XW RX5 "java/lang/IndexOutOfBoundsException" [(117, "no such page", sp), (134, "no such what", sw), (136, "no such item", si)] A s) (hL : L ≤ 2560) (hfg : ∀ q : Nat, A q → s.heap.size ≤ q) (dk : Nat) (o : Nat) (pg : Nat) (su : Nat) (sa : Nat) (sf : Nat) (pa : Nat) (su2 : Nat) (sa2 : Nat) (md : Nat) (aK : Nat) (aW : Nat) (aH : Nat) (aD : Nat) (aS : Nat) (aO : Nat) (aZ : Nat) (aM : Nat) (aI : Nat) (aHt : Nat) (aDp : Nat) (aWd : Nat) (aSt : Nat) (out : Nat) : ∀ (n : Nat) (x : ASt) (th : Int32) (td : Int32) (tw : Int32) (ts : Int32) (to : Int32) (tz : Int32) (ar : Nat) (cap : Nat) (f : Nat → Int32) (sz : Nat) (nx : Nat) (fi : Nat) (bg : Int32) (go : Int32) (be : Int32) (lc : Int64) (g : Nat → Int64) (z : Int64) (al : Int64) (dp : Int64) (wd : Int64) (lim : Int32) (kp : Nat) (la : Nat) (em : Int32) (pf : Nat → Option Nat) (g2 : Nat → Int64) (z2 : Int64) (al2 : Int64) (dp2 : Int64) (wd2 : Int64) (lim2 : Int32) (T : Nat → PRec) (ss : List Nat) (thr : Int32) (com : Nat) (the : Nat) (kep : Nat) (mad : Int32) (goa : Int32) (mos : Int32) (bes : Int32) (cos : Int32) (tot : Int64) (dep : Int64) (wid : Int64) (shs : Int64) (kd : Nat → Int32) (wi : Nat → Int32) (hi : Nat → Int32) (de : Nat → Int32) (sh : Nat → Int32) (od : Nat → Int32) (sk : Nat → Int32) (mo : Nat → Int64) (itn : Nat → Nat) (hts_ : Nat → Int32) (dps : Nat → Int32) (wds : Nat → Int32) (sts : Nat → Int64) (ov : Nat → Int64) (kk9 ix : Nat), lwI kk9 x th td tw ts to tz f cap sz nx fi bg go be lc lim al dp wd z g kp la em pf T ss kd wi hi de sh od sk mo itn hts_ dps wds com the kep mad goa mos bes cos → ix = 5 * kk9 → ix ≤ L → L < ix + n → ∀ (H : Heap) (locs : List Loc), va_P (dC, dI) vwCl (([(dk, .inr (5, [.int th, .int td, .int tw, .int ts, .int to, .int tz, .ref o, .ref pg, .ref sf, .ref su2, .int (nI nx)])), (o, .inr (0, [.ref ar, .int (nI sz)])), (ar, .inl (cI, (cap * 8), .inl f)), (pg, .inr (2, [.ref su, .int bg, .int (nI fi), .int go, .int be, .long lc])), (su, .inr (4, [.ref sa, .long z, .long al, .long dp, .long wd, .int lim])), (sa, .inl (cJ, 4, .inr (.inl g))), (sf, .inr (3, [.ref pa, .int (nI kp), .int (nI la), .int em])), (pa, .inl (cO, 8, .inr (.inr (.inr (.inr pf))))), (su2, .inr (4, [.ref sa2, .long z2, .long al2, .long dp2, .long wd2, .int lim2])), (sa2, .inl (cJ, 4, .inr (.inl g2))), (md, .inr (6, [.int thr, .ref aK, .ref aW, .ref aH, .ref aD, .ref aS, .ref aO, .ref aZ, .ref aM, .int (nI com), .int (nI the), .int (nI kep), .ref aI, .ref aHt, .ref aDp, .ref aWd, .int mad, .int th, .int td, .int tw, .int ts, .int to, .int tz, .int goa, .int mos, .int bes, .int cos, .long tot, .long dep, .long wid, .long shs, .ref aSt])), (aK, .inl (cI, 12700, .inl kd)), (aW, .inl (cI, 12700, .inl wi)), (aH, .inl (cI, 12700, .inl hi)), (aD, .inl (cI, 12700, .inl de)), (aS, .inl (cI, 12700, .inl sh)), (aO, .inl (cI, 12700, .inl od)), (aZ, .inl (cI, 12700, .inl sk)), (aM, .inl (cJ, 12700, .inr (.inl mo))), (aI, .inl (cI, 9, .inl (fun k => nI (itn k)))), (aHt, .inl (cI, 9, .inl hts_)), (aDp, .inl (cI, 9, .inl dps)), (aWd, .inl (cI, 9, .inl wds)), (aSt, .inl (cJ, 4, .inr (.inl sts))), (out, .inl (cJ, 1, .inr (.inl ov)))] : va_W) ++ pws cI T ss) H → va_D A (([(dk, .inr (5, [.int th, .int td, .int tw, .int ts, .int to, .int tz, .ref o, .ref pg, .ref sf, .ref su2, .int (nI nx)])), (o, .inr (0, [.ref ar, .int (nI sz)])), (ar, .inl (cI, (cap * 8), .inl f)), (pg, .inr (2, [.ref su, .int bg, .int (nI fi), .int go, .int be, .long lc])), (su, .inr (4, [.ref sa, .long z, .long al, .long dp, .long wd, .int lim])), (sa, .inl (cJ, 4, .inr (.inl g))), (sf, .inr (3, [.ref pa, .int (nI kp), .int (nI la), .int em])), (pa, .inl (cO, 8, .inr (.inr (.inr (.inr pf))))), (su2, .inr (4, [.ref sa2, .long z2, .long al2, .long dp2, .long wd2, .int lim2])), (sa2, .inl (cJ, 4, .inr (.inl g2))), (md, .inr (6, [.int thr, .ref aK, .ref aW, .ref aH, .ref aD, .ref aS, .ref aO, .ref aZ, .ref aM, .int (nI com), .int (nI the), .int (nI kep), .ref aI, .ref aHt, .ref aDp, .ref aWd, .int mad, .int th, .int td, .int tw, .int ts, .int to, .int tz, .int goa, .int mos, .int bes, .int cos, .long tot, .long dep, .long wid, .long shs, .ref aSt])), (aK, .inl (cI, 12700, .inl kd)), (aW, .inl (cI, 12700, .inl wi)), (aH, .inl (cI, 12700, .inl hi)), (aD, .inl (cI, 12700, .inl de)), (aS, .inl (cI, 12700, .inl sh)), (aO, .inl (cI, 12700, .inl od)), (aZ, .inl (cI, 12700, .inl sk)), (aM, .inl (cJ, 12700, .inr (.inl mo))), (aI, .inl (cI, 9, .inl (fun k => nI (itn k)))), (aHt, .inl (cI, 9, .inl hts_)), (aDp, .inl (cI, 9, .inl dps)), (aWd, .inl (cI, 9, .inl wds)), (aSt, .inl (cJ, 4, .inr (.inl sts))), (out, .inl (cJ, 1, .inr (.inl ov)))] : va_W) ++ pws cI T ss) → va_S A s.heap H locs → ∀ (ls : Array Slot), lv_has ls 7 [(0, .ref b), (1, .ref dk), (2, .ref md), (3, .ref out), (4, .int (nI ix))] → W p l e room_1 s m #[Value.ref b] below meth c H locs (25 + 600 * kk9) (102236 + 10000 * kk9) (lw_Z below #[Value.ref b] s) (F0 m 23 ls []) := by
  obtain ⟨hx, hb, hr, hml, hown, hts, hlocks, hnm⟩ := id X
  intro n
  induction n with
  | zero =>
    intro x th td tw ts to tz ar cap f sz nx fi bg go be lc g z al dp wd lim kp la em pf g2 z2 al2 dp2 wd2 lim2 T ss thr com the kep mad goa mos bes cos tot dep wid shs kd wi hi de sh od sk mo itn hts_ dps wds sts ov kk9 ix hI h5 hxL hn
    exact absurd hn (by omega)
  | succ n ih =>
    intro x th td tw ts to tz ar cap f sz nx fi bg go be lc g z al dp wd lim kp la em pf g2 z2 al2 dp2 wd2 lim2 T ss thr com the kep mad goa mos bes cos tot dep wid shs kd wi hi de sh od sk mo itn hts_ dps wds sts ov kk9 ix hI h5 hxL hn H locs hP hD hS ls hl
    refine lv_iload hx hb dL_law_23 (lv_at hl 4 rfl) ?_
    refine lv_aload_n hx hb dL_law_25 rfl (lv_at hl 0 rfl) ?_
    refine va_slen hx hb hX hbl hbA hS dL_law_26 ?_
    refine lv_iconst (v := 5) hx hb dL_law_27 (by decide) ?_
    refine lv_isub hx hb dL_law_28 ?_
    refine lv_icmp_gt (tgt := 668) hx hb dL_law_29 (by decide) (fun c_29 => ?_) (fun c_29 => ?_)
    · refine lv_iconst (v := 1) hx hb dL_law_668 (by decide) ?_
      refine va_forget (fun q hq => hfg _ (hS.2.2 q hq)) ?_
      refine W.widen (k := 601024) (n := 7293034) (by omega) (by omega) ?_
      exact lw_ret hx hb hr hlocks dL_law_669
    · have hix := ix_5 hL (by omega) c_29
      have hk : kk9 < 512 := by omega
      have KK : lwK p l e s m below meth c dC dI cI cJ cO A b dk o pg su sa sf pa su2 sa2 md aK aW aH aD aS aO aZ aM aI aHt aDp aWd aSt out (kk9 + 1) (ix + 5) := by
        intro x9 th9 td9 tw9 ts9 to9 tz9 ar9 cap9 f9 sz9 nx9 fi9 bg9 go9 be9 lc9 g9 z9 al9 dp9 wd9 lim9 kp9 la9 em9 pf9 g29 z29 al29 dp29 wd29 lim29 T9 ss9 thr9 com9 the9 kep9 mad9 goa9 mos9 bes9 cos9 tot9 dep9 wid9 shs9 kd9 wi9 hi9 de9 sh9 od9 sk9 mo9 itn9 hts_9 dps9 wds9 sts9 ov9 hI9 H9 locs9 hP9 hD9 hS9 ls9 hl9
        exact ih x9 th9 td9 tw9 ts9 to9 tz9 ar9 cap9 f9 sz9 nx9 fi9 bg9 go9 be9 lc9 g9 z9 al9 dp9 wd9 lim9 kp9 la9 em9 pf9 g29 z29 al29 dp29 wd29 lim29 T9 ss9 thr9 com9 the9 kep9 mad9 goa9 mos9 bes9 cos9 tot9 dep9 wid9 shs9 kd9 wi9 hi9 de9 sh9 od9 sk9 mo9 itn9 hts_9 dps9 wds9 sts9 ov9 (kk9 + 1) (ix + 5) hI9 (by omega) (by omega) (by omega) H9 locs9 hP9 hD9 hS9 ls9 hl9
      refine lv_aload_n hx hb dL_law_32 rfl (lv_at hl 0 rfl) ?_
      refine lv_iload hx hb dL_law_33 (lv_at hl 4 rfl) ?_
      refine my_sld (k := ix) hx hb hX hbl hbA hS (by omega) hL dL_law_35 ?_
      refine lv_bipush (v := 15) hx hb dL_law_36 (by decide) ?_
      refine lv_iand hx hb dL_law_38 ?_
      by_cases k39_0 : (xs ix) &&& 15 = 0
      · refine lv_tableIn (off := 61) (tgt := 100) hx hb dL_law_39 (by rw [k39_0]; decide) (by rw [k39_0]; decide) (by rw [k39_0]; rfl) (by decide) ?_
        exact law_page X hK hA hX hbl hbA hst str sp sw si hXU hXI hL dk o pg su sa sf pa su2 sa2 md aK aW aH aD aS aO aZ aM aI aHt aDp aWd aSt out x th td tw ts to tz ar cap f sz nx fi bg go be lc g z al dp wd lim kp la em pf g2 z2 al2 dp2 wd2 lim2 T ss thr com the kep mad goa mos bes cos tot dep wid shs kd wi hi de sh od sk mo itn hts_ dps wds sts ov kk9 ix hI hk hix KK H locs hP hD hS ls hl
      by_cases k39_1 : (xs ix) &&& 15 = 1
      · refine lv_tableIn (off := 98) (tgt := 137) hx hb dL_law_39 (by rw [k39_1]; decide) (by rw [k39_1]; decide) (by rw [k39_1]; rfl) (by decide) ?_
        exact law_top X hK hA hX hbl hbA hst str sp sw si hXU hXI hL dk o pg su sa sf pa su2 sa2 md aK aW aH aD aS aO aZ aM aI aHt aDp aWd aSt out x th td tw ts to tz ar cap f sz nx fi bg go be lc g z al dp wd lim kp la em pf g2 z2 al2 dp2 wd2 lim2 T ss thr com the kep mad goa mos bes cos tot dep wid shs kd wi hi de sh od sk mo itn hts_ dps wds sts ov kk9 ix hI hk hix KK H locs hP hD hS ls hl
      by_cases k39_2 : (xs ix) &&& 15 = 2
      · refine lv_tableIn (off := 159) (tgt := 198) hx hb dL_law_39 (by rw [k39_2]; decide) (by rw [k39_2]; decide) (by rw [k39_2]; rfl) (by decide) ?_
        exact law_box X hK hA hX hbl hbA hst str sp sw si hXU hXI hL dk o pg su sa sf pa su2 sa2 md aK aW aH aD aS aO aZ aM aI aHt aDp aWd aSt out x th td tw ts to tz ar cap f sz nx fi bg go be lc g z al dp wd lim kp la em pf g2 z2 al2 dp2 wd2 lim2 T ss thr com the kep mad goa mos bes cos tot dep wid shs kd wi hi de sh od sk mo itn hts_ dps wds sts ov kk9 ix hI hk hix KK H locs hP hD hS ls hl
      by_cases k39_3 : (xs ix) &&& 15 = 3
      · refine lv_tableIn (off := 220) (tgt := 259) hx hb dL_law_39 (by rw [k39_3]; decide) (by rw [k39_3]; decide) (by rw [k39_3]; rfl) (by decide) ?_
        exact law_rule X hK hA hX hbl hbA hst str sp sw si hXU hXI hL dk o pg su sa sf pa su2 sa2 md aK aW aH aD aS aO aZ aM aI aHt aDp aWd aSt out x th td tw ts to tz ar cap f sz nx fi bg go be lc g z al dp wd lim kp la em pf g2 z2 al2 dp2 wd2 lim2 T ss thr com the kep mad goa mos bes cos tot dep wid shs kd wi hi de sh od sk mo itn hts_ dps wds sts ov kk9 ix hI hk hix KK H locs hP hD hS ls hl
      by_cases k39_4 : (xs ix) &&& 15 = 4
      · refine lv_tableIn (off := 269) (tgt := 308) hx hb dL_law_39 (by rw [k39_4]; decide) (by rw [k39_4]; decide) (by rw [k39_4]; rfl) (by decide) ?_
        exact law_glue X hK hA hX hbl hbA hst str sp sw si hXU hXI hL dk o pg su sa sf pa su2 sa2 md aK aW aH aD aS aO aZ aM aI aHt aDp aWd aSt out x th td tw ts to tz ar cap f sz nx fi bg go be lc g z al dp wd lim kp la em pf g2 z2 al2 dp2 wd2 lim2 T ss thr com the kep mad goa mos bes cos tot dep wid shs kd wi hi de sh od sk mo itn hts_ dps wds sts ov kk9 ix hI hk hix KK H locs hP hD hS ls hl
      by_cases k39_5 : (xs ix) &&& 15 = 5
      · refine lv_tableIn (off := 330) (tgt := 369) hx hb dL_law_39 (by rw [k39_5]; decide) (by rw [k39_5]; decide) (by rw [k39_5]; rfl) (by decide) ?_
        exact law_kern X hK hA hX hbl hbA hst str sp sw si hXU hXI hL dk o pg su sa sf pa su2 sa2 md aK aW aH aD aS aO aZ aM aI aHt aDp aWd aSt out x th td tw ts to tz ar cap f sz nx fi bg go be lc g z al dp wd lim kp la em pf g2 z2 al2 dp2 wd2 lim2 T ss thr com the kep mad goa mos bes cos tot dep wid shs kd wi hi de sh od sk mo itn hts_ dps wds sts ov kk9 ix hI hk hix KK H locs hP hD hS ls hl
      by_cases k39_6 : (xs ix) &&& 15 = 6
      · refine lv_tableIn (off := 355) (tgt := 394) hx hb dL_law_39 (by rw [k39_6]; decide) (by rw [k39_6]; decide) (by rw [k39_6]; rfl) (by decide) ?_
        exact law_penalty X hK hA hX hbl hbA hst str sp sw si hXU hXI hL dk o pg su sa sf pa su2 sa2 md aK aW aH aD aS aO aZ aM aI aHt aDp aWd aSt out x th td tw ts to tz ar cap f sz nx fi bg go be lc g z al dp wd lim kp la em pf g2 z2 al2 dp2 wd2 lim2 T ss thr com the kep mad goa mos bes cos tot dep wid shs kd wi hi de sh od sk mo itn hts_ dps wds sts ov kk9 ix hI hk hix KK H locs hP hD hS ls hl
      by_cases k39_7 : (xs ix) &&& 15 = 7
      · refine lv_tableIn (off := 380) (tgt := 419) hx hb dL_law_39 (by rw [k39_7]; decide) (by rw [k39_7]; decide) (by rw [k39_7]; rfl) (by decide) ?_
        exact law_build X hK hA hX hbl hbA hst str sp sw si hXU hXI hL dk o pg su sa sf pa su2 sa2 md aK aW aH aD aS aO aZ aM aI aHt aDp aWd aSt out x th td tw ts to tz ar cap f sz nx fi bg go be lc g z al dp wd lim kp la em pf g2 z2 al2 dp2 wd2 lim2 T ss thr com the kep mad goa mos bes cos tot dep wid shs kd wi hi de sh od sk mo itn hts_ dps wds sts ov kk9 ix hI hk hix KK H locs hP hD hS ls hl
      by_cases k39_8 : (xs ix) &&& 15 = 8
      · refine lv_tableIn (off := 424) (tgt := 463) hx hb dL_law_39 (by rw [k39_8]; decide) (by rw [k39_8]; decide) (by rw [k39_8]; rfl) (by decide) ?_
        exact law_about X hK hA hX hbl hbA hst str sp sw si hXU hXI hL dk o pg su sa sf pa su2 sa2 md aK aW aH aD aS aO aZ aM aI aHt aDp aWd aSt out x th td tw ts to tz ar cap f sz nx fi bg go be lc g z al dp wd lim kp la em pf g2 z2 al2 dp2 wd2 lim2 T ss thr com the kep mad goa mos bes cos tot dep wid shs kd wi hi de sh od sk mo itn hts_ dps wds sts ov kk9 ix hI hk hix KK H locs hP hD hS ls hl
      by_cases k39_9 : (xs ix) &&& 15 = 9
      · refine lv_tableIn (off := 492) (tgt := 531) hx hb dL_law_39 (by rw [k39_9]; decide) (by rw [k39_9]; decide) (by rw [k39_9]; rfl) (by decide) ?_
        exact law_item X hK hA hX hbl hbA hst str sp sw si hXU hXI hL dk o pg su sa sf pa su2 sa2 md aK aW aH aD aS aO aZ aM aI aHt aDp aWd aSt out x th td tw ts to tz ar cap f sz nx fi bg go be lc g z al dp wd lim kp la em pf g2 z2 al2 dp2 wd2 lim2 T ss thr com the kep mad goa mos bes cos tot dep wid shs kd wi hi de sh od sk mo itn hts_ dps wds sts ov kk9 ix hI hk hix KK H locs hP hD hS ls hl
      by_cases k39_10 : (xs ix) &&& 15 = 10
      · refine lv_tableIn (off := 572) (tgt := 611) hx hb dL_law_39 (by rw [k39_10]; decide) (by rw [k39_10]; decide) (by rw [k39_10]; rfl) (by decide) ?_
        exact law_count X hK hA hX hbl hbA hst str sp sw si hXU hXI hL dk o pg su sa sf pa su2 sa2 md aK aW aH aD aS aO aZ aM aI aHt aDp aWd aSt out x th td tw ts to tz ar cap f sz nx fi bg go be lc g z al dp wd lim kp la em pf g2 z2 al2 dp2 wd2 lim2 T ss thr com the kep mad goa mos bes cos tot dep wid shs kd wi hi de sh od sk mo itn hts_ dps wds sts ov kk9 ix hI hk hix KK H locs hP hD hS ls hl
      by_cases k39_11 : (xs ix) &&& 15 = 11
      · refine lv_tableIn (off := 597) (tgt := 636) hx hb dL_law_39 (by rw [k39_11]; decide) (by rw [k39_11]; decide) (by rw [k39_11]; rfl) (by decide) ?_
        exact law_sum X hK hA hX hbl hbA hst str sp sw si hXU hXI hL dk o pg su sa sf pa su2 sa2 md aK aW aH aD aS aO aZ aM aI aHt aDp aWd aSt out x th td tw ts to tz ar cap f sz nx fi bg go be lc g z al dp wd lim kp la em pf g2 z2 al2 dp2 wd2 lim2 T ss thr com the kep mad goa mos bes cos tot dep wid shs kd wi hi de sh od sk mo itn hts_ dps wds sts ov kk9 ix hI hk hix KK H locs hP hD hS ls hl
      have q39_0 : ((xs ix) &&& 15).toInt ≠ 0 := i_ne k39_0
      have q39_1 : ((xs ix) &&& 15).toInt ≠ 1 := i_ne k39_1
      have q39_2 : ((xs ix) &&& 15).toInt ≠ 2 := i_ne k39_2
      have q39_3 : ((xs ix) &&& 15).toInt ≠ 3 := i_ne k39_3
      have q39_4 : ((xs ix) &&& 15).toInt ≠ 4 := i_ne k39_4
      have q39_5 : ((xs ix) &&& 15).toInt ≠ 5 := i_ne k39_5
      have q39_6 : ((xs ix) &&& 15).toInt ≠ 6 := i_ne k39_6
      have q39_7 : ((xs ix) &&& 15).toInt ≠ 7 := i_ne k39_7
      have q39_8 : ((xs ix) &&& 15).toInt ≠ 8 := i_ne k39_8
      have q39_9 : ((xs ix) &&& 15).toInt ≠ 9 := i_ne k39_9
      have q39_10 : ((xs ix) &&& 15).toInt ≠ 10 := i_ne k39_10
      have q39_11 : ((xs ix) &&& 15).toInt ≠ 11 := i_ne k39_11
      refine lv_tableOut (tgt := 662) hx hb dL_law_39 (by omega) (by decide) ?_
      obtain ⟨hR, hH, hM, hv, hcf, hXx, hnx, hsz, hcap, hc0⟩ := id hI
      refine lv_iinc (v := nI (ix + 5)) (lv' := [(4, .int (nI (ix + 5))), (0, .ref b), (1, .ref dk), (2, .ref md), (3, .ref out)]) hx hb dL_law_662 hl (k := 4) rfl (nI_add ix 5) (by decide) rfl (fun ls hl => ?_)
      refine lv_goto (tgt := 23) hx hb dL_law_665 (by decide) ?_
      have hI2 : lwI (kk9 + 1) x th td tw ts to tz f cap sz nx fi bg go be lc lim al dp wd z g kp la em pf T ss kd wi hi de sh od sk mo itn hts_ dps wds com the kep mad goa mos bes cos := ⟨hR, hH, hM, inv_m hv, hcf, hXx, hnx, hsz, hcap, hc0⟩
      refine W.widen (k := 25 + 600 * (kk9 + 1)) (n := 102236 + 10000 * (kk9 + 1)) (by omega) (by omega) ?_
      exact KK x th td tw ts to tz ar cap f sz nx fi bg go be lc g z al dp wd lim kp la em pf g2 z2 al2 dp2 wd2 lim2 T ss thr com the kep mad goa mos bes cos tot dep wid shs kd wi hi de sh od sk mo itn hts_ dps wds sts ov hI2 _ _ hP hD hS ls (lv_sub hl [1, 2, 3, 4, 0] rfl)
