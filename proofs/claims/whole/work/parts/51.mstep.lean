/-! the reference's steps held against the machine's -/
def sm (k t j : Nat) : Nat := if j = t then k else j
theorem upd_e (f : Nat → Int32) (k t : Nat) : upd f t (f k) = fun j => f (sm k t j) := by
  funext j
  unfold upd sm
  split <;> rfl
theorem updL_e (f : Nat → Int64) (k t : Nat) : vp_updL f t (f k) = fun j => f (sm k t j) := by
  funext j
  unfold vp_updL sm
  split <;> rfl
theorem mH_s {F : Nat → PGE} {kd wi hi de : Nat → Int32} {mo : Nat → Int64} {itn : Nat → Nat} {ht dp wd : Nat → Int32} {kep : Nat} (h : mH F kd wi hi de mo itn ht dp wd kep) (s : Nat → Nat) (hs : ∀ j, 8400 ≤ j → s j = j) : mH F (fun j => kd (s j)) (fun j => wi (s j)) (fun j => hi (s j)) (fun j => de (s j)) (fun j => mo (s j)) itn ht dp wd kep := by
  intro k hk
  obtain ⟨p1, p2, p3, p4, p5⟩ := h k hk
  refine ⟨p1, p2, p3, p4, fun i hq => ?_⟩
  show kd (s _) = _ ∧ mcl (kd (s _)) ((wi (s _)).toInt64 + mo (s _)) = _ ∧ hi (s _) = _ ∧ de (s _) = _
  rw [hs _ (by omega)]
  exact p5 i hq
section STEP
variable {x : ASt} {kd wi hi de sh od sk : Nat → Int32} {mo : Nat → Int64} {itn : Nat → Nat} {ht dp wd : Nat → Int32} {com the kep : Nat} {mad goa mos bes cos : Int32}
theorem mR_tak (h : mR x kd wi hi de sh od sk mo itn ht dp wd com the kep mad goa mos bes cos) (hp : zP x ≠ 0) (hc : 0 < zC x) (hb : zC x + zP x ≤ 4000) : mR (tak x) (shd (upd kd (4200 + the) (kd 0)) com com) (shd (upd wi (4200 + the) (wi 0)) com com) (shd (upd hi (4200 + the) (hi 0)) com com) (shd (upd de (4200 + the) (de 0)) com com) (shd (upd sh (4200 + the) (sh 0)) com com) (shd (upd od (4200 + the) (od 0)) com com) (shd (upd sk (4200 + the) (sk 0)) com com) (shdL (vp_updL mo (4200 + the) (mo 0)) com com) itn ht dp wd (com - 1) (the + 1) kep mad goa mos bes cos := by
  obtain ⟨⟨a1, a2, a3⟩, h2, h3, h4, h5, h6, h7, h8, h9⟩ := h
  simp only [upd_e, updL_e, shd_e, shdL_e]
  have hs : ∀ j, 8400 ≤ j → sm 0 (4200 + the) (s0 com com j) = j := fun j hj => by
    have e : s0 com com j = j := by unfold s0; rw [if_neg (by omega)]
    rw [e]; unfold sm; rw [if_neg (by omega)]
  refine ⟨⟨fun i hq => ?_, fun i hq => ?_, fun i hq => a3 _ hq⟩, mH_s h2 _ hs, by rw [h3]; rfl, by rw [h4]; rfl, h5, h6, fun _ => h7 hp, h8, h9⟩
  · have hq : i < zC x - 1 := hq
    show mIt kd wi hi de sh od sk (sm 0 (4200 + the) (s0 com com i)) = zQ x (zP x + 1 + i)
    have e : s0 com com i = i + 1 := by unfold s0; rw [if_pos (by omega)]
    have e2 : sm 0 (4200 + the) (i + 1) = i + 1 := by unfold sm; rw [if_neg (by omega)]
    rw [e, e2, a1 (i + 1) (by omega)]
    congr 1
    omega
  · have hq : i < zP x + 1 := hq
    show mIt kd wi hi de sh od sk (sm 0 (4200 + the) (s0 com com (4200 + i))) = zQ x i
    have e : s0 com com (4200 + i) = 4200 + i := by unfold s0; rw [if_neg (by omega)]
    rw [e]
    unfold sm
    by_cases w : i = the
    · rw [if_pos (by omega), a1 0 hc]
      congr 1
      omega
    · rw [if_neg (by omega)]
      exact a2 i (by omega)
theorem mR_drp (h : mR x kd wi hi de sh od sk mo itn ht dp wd com the kep mad goa mos bes cos) (hp : zP x = 0) (hb : zC x ≤ 4000) : mR (drp x) (shd kd com com) (shd wi com com) (shd hi com com) (shd de com com) (shd sh com com) (shd od com com) (shd sk com com) (shdL mo com com) itn ht dp wd (com - 1) the kep mad goa mos bes cos := by
  obtain ⟨⟨a1, a2, a3⟩, h2, h3, h4, h5, h6, h7, h8, h9⟩ := h
  simp only [shd_e, shdL_e]
  have hs : ∀ j, 8400 ≤ j → s0 com com j = j := fun j hj => by unfold s0; rw [if_neg (by omega)]
  refine ⟨⟨fun i hq => ?_, fun i hq => absurd hq (Nat.not_lt_zero _), fun i hq => a3 _ hq⟩, mH_s h2 _ hs, by rw [h3]; rfl, by rw [h4, hp]; rfl, h5, h6, fun q => absurd rfl q, h8, h9⟩
  have hq : i < zC x - 1 := hq
  show mIt kd wi hi de sh od sk (s0 com com i) = zQ x (0 + i + 1)
  have e : s0 com com i = i + 1 := by unfold s0; rw [if_pos (by omega)]
  rw [e, a1 (i + 1) (by omega)]
  congr 1
  omega
theorem top_tie {tw h : Int32} (h1 : szI tw) (h2 : szI h) : (if tw.toInt64 - h.toInt64 < 0 then (0 : Int64) else tw.toInt64 - h.toInt64).toInt32 = if (0 : Int32) < tw - h then tw - h else 0 := by
  unfold szI at h1 h2
  have e0 : (0 : Int32).toInt = 0 := rfl
  have z0 : (0 : Int64).toInt = 0 := rfl
  have e : (tw - h).toInt = tw.toInt - h.toInt := by
    rw [Int32.toInt_sub]
    simp only [Int.bmod]
    split <;> omega
  have e64 : (tw.toInt64 - h.toInt64).toInt = tw.toInt - h.toInt := by
    rw [sb64 (by rw [Int32.toInt_toInt64, Int32.toInt_toInt64]; omega) (by rw [Int32.toInt_toInt64, Int32.toInt_toInt64]; omega), Int32.toInt_toInt64, Int32.toInt_toInt64]
  by_cases q : tw.toInt64 - h.toInt64 < 0
  · have q2 : ¬ (0 : Int32) < tw - h := by rw [Int64.lt_iff_toInt_lt, e64, z0] at q; rw [Int32.lt_iff_toInt_lt, e, e0]; omega
    rw [if_pos q, if_neg q2]
    rfl
  · rw [if_neg q]
    have e32 : (tw.toInt64 - h.toInt64).toInt32 = tw - h := by
      apply Int32.toInt_inj.mp
      rw [Int64.toInt_toInt32, e64, e]
      rw [Int64.lt_iff_toInt_lt, e64, z0] at q
      simp only [Int.bmod]
      split <;> omega
    rw [e32]
    by_cases w : (0 : Int32) < tw - h
    · rw [if_pos w]
    · rw [if_neg w]
      rw [Int64.lt_iff_toInt_lt, e64, z0] at q
      rw [Int32.lt_iff_toInt_lt, e, e0] at w
      exact Int32.toInt_inj.mp (by rw [e, e0]; omega)
theorem mR_bgn {cf : Cf} (h : mR x kd wi hi de sh od sk mo itn ht dp wd com the kep mad goa mos bes cos) (hcf : cfK cf) (hp : zP x = 0) (hc : 0 < zC x) (hb : zC x ≤ 4000) (hw : wfS x) : mR (bgn cf x) (upd kd 4200 5) (upd wi 4200 ((if cf.2.2.1.toInt64 - (hi 0).toInt64 < 0 then (0 : Int64) else cf.2.2.1.toInt64 - (hi 0).toInt64).toInt32)) (upd hi 4200 0) (upd de 4200 0) (upd sh 4200 cf.2.2.2.1) (upd od 4200 cf.2.2.2.2.1) (upd sk 4200 cf.2.2.2.2.2) (vp_updL mo 4200 0) itn ht dp wd com 1 kep mad cf.1 cf.2.1 (-1) cos := by
  obtain ⟨⟨a1, a2, a3⟩, h2, h3, h4, h5, h6, h7, h8, h9⟩ := h
  have hh : hi 0 = zQ x 0 2 := by
    have := congrFun (a1 0 hc) 2
    rw [hp] at this
    exact this
  refine ⟨⟨fun i hq => ?_, fun i hq => ?_, fun i hq => ?_⟩, fun k hk => ?_, h3, rfl, h5, h6, fun _ => ⟨rfl, rfl⟩, rfl, fun q => absurd rfl q⟩
  · have hq : i < zC x := hq
    have en : ∀ f : Nat → Int32, ∀ v, upd f 4200 v i = f i := fun f v => by unfold upd; rw [if_neg (by omega)]
    show mIt _ _ _ _ _ _ _ i = cns (top8 cf (zQ x 0 2)) (zQ x) (1 + i)
    unfold mIt
    rw [en, en, en, en, en, en, en]
    show mIt kd wi hi de sh od sk i = _
    rw [a1 i hq, hp]
    unfold cns
    rw [if_neg (by omega)]
    congr 1
    omega
  · have hq : i < 1 := hq
    have hi0 : i = 0 := by omega
    subst hi0
    show mIt _ _ _ _ _ _ _ 4200 = top8 cf (zQ x 0 2)
    unfold mIt upd top8
    simp only [if_true]
    rw [hh, top_tie hcf.2.1 (hw.1 0 (by omega)).2.2.1]
    rfl
  · unfold upd at hq ⊢
    by_cases e : i = 4200
    · rw [if_pos e]; exact hcf.2.2.2.1
    · rw [if_neg e] at hq ⊢; exact a3 i hq
  · obtain ⟨p1, p2, p3, p4, p5⟩ := h2 k hk
    refine ⟨p1, p2, p3, p4, fun i hq => ?_⟩
    have en : ∀ f : Nat → Int32, ∀ v, upd f 4200 v (8400 + msu itn (kep - 1 - k) + i) = f (8400 + msu itn (kep - 1 - k) + i) := fun f v => by unfold upd; rw [if_neg (by omega)]
    have em : vp_updL mo 4200 0 (8400 + msu itn (kep - 1 - k) + i) = mo (8400 + msu itn (kep - 1 - k) + i) := by unfold vp_updL; rw [if_neg (by omega)]
    rw [en, en, en, en, em]
    exact p5 i hq
theorem mwt_g {g g' : Nat → Int64} (h : ∀ j, j < 4 → g j = g' j) (go : Int32) (t z : Int64) : mwt go t z g = mwt go t z g' := by unfold mwt; rw [h 0 (by decide), h 1 (by decide), h 2 (by decide), h 3 (by decide)]
/-- weight and cost -/
theorem bn_tie {N : Nat} (hv : inv N x) (hN : N ≤ 600) (hp : zP x ≠ 0) {G : Nat → Int64} (hG : ∀ j, j < 4 → G j = qoS (zQ x) (zP x) j) {w : Int32} (hw : w = mwt (zG x) (qoA (zQ x) (zP x) - qoD (zL x) (zQ x) (zP x)) (qoZ (zQ x) (zP x)) G) : w.toInt64 = bnA x ∧ (bnA x = -1 ∨ (0 ≤ w ∧ w ≤ 10000)) := by
  obtain ⟨g1, g2, g3, g4⟩ := sg_q hv hN (Nat.le_refl (zP x))
  rw [hw, mwt_g hG]
  exact wt_tie g1 g2 g3 g4
theorem bn_neg {w : Int32} (h : w.toInt64 = bnA x ∧ (bnA x = -1 ∨ (0 ≤ w ∧ w ≤ 10000))) : w < 0 ↔ bnA x = -1 := by
  obtain ⟨h1, h2⟩ := h
  have e0 : (0 : Int32).toInt = 0 := rfl
  constructor
  · intro q
    rcases h2 with k | k
    · exact k
    · rw [Int32.lt_iff_toInt_lt] at q
      have := k.1
      rw [Int32.le_iff_toInt_le] at this
      omega
  · intro q
    have : w = -1 := by
      rw [q] at h1
      have := congrArg Int64.toInt32 h1
      rw [Int32.toInt32_toInt64] at this
      rw [this]
      rfl
    rw [this]
    decide
theorem pe_b {x : ASt} (hb : ¬ brA x = 0) : (peA x).toInt < 10000 := by
  unfold brA at hb
  unfold peA
  by_cases q : zQ x (zP x) 0 = 7
  · rw [if_pos q]
    rw [q, if_neg (by decide), if_neg (by decide), if_pos rfl] at hb
    by_cases w : (10000 : Int32) ≤ zQ x (zP x) 1
    · rw [if_pos w] at hb; exact absurd rfl hb
    · rw [Int32.le_iff_toInt_le] at w
      have e : (10000 : Int32).toInt = 10000 := rfl
      omega
  · rw [if_neg q]; decide
def mco (b p : Int32) : Int32 := if -10000 < p then (if 10000 ≤ b then 100000 else b + p) else p
theorem co_tie {w : Int32} (h : w.toInt64 = bnA x ∧ (bnA x = -1 ∨ (0 ≤ w ∧ w ≤ 10000))) (hb : ¬ brA x = 0) (hn : ¬ bnA x = -1) : (mco w (peA x)).toInt64 = coA x := by
  obtain ⟨h1, h2⟩ := h
  have h3 := h2.resolve_left hn
  have hp := pe_b hb
  have e0 : (0 : Int32).toInt = 0 := rfl
  have e1 : (10000 : Int32).toInt = 10000 := rfl
  have e2 : (-10000 : Int32).toInt = -10000 := rfl
  have e3 : (10000 : Int64).toInt = 10000 := rfl
  rw [Int32.le_iff_toInt_le, Int32.le_iff_toInt_le] at h3
  unfold mco coA cst
  rw [← h1]
  by_cases q : -10000 < peA x
  · rw [if_pos q, if_pos q]
    rw [Int32.lt_iff_toInt_lt] at q
    by_cases k : (10000 : Int32) ≤ w
    · have k2 : ¬ w.toInt64 < 10000 := by rw [Int64.lt_iff_toInt_lt, Int32.toInt_toInt64]; rw [Int32.le_iff_toInt_le] at k; omega
      rw [if_pos k, if_neg k2]
      rfl
    · have k2 : w.toInt64 < 10000 := by rw [Int64.lt_iff_toInt_lt, Int32.toInt_toInt64]; rw [Int32.le_iff_toInt_le] at k; omega
      rw [if_neg k, if_pos k2]
      apply Int64.toInt_inj.mp
      rw [Int32.toInt_toInt64, Int32.toInt_add, ad64 (by rw [Int32.toInt_toInt64, Int32.toInt_toInt64]; omega) (by rw [Int32.toInt_toInt64, Int32.toInt_toInt64]; omega), Int32.toInt_toInt64, Int32.toInt_toInt64]
      simp only [Int.bmod]
      split <;> omega
  · rw [if_neg q, if_neg q]
theorem mR_wgh {bes1 cos1 : Int32} (h : mR x kd wi hi de sh od sk mo itn ht dp wd com the kep mad goa mos bes cos) (hp : zP x ≠ 0) (h1 : noA x → bes1 = bes ∧ cos1 = cos) (h2 : ¬ noA x → bes1 = nI the ∧ cos1.toInt64 = coA x) : mR (wgh x) kd wi hi de sh od sk mo itn ht dp wd com the kep mad goa mos bes1 cos1 := by
  obtain ⟨a, k2, k3, k4, k5, k6, k7, k8, k9⟩ := h
  refine ⟨a, k2, k3, k4, k5, k6, k7, ?_, ?_⟩
  · show bes1 = if (if noA x then zB x else zP x) = 0 then -1 else nI (if noA x then zB x else zP x)
    by_cases q : noA x
    · rw [if_pos q, (h1 q).1, k8]
    · rw [if_neg q, if_neg hp, (h2 q).1, k4]
  · show (if noA x then zB x else zP x) ≠ 0 → cos1.toInt64 = if noA x then zO x else coA x
    by_cases q : noA x
    · rw [if_pos q, if_pos q, (h1 q).2]; exact k9
    · rw [if_neg q, if_neg q]
      exact fun _ => (h2 q).2
theorem be_lt (h : mR x kd wi hi de sh od sk mo itn ht dp wd com the kep mad goa mos bes cos) (hb : zB x < 100000) : bes < 0 ↔ zB x = 0 := by
  rw [h.2.2.2.2.2.2.2.1]
  by_cases q : zB x = 0
  · rw [if_pos q]; exact ⟨fun _ => q, fun _ => by decide⟩
  · rw [if_neg q]; exact ⟨fun w => absurd w (nI_pos (by omega)), fun w => absurd w q⟩
theorem no_tie {w cc : Int32} (h : mR x kd wi hi de sh od sk mo itn ht dp wd com the kep mad goa mos bes cos) (hb : zB x < 100000) (hw : w < 0 ↔ bnA x = -1) (hc : ¬ bnA x = -1 → cc.toInt64 = coA x) : noA x ↔ (w < 0 ∨ (¬ bes < 0 ∧ cos < cc)) := by
  have h1 := be_lt h hb
  constructor
  · rintro (q | ⟨q1, q2⟩)
    · exact Or.inl (hw.mpr q)
    · by_cases k : bnA x = -1
      · exact Or.inl (hw.mpr k)
      · refine Or.inr ⟨fun z => q1 (h1.mp z), ?_⟩
        rw [← hc k, ← h.2.2.2.2.2.2.2.2 q1] at q2
        exact Int32.toInt64_lt.mp q2
  · rintro (q | ⟨q1, q2⟩)
    · exact Or.inl (hw.mp q)
    · by_cases k : bnA x = -1
      · exact Or.inl k
      · have q3 : ¬ zB x = 0 := fun z => q1 (h1.mpr z)
        refine Or.inr ⟨q3, ?_⟩
        rw [← hc k, ← h.2.2.2.2.2.2.2.2 q3]
        exact Int32.toInt64_lt.mpr q2
end STEP
/-- what come does -/
def cmP (x y : ASt) (r : Int32) : Prop := (r = 0 ∧ y = tak (if brA x = 0 then x else wgh x) ∧ (¬ brA x = 0 → ¬ enA x)) ∨ (r = 1 ∧ ¬ brA x = 0 ∧ enA x ∧ gdA (wgh x) = 1 ∧ y = fnG (wgh x)) ∨ (r = 2 ∧ ¬ brA x = 0 ∧ enA x ∧ ¬ gdA (wgh x) = 1 ∧ y = fnB (wgh x))
