/-! the answers of class and reference, call by call -/
theorem szm (v : Int32) : szL v.toInt64 = msz v := by
  have e1 : (-1073741823 : Int64) = (-1073741823 : Int32).toInt64 := rfl
  have e2 : (1073741823 : Int64) = (1073741823 : Int32).toInt64 := rfl
  unfold szL msz
  rw [e1, e2]
  simp only [Int32.toInt64_lt]
theorem pg_tie (h d : Int32) : pgd h d = mpg h d := by unfold pgd mpg; rw [szm, szm]
theorem gl_tie (w s o z : Int32) : glu w s o z = mgl w s o z := by
  unfold glu mgl
  rw [szm, szm, szm]
  have e : (msz w = 1 ∧ msz s = 1 ∧ ¬s < 0 ∧ ¬o < 0 ∧ ¬4 ≤ o ∧ msz z = 1 ∧ ¬z < 0) ↔ (msz w = 1 ∧ msz s = 1 ∧ msz z = 1 ∧ ¬s < 0 ∧ ¬z < 0 ∧ ¬o < 0 ∧ ¬4 ≤ o) :=
    ⟨fun q => ⟨q.1, q.2.1, q.2.2.2.2.2.1, q.2.2.1, q.2.2.2.2.2.2, q.2.2.2.1, q.2.2.2.2.1⟩, fun q => ⟨q.1, q.2.1, q.2.2.2.1, q.2.2.2.2.2.1, q.2.2.2.2.2.2, q.2.2.1, q.2.2.2.2.1⟩⟩
  simp only [e]
theorem sd_tie (w h d s : Int32) : sld w h d s = mbx w h d s := by unfold sld mbx; rw [szm, szm, szm, szm]
theorem ru_tie (w h d : Int32) : sld w h d 0 = mru w h d := by
  unfold sld mru
  rw [szm, szm, szm, szm]
  have e : msz 0 = 1 := rfl
  simp only [e, and_true]
theorem szI_of {v : Int32} (h : szL v.toInt64 = 1) : szI v := by
  rw [szm] at h
  unfold msz at h
  have e1 : (-1073741823 : Int32).toInt = -1073741823 := rfl
  have e2 : (1073741823 : Int32).toInt = 1073741823 := rfl
  by_cases q : v < (-1073741823) ∨ 1073741823 < v
  · rw [if_pos q] at h; exact absurd h (by decide)
  · have q1 : ¬ v < (-1073741823) := fun k => q (Or.inl k)
    have q2 : ¬ 1073741823 < v := fun k => q (Or.inr k)
    rw [Int32.lt_iff_toInt_lt] at q1 q2
    exact ⟨by omega, by omega⟩
theorem nnI_of {v : Int32} (h : szL v.toInt64 = 1) (h0 : ¬ v < 0) : nnI v := by
  have := szI_of h
  unfold szI at this
  rw [Int32.lt_iff_toInt_lt] at h0
  have e0 : (0 : Int32).toInt = 0 := rfl
  exact ⟨by omega, by omega⟩
theorem cf_page {th td tw ts to tz h d : Int32} (hc : cfK (th, td, tw, ts, to, tz)) : cfK ((if pgd h d = 1 then h else th), (if pgd h d = 1 then d else td), tw, ts, to, tz) := by
  refine ⟨?_, hc.2⟩
  show nnI (if pgd h d = 1 then d else td)
  by_cases q : pgd h d = 1
  · rw [if_pos q]
    unfold pgd at q
    by_cases w : szL h.toInt64 = 1 ∧ szL d.toInt64 = 1 ∧ 0 ≤ d
    · exact nnI_of w.2.1 (Int32.not_lt.mpr w.2.2)
    · rw [if_neg w] at q; exact absurd q (by decide)
  · rw [if_neg q]; exact hc.1
theorem glu_1 {w s o z : Int32} (q : glu w s o z = 1) : szL w.toInt64 = 1 ∧ szL s.toInt64 = 1 ∧ ¬ s < 0 ∧ ¬ o < 0 ∧ ¬ 4 ≤ o ∧ szL z.toInt64 = 1 ∧ ¬ z < 0 := by
  unfold glu at q
  by_cases k : szL w.toInt64 = 1 ∧ szL s.toInt64 = 1 ∧ ¬ s < 0 ∧ ¬ o < 0 ∧ ¬ 4 ≤ o ∧ szL z.toInt64 = 1 ∧ ¬ z < 0
  · exact k
  · rw [if_neg k] at q; exact absurd q (by decide)
theorem cf_top {th td tw ts to tz w s o z : Int32} (hc : cfK (th, td, tw, ts, to, tz)) : cfK (th, td, (if glu w s o z = 1 then w else tw), (if glu w s o z = 1 then s else ts), (if glu w s o z = 1 then o else to), (if glu w s o z = 1 then z else tz)) := by
  by_cases q : glu w s o z = 1
  · simp only [if_pos q]
    obtain ⟨g1, g2, g3, g4, g5, g6, g7⟩ := glu_1 q
    exact ⟨hc.1, szI_of g1, nnI_of g2 g3, ⟨g4, g5⟩, nnI_of g6 g7⟩
  · simp only [if_neg q]; exact hc
/-- an item more to come, if gd says so -/
def adQ (x : ASt) (it : Nat → Int32) : Rw := fun i => if i = zP x + zC x then it else zQ x i
def adS (gd : Int32) (it : Nat → Int32) (x : ASt) : ASt := if gd = 1 then mkS (adQ x it) (zP x) (zC x + 1) (zG x) (zL x) (zB x) (zO x) (zK x) (zF x) (zE x) (zX x) else x
section QO
variable {Q R : Rw}
theorem qoS_c : ∀ {n : Nat}, (∀ i, i < n → Q i = R i) → qoS Q n = qoS R n
  | 0, _ => rfl
  | n + 1, h => by rw [qoS, qoS, qoS_c (fun i hi => h i (by omega)), h n (by omega)]
theorem qoZ_c : ∀ {n : Nat}, (∀ i, i < n → Q i = R i) → qoZ Q n = qoZ R n
  | 0, _ => rfl
  | n + 1, h => by rw [qoZ, qoZ, qoZ_c (fun i hi => h i (by omega)), h n (by omega)]
theorem qoA_c : ∀ {n : Nat}, (∀ i, i < n → Q i = R i) → qoA Q n = qoA R n
  | 0, _ => rfl
  | n + 1, h => by rw [qoA, qoA, qoA_c (fun i hi => h i (by omega)), h n (by omega)]
theorem qoW_c : ∀ {n : Nat}, (∀ i, i < n → Q i = R i) → qoW Q n = qoW R n
  | 0, _ => rfl
  | n + 1, h => by rw [qoW, qoW, qoW_c (fun i hi => h i (by omega)), h n (by omega)]
theorem qoD_c {li : Int32} : ∀ {n : Nat}, (∀ i, i < n → Q i = R i) → qoD li Q n = qoD li R n
  | 0, _ => rfl
  | n + 1, h => by rw [qoD, qoD, h n (by omega)]
end QO
theorem adQ_p (x : ASt) (it : Nat → Int32) : ∀ i, i < zP x → zQ x i = adQ x it i := fun i hi => by unfold adQ; rw [if_neg (by omega)]
theorem cR_ad {x : ASt} {f f1 : Nat → Int32} {sz sz1 cap cap1 nx fi : Nat} {bg go be : Int32} {lc : Int64} {lim : Int32} {al dp wd z : Int64} {g : Nat → Int64} {gd : Int32} {it : Nat → Int32} (h : cR x f sz nx fi bg go be lc lim al dp wd z g) (ha : adP gd f f1 sz sz1 cap cap1 it) (h01 : gd = 0 ∨ gd = 1) : cR (adS gd it x) f1 sz1 nx fi bg go be lc lim al dp wd z g := by
  obtain ⟨a1, a2, a3⟩ := ha
  obtain ⟨h1, h2, h3, h4, h5, h6, h7, h8, h9⟩ := h
  rcases h01 with q | q
  · obtain ⟨b1, b2⟩ := a2 q
    have e : adS gd it x = x := if_neg (by rw [q]; decide)
    rw [e, b1]
    exact ⟨h1, h2, h3, h4, fun i j hi hj => by rw [a1 _ (by omega)]; exact h5 i j hi hj, h6, h7, h8, h9⟩
  · obtain ⟨b1, b2, b3⟩ := a3 q
    have e : adS gd it x = mkS (adQ x it) (zP x) (zC x + 1) (zG x) (zL x) (zB x) (zO x) (zK x) (zF x) (zE x) (zX x) := if_pos q
    rw [e, b1]
    refine ⟨h1, h2, by show sz + 1 = nx + (zC x + 1); omega, h4, ?_, h6, fun hp => ?_, h8, h9⟩
    · intro i j hi hj
      have hi : i < zP x + (zC x + 1) := hi
      show f1 ((nx - zP x + i) * 8 + j) = adQ x it i j
      unfold adQ
      by_cases w : i = zP x + zC x
      · rw [if_pos w, ← b3 j hj]
        congr 1
        omega
      · rw [if_neg w, a1 _ (by omega)]
        exact h5 i j (by omega) hj
    · obtain ⟨s1, s2, s3, s4, s5, s6, s7, s8, s9⟩ := h7 hp
      refine ⟨s1, s2, s3, s4, ?_, ?_, ?_, ?_, ?_⟩
      · rw [s5]; exact qoA_c (adQ_p x it)
      · rw [s6]; exact qoD_c (adQ_p x it)
      · rw [s7]; exact qoW_c (adQ_p x it)
      · rw [s8]; exact qoZ_c (adQ_p x it)
      · intro j hj
        rw [s9 j hj]
        exact congrFun (qoS_c (adQ_p x it)) j
theorem cH_ad {x : ASt} {kp la : Nat} {em : Int32} {pf : Nat → Option Nat} {T : Nat → PRec} {ss : List Nat} {gd : Int32} {it : Nat → Int32} (h : cH x kp la em pf T ss) : cH (adS gd it x) kp la em pf T ss := by
  unfold adS
  split
  · exact cH_to h rfl rfl rfl
  · exact h
theorem ad_X {x : ASt} {gd : Int32} {it : Nat → Int32} (h : zX x = false) : zX (adS gd it x) = false := by
  unfold adS
  split
  · exact h
  · exact h
theorem ad_P {x : ASt} {gd : Int32} {it : Nat → Int32} : zP (adS gd it x) = zP x := by
  unfold adS
  split <;> rfl
theorem inv_m {n : Nat} {x : ASt} (h : inv n x) : inv (n + 1) x := ⟨h.1, ⟨Nat.le_succ_of_le h.2.1.1, h.2.1.2⟩, h.2.2⟩
theorem inv_512 {n : Nat} {x : ASt} (h : inv n x) (hn : n ≤ 512) : inv 512 x := ⟨h.1, ⟨Nat.le_trans h.2.1.1 hn, h.2.1.2⟩, h.2.2⟩
theorem inv_ad {n : Nat} {x : ASt} {gd : Int32} {it : Nat → Int32} (h : inv n x) (hw : gd = 1 → wfI it) : inv (n + 1) (adS gd it x) := by
  unfold adS
  split
  · rename_i q
    obtain ⟨h1, h2, h3⟩ := h
    refine ⟨h1, ⟨?_, h2.2⟩, fun i hi => ?_, h3.2⟩
    · have := h2.1
      show zC x + 1 + (zP x - 1) + psm (zF x) (zK x) ≤ n + 1
      unfold rea at this
      omega
    · have hi : i < zP x + (zC x + 1) := hi
      show wfI (adQ x it i)
      unfold adQ
      by_cases w : i = zP x + zC x
      · rw [if_pos w]; exact hw q
      · rw [if_neg w]; exact h3.1 i (by omega)
  · exact inv_m h
theorem mR_ad {x : ASt} {kd wi hi de sh od sk : Nat → Int32} {mo : Nat → Int64} {itn : Nat → Nat} {ht dp wd : Nat → Int32} {com the kep : Nat} {mad goa mos bes cos : Int32} {gd x0 x1 x2 x3 x4 x5 x6 : Int32} {it : Nat → Int32} (h : mR x kd wi hi de sh od sk mo itn ht dp wd com the kep mad goa mos bes cos) (hc : com < 4200)
    (hit : it8 x0 x1 x2 x3 (if x0 = 2 then x4 else 0) (if x0 = 5 then x4 else 0) x5 x6 = it) (ho : gd = 1 → x0 = 5 → ¬ x5 < 0 ∧ ¬ 4 ≤ x5) :
    mR (adS gd it x) (if gd = 1 then upd kd com x0 else kd) (if gd = 1 then upd wi com x1 else wi) (if gd = 1 then upd hi com x2 else hi) (if gd = 1 then upd de com x3 else de) (if gd = 1 then upd sh com x4 else sh) (if gd = 1 then upd od com x5 else od) (if gd = 1 then upd sk com x6 else sk) (if gd = 1 then vp_updL mo com 0 else mo) itn ht dp wd (if gd = 1 then com + 1 else com) the kep mad goa mos bes cos := by
  by_cases q : gd = 1
  · simp only [if_pos q]
    have e : adS gd it x = mkS (adQ x it) (zP x) (zC x + 1) (zG x) (zL x) (zB x) (zO x) (zK x) (zF x) (zE x) (zX x) := if_pos q
    rw [e]
    obtain ⟨⟨a1, a2, a3⟩, h2, h3, h4, h5, h6, h7, h8, h9⟩ := h
    have en : ∀ (j : Nat), j ≠ com → ∀ (f : Nat → Int32) v, upd f com v j = f j := fun j hj f v => by unfold upd; rw [if_neg hj]
    have ey : ∀ (f : Nat → Int32) v, upd f com v com = v := fun f v => by unfold upd; rw [if_pos rfl]
    refine ⟨⟨fun i hq => ?_, fun i hq => ?_, fun i hq => ?_⟩, fun k hk => ?_, by show com + 1 = zC x + 1; omega, h4, h5, h6, h7, h8, h9⟩
    · have hq : i < zC x + 1 := hq
      show mIt _ _ _ _ _ _ _ i = adQ x it (zP x + i)
      by_cases w : i = com
      · have eq : adQ x it (zP x + i) = it := if_pos (by omega)
        rw [eq, w]
        unfold mIt
        rw [ey, ey, ey, ey, ey, ey, ey]
        exact hit
      · have eq : adQ x it (zP x + i) = zQ x (zP x + i) := if_neg (by omega)
        rw [eq]
        unfold mIt
        rw [en i w, en i w, en i w, en i w, en i w, en i w, en i w]
        exact a1 i (by omega)
    · have hq : i < zP x := hq
      show mIt _ _ _ _ _ _ _ (4200 + i) = adQ x it i
      have eq : adQ x it i = zQ x i := if_neg (by omega)
      rw [eq]
      unfold mIt
      rw [en _ (by omega), en _ (by omega), en _ (by omega), en _ (by omega), en _ (by omega), en _ (by omega), en _ (by omega)]
      exact a2 i hq
    · by_cases w : i = com
      · rw [w, ey] at hq
        rw [w, ey]
        exact ho q hq
      · rw [en i w] at hq
        rw [en i w]
        exact a3 i hq
    · obtain ⟨p1, p2, p3, p4, p5⟩ := h2 k hk
      refine ⟨p1, p2, p3, p4, fun i hq => ?_⟩
      have em : vp_updL mo com 0 (8400 + msu itn (kep - 1 - k) + i) = mo (8400 + msu itn (kep - 1 - k) + i) := by unfold vp_updL; rw [if_neg (by omega)]
      rw [en _ (by omega), en _ (by omega), en _ (by omega), en _ (by omega), em]
      exact p5 i hq
  · simp only [if_neg q]
    have e : adS gd it x = x := if_neg q
    rw [e]
    exact h
/-- the lost flag taken back -/
def unl (x : ASt) : ASt := mkS (zQ x) (zP x) (zC x) (zG x) (zL x) (zB x) (zO x) (zK x) (zF x) (zE x) false
section TIES
variable {x : ASt} {f : Nat → Int32} {sz nx fi : Nat} {bg go be : Int32} {lc : Int64} {lim : Int32} {al dp wd z : Int64} {g : Nat → Int64} {kp la : Nat} {em : Int32} {pf : Nat → Option Nat} {T : Nat → PRec} {ss : List Nat}
variable {kd wi hi de sh od sk : Nat → Int32} {mo : Nat → Int64} {itn : Nat → Nat} {ht dps wds : Nat → Int32} {com the kep : Nat} {mad goa mos bes cos : Int32}
theorem be_bes (h : cR x f sz nx fi bg go be lc lim al dp wd z g) (hM : mR x kd wi hi de sh od sk mo itn ht dps wds com the kep mad goa mos bes cos) : be = bes := h.2.2.2.2.2.2.2.1.trans hM.2.2.2.2.2.2.2.1.symm
theorem be_m1 (h : cR x f sz nx fi bg go be lc lim al dp wd z g) (hM : mR x kd wi hi de sh od sk mo itn ht dps wds com the kep mad goa mos bes cos) (hb : zB x < 100000) : be = -1 ↔ bes < 0 := by
  rw [be_lt hM hb, h.2.2.2.2.2.2.2.1]
  by_cases q : zB x = 0
  · rw [if_pos q]; simp [q]
  · rw [if_neg q]
    refine ⟨fun w => ?_, fun w => absurd w q⟩
    have h1 : ¬ nI (zB x) < 0 := nI_pos (by omega)
    rw [w] at h1
    exact absurd (by decide) h1
theorem cnt_tie (h : cR x f sz nx fi bg go be lc lim al dp wd z g) (hH : cH x kp la em pf T ss) (hM : mR x kd wi hi de sh od sk mo itn ht dps wds com the kep mad goa mos bes cos) (hb : zB x < 100000) (wh : Int32) : cnt wh em nx sz fi bg be = mct wh mad com the bes := by
  have h1 := be_m1 h hM hb
  unfold cnt mct
  rw [cR_on h, hH.2.2.2.1, hM.2.2.2.2.2.1, hM.2.2.1, hM.2.2.2.1, show sz - nx = zC x by have := h.2.2.1; omega]
  by_cases q : be = -1
  · have q2 : ¬ 0 ≤ bes := Int32.not_le.mpr (h1.mp q)
    rw [if_pos q, if_neg q2]
  · have q2 : 0 ≤ bes := Int32.not_lt.mp (fun k => q (h1.mpr k))
    rw [if_neg q, if_pos q2]
theorem sum_tie (h : cR x f sz nx fi bg go be lc lim al dp wd z g) (hM : mR x kd wi hi de sh od sk mo itn ht dps wds com the kep mad goa mos bes cos) (hw : wfS x) (hb : zB x < 100000) (sts : Nat → Int64) (wh : Int32) : smL wh bg be lc al dp z g = msm wh bes cos the (mtT (foA (mIt kd wi hi de sh od sk) 4200 the) (foD (mIt kd wi hi de sh od sk) 4200 the) mos) (mtD (foD (mIt kd wi hi de sh od sk) 4200 the) mos) (foZ (mIt kd wi hi de sh od sk) 4200 the) (foS (z4 sts) (mIt kd wi hi de sh od sk) 4200 the) := by
  have h1 := be_m1 h hM hb
  have h4 := hM.2.2.2.1
  unfold smL msm
  by_cases q : zP x = 0
  · rw [if_pos (h.2.2.2.2.2.1 q), if_pos (by omega)]
  · obtain ⟨s1, s2, s3, s4, s5, s6, s7, s8, s9⟩ := h.2.2.2.2.2.2.1 q
    have hmo := (hM.2.2.2.2.2.2.1 q).2
    have hrow : ∀ i, i < the → mIt kd wi hi de sh od sk (4200 + i) = zQ x i := fun i hi9 => hM.1.2.1 i (by omega)
    have hli : ¬ mos < 0 := by
      rw [hmo, Int32.lt_iff_toInt_lt]
      have := (hw.2 q).1
      have e0 : (0 : Int32).toInt = 0 := rfl
      omega
    rw [(fo_D hrow hli the (Nat.le_refl _)).2, (fo_D hrow hli the (Nat.le_refl _)).1, fo_A hrow the (Nat.le_refl _), fo_Z hrow the (Nat.le_refl _), fo_S sts hrow the (Nat.le_refl _) 0 (by decide), hmo, h4, ← s5, ← s6, ← s8, ← s9 0 (by decide), if_neg (by rw [s1]; decide), if_neg q]
    by_cases w : be = -1
    · rw [if_pos w, if_pos (h1.mp w)]
    · have w2 : ¬ bes < 0 := fun k => w (h1.mpr k)
      have w3 : ¬ zB x = 0 := fun k => w2 ((be_lt hM hb).mpr k)
      rw [if_neg w, if_neg w2, h.2.2.2.2.2.2.2.2, hM.2.2.2.2.2.2.2.2 w3]
theorem ab_tie (hH : cH x kp la em pf T ss) (hM : mR x kd wi hi de sh od sk mo itn ht dps wds com the kep mad goa mos bes cos) {k wh : Int32} (hk : mok k wh kp) : abv wh (T ((la + 8 - k.toNatClampNeg) % 8)) = if wh = 0 then ht (kep - 1 - k.toNatClampNeg) else if wh = 1 then dps (kep - 1 - k.toNatClampNeg) else if wh = 2 then wds (kep - 1 - k.toNatClampNeg) else nI (itn (kep - 1 - k.toNatClampNeg)) := by
  obtain ⟨kn, hkn, ek⟩ := mok_nat hk.1 hk.2.1 hH.2.1
  have ec : k.toNatClampNeg = kn := by rw [ek]; exact nI_clamp (by have := hH.2.1; omega)
  rw [ec]
  obtain ⟨-, g1, g2, g3, g4, g5, g6⟩ := hH.2.2.2.2.2.2.2.2 kn hkn
  obtain ⟨p1, p2, p3, p4, p5⟩ := hM.2.1 kn (by rw [hM.2.2.2.2.1, ← hH.1]; exact hkn)
  unfold abv
  rw [g1, g3, g4, g5, p1, p2, p3, p4]
theorem kp_kep (hH : cH x kp la em pf T ss) (hM : mR x kd wi hi de sh od sk mo itn ht dps wds com the kep mad goa mos bes cos) : kp = kep := hH.1.trans hM.2.2.2.2.1.symm
theorem io_tie (hH : cH x kp la em pf T ss) (hM : mR x kd wi hi de sh od sk mo itn ht dps wds com the kep mad goa mos bes cos) {k i wh : Int32} : (mok k wh kp ∧ iok T la k i) ↔ (mok k wh kep ∧ ¬ i < 0 ∧ i < nI (itn (kep - 1 - k.toNatClampNeg))) := by
  have e := kp_kep hH hM
  rw [← e]
  have key : mok k wh kp → (T ((la + 8 - k.toNatClampNeg) % 8)).2.2.2.2.2.1 = itn (kp - 1 - k.toNatClampNeg) := by
    intro hk
    obtain ⟨kn, hkn, ek⟩ := mok_nat hk.1 hk.2.1 hH.2.1
    have ec : k.toNatClampNeg = kn := by rw [ek]; exact nI_clamp (by have := hH.2.1; omega)
    obtain ⟨-, g1, -⟩ := hH.2.2.2.2.2.2.2.2 kn hkn
    obtain ⟨p1, -⟩ := hM.2.1 kn (by rw [← e]; exact hkn)
    rw [ec, g1, e, p1]
  constructor
  · rintro ⟨hk, h1, h2⟩
    rw [key hk] at h2
    exact ⟨hk, h1, h2⟩
  · rintro ⟨hk, h1, h2⟩
    refine ⟨hk, h1, ?_⟩
    rw [key hk]
    exact h2
theorem it_tie (hH : cH x kp la em pf T ss) (hM : mR x kd wi hi de sh od sk mo itn ht dps wds com the kep mad goa mos bes cos) {k i wh : Int32} (h : mok k wh kp ∧ iok T la k i) (hs : msu itn kep ≤ 4000) : (T ((la + 8 - k.toNatClampNeg) % 8)).2.2.2.2.1 (i.toNatClampNeg * 8 + wh.toNatClampNeg) = mvl wh kd wi hi de mo (8400 + i.toNatClampNeg + msu itn (kep - 1 - k.toNatClampNeg)) := by
  obtain ⟨hk, h1, h2⟩ := h
  obtain ⟨kn, hkn, ek⟩ := mok_nat hk.1 hk.2.1 hH.2.1
  have e := kp_kep hH hM
  have hk8 := hH.2.1
  have ec : k.toNatClampNeg = kn := by rw [ek]; exact nI_clamp (by omega)
  unfold iok at *
  obtain ⟨-, g1, g2, -⟩ := hH.2.2.2.2.2.2.2.2 kn hkn
  obtain ⟨p1, p2, p3, p4, p5⟩ := hM.2.1 kn (by rw [← e]; exact hkn)
  rw [ec, g1] at h2
  have hnb : (zF x kn).1 ≤ 4000 := by
    rw [← p1]
    have := msu_mono itn (show kep - 1 - kn + 1 ≤ kep by omega)
    simp only [msu] at this
    omega
  obtain ⟨im, him, eim⟩ := mit_nat h1 h2 (by omega)
  have eic : i.toNatClampNeg = im := by rw [eim]; exact nI_clamp (by omega)
  obtain ⟨wm, hwm, ewm⟩ := wh4 hk.2.2.1 hk.2.2.2
  have ewc : wh.toNatClampNeg = wm := by rw [ewm]; exact nI_clamp (by omega)
  rw [ec, eic, ewc, g2 im wm him (by omega), show 8400 + im + msu itn (kep - 1 - kn) = 8400 + msu itn (kep - 1 - kn) + im by omega]
  obtain ⟨r0, r1, r2, r3⟩ := p5 im him
  unfold mvl
  rw [ewm]
  rcases (show wm = 0 ∨ wm = 1 ∨ wm = 2 ∨ wm = 3 by omega) with w | w | w | w <;> subst w
  · rw [if_pos (by decide), r0]
  · rw [if_neg (by decide), if_pos (by decide), r1]
  · rw [if_neg (by decide), if_neg (by decide), if_pos (by decide), r2]
  · rw [if_neg (by decide), if_neg (by decide), if_neg (by decide), r3]
end TIES
/-- what holds between two calls -/
def lwI (k : Nat) (x : ASt) (th td tw ts to tz : Int32) (f : Nat → Int32) (cap sz nx fi : Nat) (bg go be : Int32) (lc : Int64) (lim : Int32) (al dp wd z : Int64) (g : Nat → Int64) (kp la : Nat) (em : Int32) (pf : Nat → Option Nat) (T : Nat → PRec) (ss : List Nat) (kd wi hi de sh od sk : Nat → Int32) (mo : Nat → Int64) (itn : Nat → Nat) (ht dps wds : Nat → Int32) (com the kep : Nat) (mad goa mos bes cos : Int32) : Prop :=
  cR x f sz nx fi bg go be lc lim al dp wd z g ∧ cH x kp la em pf T ss ∧ mR x kd wi hi de sh od sk mo itn ht dps wds com the kep mad goa mos bes cos ∧ inv k x ∧ cfK (th, td, tw, ts, to, tz) ∧ zX x = false ∧ nx = max 1 (zP x) ∧ sz ≤ cap ∧ cap ≤ 4001 ∧ 1 ≤ cap
