/-! the reference's rows held against the machine -/
def s1 (a t j : Nat) : Nat := if a ≤ j ∧ j < a + t then 4200 + (j - a) else j
def s2 (r c t j : Nat) : Nat := if t + r ≤ j ∧ j < c + r then j - r else j
def s3 (n t j : Nat) : Nat := if j < t then 4200 + n + j else j
def cpd {α : Type} (f : Nat → α) (a t : Nat) : Nat → α := fun j => f (s1 a t j)
def shu {α : Type} (f : Nat → α) (r c t : Nat) : Nat → α := fun j => f (s2 r c t j)
def cpr {α : Type} (f : Nat → α) (n t : Nat) : Nat → α := fun j => f (s3 n t j)
theorem cpd_0 {α : Type} (f : Nat → α) (a : Nat) : cpd f a 0 = f := by funext j; unfold cpd s1; rw [if_neg (by omega)]
theorem cpr_0 {α : Type} (f : Nat → α) (n : Nat) : cpr f n 0 = f := by funext j; unfold cpr s3; rw [if_neg (by omega)]
theorem shu_c {α : Type} (f : Nat → α) (r c : Nat) : shu f r c c = f := by funext j; unfold shu s2; rw [if_neg (by omega)]
theorem s1_s {a t j : Nat} (h : 4200 + t < a) : s1 a (t + 1) j = if j = a + t then s1 a t (4200 + t) else s1 a t j := by
  unfold s1
  by_cases e : j = a + t
  · rw [if_pos e, if_pos (by omega), if_neg (by omega)]
    omega
  · rw [if_neg e]
    by_cases q : a ≤ j ∧ j < a + t
    · rw [if_pos q, if_pos (by omega)]
    · rw [if_neg q, if_neg (by omega)]
theorem cpd_s (f : Nat → Int32) {a t : Nat} (h : 4200 + t < a) : upd (cpd f a t) (a + t) (cpd f a t (4200 + t)) = cpd f a (t + 1) := by
  funext j
  simp only [upd, cpd]
  rw [s1_s h]
  split <;> rfl
theorem cpdL_s (f : Nat → Int64) {a t : Nat} (h : 4200 + t < a) : vp_updL (cpd f a t) (a + t) (cpd f a t (4200 + t)) = cpd f a (t + 1) := by
  funext j
  simp only [vp_updL, cpd]
  rw [s1_s h]
  split <;> rfl
theorem s2_s {r c t j : Nat} (h : t < c) : s2 r c t j = if j = t + r then s2 r c (t + 1) t else s2 r c (t + 1) j := by
  unfold s2
  by_cases e : j = t + r
  · rw [if_pos e, if_pos (by omega), if_neg (by omega)]
    omega
  · rw [if_neg e]
    by_cases q : t + r ≤ j ∧ j < c + r
    · rw [if_pos q, if_pos (by omega)]
    · rw [if_neg q, if_neg (by omega)]
theorem shu_s (f : Nat → Int32) {r c t : Nat} (h : t < c) : upd (shu f r c (t + 1)) (t + r) (shu f r c (t + 1) t) = shu f r c t := by
  funext j
  simp only [upd, shu]
  rw [s2_s h]
  split <;> rfl
theorem s3_s {n t j : Nat} : s3 n (t + 1) j = if j = t then s3 n t (4200 + n + t) else s3 n t j := by
  unfold s3
  by_cases e : j = t
  · rw [if_pos e, if_pos (by omega), if_neg (by omega)]
    omega
  · rw [if_neg e]
    by_cases q : j < t
    · rw [if_pos q, if_pos (by omega)]
    · rw [if_neg q, if_neg (by omega)]
theorem cpr_s (f : Nat → Int32) {n t : Nat} : upd (cpr f n t) t (cpr f n t (4200 + n + t)) = cpr f n (t + 1) := by
  funext j
  simp only [upd, cpr]
  rw [s3_s]
  split <;> rfl
def updN (f : Nat → Nat) (i v : Nat) : Nat → Nat := fun k => if k = i then v else f k
theorem updN_e (f : Nat → Nat) (i v : Nat) : upd (fun k => nI (f k)) i (nI v) = fun k => nI (updN f i v k) := by
  funext j
  simp only [upd, updN]
  split <;> rfl
def sn (n lo t j : Nat) : Nat := if lo ≤ j ∧ j + n < t then j + n else j
theorem shn_e (f : Nat → Int32) (n lo t : Nat) : shn f n lo t = fun j => f (sn n lo t j) := by
  funext j
  unfold shn sn
  split <;> rfl
theorem shnL_e (f : Nat → Int64) (n lo t : Nat) : shnL f n lo t = fun j => f (sn n lo t j) := by
  funext j
  unfold shnL sn
  split <;> rfl
def s0 (t c j : Nat) : Nat := if j + 1 < t ∧ j + 1 < c then j + 1 else j
theorem shd_e (f : Nat → Int32) (t c : Nat) : shd f t c = fun j => f (s0 t c j) := by
  funext j
  unfold shd s0
  split <;> rfl
theorem shdL_e (f : Nat → Int64) (t c : Nat) : shdL f t c = fun j => f (s0 t c j) := by
  funext j
  unfold shdL s0
  split <;> rfl
theorem shdN_e (f : Nat → Nat) (t c : Nat) : shdN f t c = fun j => f (s0 t c j) := by
  funext j
  unfold shdN s0
  split <;> rfl
/-- rows to come and of the page; orders of glue -/
def mA (x : ASt) (kd wi hi de sh od sk : Nat → Int32) : Prop := (∀ i, i < zC x → mIt kd wi hi de sh od sk i = zQ x (zP x + i)) ∧ (∀ i, i < zP x → mIt kd wi hi de sh od sk (4200 + i) = zQ x i) ∧ ∀ i, kd i = 5 → ¬ od i < 0 ∧ ¬ 4 ≤ od i
def mPg (p : PGE) (kd wi hi de : Nat → Int32) (mo : Nat → Int64) (a : Nat) : Prop := ∀ i, i < p.1 → kd (a + i) = p.2.1 i 0 ∧ mcl (kd (a + i)) ((wi (a + i)).toInt64 + mo (a + i)) = p.2.1 i 1 ∧ hi (a + i) = p.2.1 i 2 ∧ de (a + i) = p.2.1 i 3
def mH (F : Nat → PGE) (kd wi hi de : Nat → Int32) (mo : Nat → Int64) (itn : Nat → Nat) (ht dp wd : Nat → Int32) (kep : Nat) : Prop := ∀ k, k < kep → itn (kep - 1 - k) = (F k).1 ∧ ht (kep - 1 - k) = (F k).2.2.1 ∧ dp (kep - 1 - k) = (F k).2.2.2.1 ∧ wd (kep - 1 - k) = (F k).2.2.2.2 ∧ mPg (F k) kd wi hi de mo (8400 + msu itn (kep - 1 - k))
def mR (x : ASt) (kd wi hi de sh od sk : Nat → Int32) (mo : Nat → Int64) (itn : Nat → Nat) (ht dp wd : Nat → Int32) (com the kep : Nat) (mad goa mos bes cos : Int32) : Prop :=
  mA x kd wi hi de sh od sk ∧ mH (zF x) kd wi hi de mo itn ht dp wd kep ∧ com = zC x ∧ the = zP x ∧ kep = zK x ∧ mad = zE x ∧ (zP x ≠ 0 → goa = zG x ∧ mos = zL x) ∧ bes = (if zB x = 0 then -1 else nI (zB x)) ∧ (zB x ≠ 0 → cos.toInt64 = zO x)
theorem msu_mal (f : Nat → Nat) : ∀ k, msu f k ≤ mal f k
  | 0 => Nat.le_refl _
  | k + 1 => by have := msu_mal f k; simp only [msu, mal]; omega
theorem mal_b {F : Nat → PGE} {itn : Nat → Nat} {kep : Nat} (h : ∀ k, k < kep → itn (kep - 1 - k) = (F k).1) : ∀ c, c ≤ kep → mal itn kep ≤ mal itn (kep - c) + psm F c + 2 * c
  | 0, _ => by simp only [psm, Nat.sub_zero]; omega
  | c + 1, hc => by
    have h1 := mal_b h c (by omega)
    have h2 := h c (by omega)
    have e : kep - c = (kep - (c + 1)) + 1 := by omega
    rw [e] at h1
    simp only [mal, psm] at h1 ⊢
    rw [show kep - 1 - c = kep - (c + 1) by omega] at h2
    omega
theorem mR_b {x : ASt} {kd wi hi de sh od sk : Nat → Int32} {mo : Nat → Int64} {itn : Nat → Nat} {ht dp wd : Nat → Int32} {com the kep : Nat} {mad goa mos bes cos : Int32} (h : mR x kd wi hi de sh od sk mo itn ht dp wd com the kep mad goa mos bes cos) (hv : inv 512 x) : kep ≤ 8 ∧ com + the ≤ 513 ∧ com + the + mal itn kep ≤ 529 ∧ com + the + msu itn kep ≤ 529 ∧ (∀ k, k < kep → 2 ≤ itn (kep - 1 - k)) := by
  obtain ⟨h1, h2, h3, h4, h5, -⟩ := h
  obtain ⟨v1, ⟨v2, v3, v4⟩, v5⟩ := hv
  have hr : com + the ≤ rea x + 1 := by unfold rea; omega
  have hm := mal_b (F := zF x) (itn := itn) (kep := kep) (fun k hk => (h2 k hk).1) kep (Nat.le_refl _)
  have hs := msu_mal itn kep
  rw [Nat.sub_self] at hm
  simp only [mal] at hm
  rw [h5] at hm hs ⊢
  refine ⟨v3, by omega, by omega, by omega, fun k hk => ?_⟩
  rw [← h5, (h2 k (by omega)).1]
  exact v4 k hk
/-- before a page is put on the shelf: the page's glue is set, there is room for one more -/
def mE (x : ASt) (kd wi hi de sh od sk : Nat → Int32) (mo : Nat → Int64) (itn : Nat → Nat) (ht dp wd : Nat → Int32) (kep : Nat) : Prop :=
  mA x kd wi hi de sh od sk ∧ mH (zF x) kd wi hi de mo itn ht dp wd kep ∧ kep = min 7 (zK x) ∧ msu itn kep ≤ 529 ∧ ∀ i, i < fnN x → mcl (kd (4200 + i)) ((wi (4200 + i)).toInt64 + mo (4200 + i)) = stG (flQ (zQ x)) ((zG x).toInt64 - (qoA (zQ x) (fnN x) - qoD (zL x) (zQ x) (fnN x))) (qoS (zQ x) (fnN x)) (qoZ (zQ x) (fnN x)) (fnN x) (i * 8 + 1)
theorem mA_s {x : ASt} {kd wi hi de sh od sk : Nat → Int32} (h : mA x kd wi hi de sh od sk) (s : Nat → Nat) (hs : ∀ j, j < 8400 → s j = j) (hb : zC x ≤ 4000 ∧ zP x ≤ 4000) : mA x (fun j => kd (s j)) (fun j => wi (s j)) (fun j => hi (s j)) (fun j => de (s j)) (fun j => sh (s j)) (fun j => od (s j)) (fun j => sk (s j)) := by
  obtain ⟨h1, h2, h3⟩ := h
  refine ⟨fun i hi => ?_, fun i hi => ?_, fun i hi => h3 (s i) hi⟩
  · rw [← h1 i hi]
    show mIt kd wi _ de sh od sk (s i) = _
    rw [hs i (by omega)]
  · rw [← h2 i hi]
    show mIt kd wi _ de sh od sk (s (4200 + i)) = _
    rw [hs (4200 + i) (by omega)]
theorem msu_c {f g : Nat → Nat} {k : Nat} (h : ∀ j, j < k → f j = g j) : ∀ t, t ≤ k → msu f t = msu g t
  | 0, _ => rfl
  | t + 1, ht => by rw [msu, msu, msu_c h t (by omega), h t (by omega)]
theorem msu_sh {f : Nat → Nat} {c : Nat} : ∀ t, t + 1 ≤ c → msu (shdN f c c) t + f 0 = msu f (t + 1)
  | 0, _ => by simp [msu]
  | t + 1, ht => by
    have h1 := msu_sh (f := f) (c := c) t (by omega)
    have e : shdN f c c t = f (t + 1) := by unfold shdN; rw [if_pos (by omega)]
    rw [msu, e, msu]
    omega
/-- no page is forgotten -/
theorem mE_7 {x : ASt} {kd wi hi de sh od sk : Nat → Int32} {mo mo1 : Nat → Int64} {itn : Nat → Nat} {ht dp wd : Nat → Int32} {com the kep : Nat} {mad goa mos bes cos : Int32} (h : mR x kd wi hi de sh od sk mo itn ht dp wd com the kep mad goa mos bes cos) (hv : inv 512 x) (hk : ¬ kep = 8)
    (hm : ∀ j, 8400 ≤ j → mo1 j = mo j) (hg : ∀ i, i < fnN x → mcl (kd (4200 + i)) ((wi (4200 + i)).toInt64 + mo1 (4200 + i)) = stG (flQ (zQ x)) ((zG x).toInt64 - (qoA (zQ x) (fnN x) - qoD (zL x) (zQ x) (fnN x))) (qoS (zQ x) (fnN x)) (qoZ (zQ x) (fnN x)) (fnN x) (i * 8 + 1)) : mE x kd wi hi de sh od sk mo1 itn ht dp wd kep := by
  have hb := mR_b h hv
  obtain ⟨h1, h2, h3, h4, h5, -⟩ := h
  refine ⟨h1, fun k hk => ?_, by omega, by omega, hg⟩
  obtain ⟨p1, p2, p3, p4, p5⟩ := h2 k hk
  refine ⟨p1, p2, p3, p4, fun i hi => ?_⟩
  rw [hm _ (by omega)]
  exact p5 i hi
/-- the oldest page is forgotten -/
theorem mE_8 {x : ASt} {kd wi hi de sh od sk : Nat → Int32} {mo mo1 : Nat → Int64} {itn : Nat → Nat} {ht dp wd : Nat → Int32} {com the kep : Nat} {mad goa mos bes cos : Int32} (h : mR x kd wi hi de sh od sk mo itn ht dp wd com the kep mad goa mos bes cos) (hv : inv 512 x) (hk : kep = 8)
    (hm : ∀ j, 8400 ≤ j → mo1 j = mo j) (hg : ∀ i, i < fnN x → mcl (kd (4200 + i)) ((wi (4200 + i)).toInt64 + mo1 (4200 + i)) = stG (flQ (zQ x)) ((zG x).toInt64 - (qoA (zQ x) (fnN x) - qoD (zL x) (zQ x) (fnN x))) (qoS (zQ x) (fnN x)) (qoZ (zQ x) (fnN x)) (fnN x) (i * 8 + 1)) (hn : fnN x ≤ zP x) :
    mE x (shn kd (itn 0) 8400 (8400 + mal itn kep)) (shn wi (itn 0) 8400 (8400 + mal itn kep)) (shn hi (itn 0) 8400 (8400 + mal itn kep)) (shn de (itn 0) 8400 (8400 + mal itn kep)) (shn sh (itn 0) 8400 (8400 + mal itn kep)) (shn od (itn 0) 8400 (8400 + mal itn kep)) (shn sk (itn 0) 8400 (8400 + mal itn kep)) (shnL mo1 (itn 0) 8400 (8400 + mal itn kep)) (shdN itn kep kep) (shd ht kep kep) (shd dp kep kep) (shd wd kep kep) (kep - 1) := by
  have hb := mR_b h hv
  obtain ⟨h1, h2, h3, h4, h5, -⟩ := h
  simp only [shn_e, shnL_e]
  have hs : ∀ j, j < 8400 → sn (itn 0) 8400 (8400 + mal itn kep) j = j := fun j hj => by unfold sn; rw [if_neg (by omega)]
  have hmm := msu_mal itn kep
  refine ⟨mA_s h1 _ hs (by omega), fun k hk9 => ?_, by omega, ?_, fun i hq => ?_⟩
  · obtain ⟨p1, p2, p3, p4, p5⟩ := h2 k (by omega)
    have e : s0 kep kep (kep - 1 - 1 - k) = kep - 1 - k := by unfold s0; rw [if_pos (by omega)]; omega
    have em := msu_sh (f := itn) (c := kep) (kep - 1 - 1 - k) (by omega)
    rw [show kep - 1 - 1 - k + 1 = kep - 1 - k by omega] at em
    have em2 : msu itn (kep - 1 - k + 1) ≤ msu itn kep := msu_mono itn (by omega)
    simp only [msu] at em2
    rw [shdN_e] at em ⊢
    rw [shd_e, shd_e, shd_e]
    refine ⟨by show itn (s0 _ _ _) = _; rw [e]; exact p1, by show ht (s0 _ _ _) = _; rw [e]; exact p2, by show dp (s0 _ _ _) = _; rw [e]; exact p3, by show wd (s0 _ _ _) = _; rw [e]; exact p4, fun i hq => ?_⟩
    have es : sn (itn 0) 8400 (8400 + mal itn kep) (8400 + msu (fun j => itn (s0 kep kep j)) (kep - 1 - 1 - k) + i) = 8400 + msu itn (kep - 1 - k) + i := by
      unfold sn
      rw [if_pos (by omega)]
      omega
    show kd (sn _ _ _ _) = _ ∧ mcl (kd (sn _ _ _ _)) ((wi (sn _ _ _ _)).toInt64 + mo1 (sn _ _ _ _)) = _ ∧ hi (sn _ _ _ _) = _ ∧ de (sn _ _ _ _) = _
    rw [es, hm _ (by omega)]
    exact p5 i hq
  · have em := msu_sh (f := itn) (c := kep) (kep - 1) (by omega)
    rw [show kep - 1 + 1 = kep by omega] at em
    omega
  · show mcl (kd (sn _ _ _ _)) ((wi (sn _ _ _ _)).toInt64 + mo1 (sn _ _ _ _)) = _
    rw [hs _ (by omega)]
    exact hg i hq
/-- the page is put, what was not used goes back -/
theorem mR_end {x : ASt} {kd wi hi de sh od sk : Nat → Int32} {mo mo2 : Nat → Int64} {itn : Nat → Nat} {ht dp wd : Nat → Int32} {com the kep : Nat} {mad : Int32} {mos cos : Int32} (h : mE x kd wi hi de sh od sk mo itn ht dp wd kep) (hv : inv 512 x) (hp : zP x ≠ 0) (hc : com = zC x) (hthe : the = zP x) (hma : mad = zE x)
    (hm : ∀ j, 8400 ≤ j → mo2 j = cpd mo (8400 + msu itn kep) (fnN x) j) :
    mR (fnG x) (cpr (shu (cpd kd (8400 + msu itn kep) (fnN x)) (the - fnN x) com 0) (fnN x) (the - fnN x)) (cpr (shu (cpd wi (8400 + msu itn kep) (fnN x)) (the - fnN x) com 0) (fnN x) (the - fnN x)) (cpr (shu (cpd hi (8400 + msu itn kep) (fnN x)) (the - fnN x) com 0) (fnN x) (the - fnN x)) (cpr (shu (cpd de (8400 + msu itn kep) (fnN x)) (the - fnN x) com 0) (fnN x) (the - fnN x)) (cpr (shu (cpd sh (8400 + msu itn kep) (fnN x)) (the - fnN x) com 0) (fnN x) (the - fnN x)) (cpr (shu (cpd od (8400 + msu itn kep) (fnN x)) (the - fnN x) com 0) (fnN x) (the - fnN x)) (cpr (shu (cpd sk (8400 + msu itn kep) (fnN x)) (the - fnN x) com 0) (fnN x) (the - fnN x))
      mo2 (updN itn kep (fnN x)) (upd ht kep (zG x)) (upd dp kep (qoD (zL x) (zQ x) (fnN x)).toInt32) (upd wd kep (qoW (zQ x) (fnN x)).toInt32) (com + (the - fnN x)) 0 (kep + 1) (mad + 1) (zG x) mos (-1) cos := by
  obtain ⟨⟨a1, a2, a3⟩, h2, h3, h4, h5⟩ := h
  have hn := ok_n hv.1 hp
  have hr : zC x + zP x ≤ 513 := by have := hv.2.1.1; unfold rea at this; omega
  obtain ⟨at9, hat⟩ : ∃ z, z = 8400 + msu itn kep := ⟨_, rfl⟩
  rw [← hat] at hm ⊢
  have hi9 : ∀ j, 8400 ≤ j → s2 (the - fnN x) com 0 (s3 (fnN x) (the - fnN x) j) = j := fun j hj => by
    have e3 : s3 (fnN x) (the - fnN x) j = j := by unfold s3; rw [if_neg (by omega)]
    rw [e3]; unfold s2; rw [if_neg (by omega)]
  have hmsu : ∀ t, t ≤ kep → msu (updN itn kep (fnN x)) t = msu itn t := msu_c (fun j hj => by unfold updN; rw [if_neg (by omega)])
  refine ⟨⟨fun i hq => ?_, fun i hq => absurd hq (Nat.not_lt_zero _), fun i hq => a3 _ hq⟩, fun k hk => ?_, ?_, rfl, ?_, ?_, fun q => absurd rfl q, rfl, fun q => absurd rfl q⟩
  · have hq : i < zP x + zC x - fnN x := hq
    show mIt kd wi _ de sh od sk (s1 at9 (fnN x) (s2 (the - fnN x) com 0 (s3 (fnN x) (the - fnN x) i))) = zQ x (0 + i + fnN x)
    by_cases q : i < the - fnN x
    · have e3 : s3 (fnN x) (the - fnN x) i = 4200 + fnN x + i := by unfold s3; rw [if_pos q]
      have e2 : s2 (the - fnN x) com 0 (4200 + fnN x + i) = 4200 + fnN x + i := by unfold s2; rw [if_neg (by omega)]
      have e1 : s1 at9 (fnN x) (4200 + fnN x + i) = 4200 + (fnN x + i) := by unfold s1; rw [if_neg (by omega)]; omega
      rw [e3, e2, e1, a2 (fnN x + i) (by omega)]
      congr 1
      omega
    · have e3 : s3 (fnN x) (the - fnN x) i = i := by unfold s3; rw [if_neg q]
      have e2 : s2 (the - fnN x) com 0 i = i - (the - fnN x) := by unfold s2; rw [if_pos (by omega)]
      have e1 : s1 at9 (fnN x) (i - (the - fnN x)) = i - (the - fnN x) := by unfold s1; rw [if_neg (by omega)]
      rw [e3, e2, e1, a1 _ (by omega)]
      congr 1
      omega
  · have hk : k < kep + 1 := hk
    show updN itn kep (fnN x) (kep + 1 - 1 - k) = (pcs (pgA x) (zF x) k).1 ∧ _ = (pcs (pgA x) (zF x) k).2.2.1 ∧ _ = (pcs (pgA x) (zF x) k).2.2.2.1 ∧ _ = (pcs (pgA x) (zF x) k).2.2.2.2 ∧ mPg (pcs (pgA x) (zF x) k) _ _ _ _ _ _
    rw [hmsu _ (by omega)]
    by_cases e : k = 0
    · have ep : pcs (pgA x) (zF x) k = pgA x := if_pos e
      have ek : kep + 1 - 1 - k = kep := by omega
      rw [ep, ek]
      refine ⟨if_pos rfl, if_pos rfl, if_pos rfl, if_pos rfl, fun i hq => ?_⟩
      have hq : i < fnN x := hq
      have es : s1 at9 (fnN x) (s2 (the - fnN x) com 0 (s3 (fnN x) (the - fnN x) (8400 + msu itn kep + i))) = 4200 + i := by
        rw [hi9 _ (by omega)]
        unfold s1
        rw [if_pos (by omega)]
        omega
      have em : mo2 (8400 + msu itn kep + i) = mo (4200 + i) := by
        rw [hm _ (by omega)]
        show mo (s1 _ _ _) = _
        congr 1
        unfold s1
        rw [if_pos (by omega)]
        omega
      have c0 : ∀ j, j < 8 → mIt kd wi hi de sh od sk (4200 + i) j = flQ (zQ x) (i * 8 + j) := fun j hj => by rw [a2 i (by omega), flQ_at _ _ hj]
      show kd (s1 _ _ _) = stG _ _ _ _ _ (i * 8 + 0) ∧ mcl (kd (s1 _ _ _)) ((wi (s1 _ _ _)).toInt64 + mo2 _) = stG _ _ _ _ _ (i * 8 + 1) ∧ hi (s1 _ _ _) = stG _ _ _ _ _ (i * 8 + 2) ∧ de (s1 _ _ _) = stG _ _ _ _ _ (i * 8 + 3)
      rw [es, em, stG_o _ _ _ _ _ _ 0 (by decide) (by decide), stG_o _ _ _ _ _ _ 2 (by decide) (by decide), stG_o _ _ _ _ _ _ 3 (by decide) (by decide)]
      exact ⟨c0 0 (by decide), h5 i hq, c0 2 (by decide), c0 3 (by decide)⟩
    · have ep : pcs (pgA x) (zF x) k = zF x (k - 1) := if_neg e
      have ek : kep + 1 - 1 - k = kep - 1 - (k - 1) := by omega
      rw [ep, ek]
      obtain ⟨p1, p2, p3, p4, p5⟩ := h2 (k - 1) (by omega)
      have hne : ¬ kep - 1 - (k - 1) = kep := by omega
      refine ⟨by unfold updN; rw [if_neg hne]; exact p1, by unfold upd; rw [if_neg hne]; exact p2, by unfold upd; rw [if_neg hne]; exact p3, by unfold upd; rw [if_neg hne]; exact p4, fun i hq => ?_⟩
      have hi2 : i < itn (kep - 1 - (k - 1)) := by rw [p1]; exact hq
      have em2 : msu itn (kep - 1 - (k - 1) + 1) ≤ msu itn kep := msu_mono itn (by omega)
      simp only [msu] at em2
      have e1 : s1 at9 (fnN x) (8400 + msu itn (kep - 1 - (k - 1)) + i) = 8400 + msu itn (kep - 1 - (k - 1)) + i := by unfold s1; rw [if_neg (by omega)]
      have es : s1 at9 (fnN x) (s2 (the - fnN x) com 0 (s3 (fnN x) (the - fnN x) (8400 + msu itn (kep - 1 - (k - 1)) + i))) = 8400 + msu itn (kep - 1 - (k - 1)) + i := by
        rw [hi9 _ (by omega)]; exact e1
      have em : mo2 (8400 + msu itn (kep - 1 - (k - 1)) + i) = mo (8400 + msu itn (kep - 1 - (k - 1)) + i) := by
        rw [hm _ (by omega)]
        show mo (s1 _ _ _) = _
        rw [e1]
      show kd (s1 _ _ _) = _ ∧ mcl (kd (s1 _ _ _)) ((wi (s1 _ _ _)).toInt64 + mo2 _) = _ ∧ hi (s1 _ _ _) = _ ∧ de (s1 _ _ _) = _
      rw [es, em]
      exact p5 i hq
  · show com + (the - fnN x) = zP x + zC x - fnN x
    omega
  · show kep + 1 = min 8 (zK x + 1)
    omega
  · show mad + 1 = zE x + 1
    rw [hma]
