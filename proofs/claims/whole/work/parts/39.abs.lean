/-! the machine that class and reference both follow: a row of items (the page's first, then what is to come), the page's numbers, the pages kept (0 the latest) -/
abbrev Rw : Type := Nat → Nat → Int32
abbrev PGE : Type := Nat × Rw × Int32 × Int32 × Int32
abbrev Cf : Type := Int32 × Int32 × Int32 × Int32 × Int32 × Int32
abbrev ASt : Type := Rw × Nat × Nat × Int32 × Int32 × Nat × Int64 × Nat × (Nat → PGE) × Int32 × Bool
def zQ (x : ASt) : Rw := x.1
def zP (x : ASt) : Nat := x.2.1
def zC (x : ASt) : Nat := x.2.2.1
def zG (x : ASt) : Int32 := x.2.2.2.1
def zL (x : ASt) : Int32 := x.2.2.2.2.1
def zB (x : ASt) : Nat := x.2.2.2.2.2.1
def zO (x : ASt) : Int64 := x.2.2.2.2.2.2.1
def zK (x : ASt) : Nat := x.2.2.2.2.2.2.2.1
def zF (x : ASt) : Nat → PGE := x.2.2.2.2.2.2.2.2.1
def zE (x : ASt) : Int32 := x.2.2.2.2.2.2.2.2.2.1
def zX (x : ASt) : Bool := x.2.2.2.2.2.2.2.2.2.2
def mkS (Q : Rw) (np nc : Nat) (go li : Int32) (bn : Nat) (lc : Int64) (kp : Nat) (F : Nat → PGE) (em : Int32) (lo : Bool) : ASt := (Q, np, nc, go, li, bn, lc, kp, F, em, lo)
section ABS
variable (Q : Rw) (np nc : Nat) (go li : Int32) (bn : Nat) (lc : Int64) (kp : Nat) (F : Nat → PGE) (em : Int32) (lo : Bool)
theorem zmQ : zQ (mkS Q np nc go li bn lc kp F em lo) = Q := rfl
theorem zmP : zP (mkS Q np nc go li bn lc kp F em lo) = np := rfl
theorem zmC : zC (mkS Q np nc go li bn lc kp F em lo) = nc := rfl
theorem zmG : zG (mkS Q np nc go li bn lc kp F em lo) = go := rfl
theorem zmL : zL (mkS Q np nc go li bn lc kp F em lo) = li := rfl
theorem zmB : zB (mkS Q np nc go li bn lc kp F em lo) = bn := rfl
theorem zmO : zO (mkS Q np nc go li bn lc kp F em lo) = lc := rfl
theorem zmK : zK (mkS Q np nc go li bn lc kp F em lo) = kp := rfl
theorem zmF : zF (mkS Q np nc go li bn lc kp F em lo) = F := rfl
theorem zmE : zE (mkS Q np nc go li bn lc kp F em lo) = em := rfl
theorem zmX : zX (mkS Q np nc go li bn lc kp F em lo) = lo := rfl
end ABS
def top8 (cf : Cf) (h : Int32) : Nat → Int32 := it8 5 (if (0 : Int32) < cf.2.2.1 - h then cf.2.2.1 - h else 0) 0 0 0 cf.2.2.2.1 cf.2.2.2.2.1 cf.2.2.2.2.2
def cns (it : Nat → Int32) (Q : Rw) : Rw := fun i => if i = 0 then it else Q (i - 1)
def shf (Q : Rw) (n : Nat) : Rw := fun i => Q (i + n)
def flQ (Q : Rw) : Nat → Int32 := fun k => Q (k / 8) (k % 8)
def qoS (Q : Rw) : Nat → Nat → Int64
  | 0 => fun _ => 0
  | n + 1 => tS (qoS Q n) (Q n)
def qoZ (Q : Rw) : Nat → Int64
  | 0 => 0
  | n + 1 => tZ (qoZ Q n) (Q n)
def qoA (Q : Rw) : Nat → Int64
  | 0 => 0
  | n + 1 => tA (qoA Q n) (Q n)
def qoW (Q : Rw) : Nat → Int64
  | 0 => 0
  | n + 1 => tW (qoW Q n) (Q n)
def qoD (li : Int32) (Q : Rw) : Nat → Int64
  | 0 => 0
  | n + 1 => tD li (Q n)
abbrev sto (x : ASt) : Prop := zX x = true ∨ zC x = 0 ∨ (zC x = 1 ∧ zQ x (zP x) 0 = 6)
def drp (x : ASt) : ASt := mkS (shf (zQ x) 1) 0 (zC x - 1) (zG x) (zL x) (zB x) (zO x) (zK x) (zF x) (zE x) (zX x)
def bgn (cf : Cf) (x : ASt) : ASt := mkS (cns (top8 cf (zQ x 0 2)) (zQ x)) 1 (zC x) cf.1 cf.2.1 0 (zO x) (zK x) (zF x) (zE x) (zX x)
def tak (x : ASt) : ASt := mkS (zQ x) (zP x + 1) (zC x - 1) (zG x) (zL x) (zB x) (zO x) (zK x) (zF x) (zE x) (zX x)
def brA (x : ASt) : Int32 := if zQ x (zP x) 0 = 5 then sol (zQ x (zP x - 1) 0) else if zQ x (zP x) 0 = 6 then (if 1 < zC x ∧ zQ x (zP x + 1) 0 = 5 then 1 else 0) else if zQ x (zP x) 0 = 7 then (if 10000 ≤ zQ x (zP x) 1 then 0 else 1) else 0
def peA (x : ASt) : Int32 := if zQ x (zP x) 0 = 7 then zQ x (zP x) 1 else 0
def bnA (x : ASt) : Int64 := bnw (zG x) (qoA (zQ x) (zP x) - qoD (zL x) (zQ x) (zP x)) (qoZ (zQ x) (zP x)) (qoS (zQ x) (zP x))
def coA (x : ASt) : Int64 := cst (bnA x) (peA x)
abbrev noA (x : ASt) : Prop := bnA x = -1 ∨ (¬ zB x = 0 ∧ zO x < coA x)
def wgh (x : ASt) : ASt := mkS (zQ x) (zP x) (zC x) (zG x) (zL x) (if noA x then zB x else zP x) (if noA x then zO x else coA x) (zK x) (zF x) (zE x) (zX x)
abbrev enA (x : ASt) : Prop := bnA x = -1 ∨ ¬ -10000 < peA x
def fnN (x : ASt) : Nat := if zB x = 0 then zP x else zB x
def gdA (x : ASt) : Int32 := arS (qoS (zQ x) (fnN x)) (qoA (zQ x) (fnN x) - qoD (zL x) (zQ x) (fnN x)) (qoZ (zQ x) (fnN x)) (qoW (zQ x) (fnN x))
def pgA (x : ASt) : PGE := (fnN x, fun i j => stG (flQ (zQ x)) ((zG x).toInt64 - (qoA (zQ x) (fnN x) - qoD (zL x) (zQ x) (fnN x))) (qoS (zQ x) (fnN x)) (qoZ (zQ x) (fnN x)) (fnN x) (i * 8 + j), zG x, (qoD (zL x) (zQ x) (fnN x)).toInt32, (qoW (zQ x) (fnN x)).toInt32)
def pcs (p : PGE) (F : Nat → PGE) : Nat → PGE := fun k => if k = 0 then p else F (k - 1)
def fnG (x : ASt) : ASt := mkS (shf (zQ x) (fnN x)) 0 (zP x + zC x - fnN x) (zG x) (zL x) 0 0 (min 8 (zK x + 1)) (pcs (pgA x) (zF x)) (zE x + 1) (zX x)
def fnB (x : ASt) : ASt := mkS (zQ x) 0 0 (zG x) (zL x) 0 0 0 (zF x) (zE x) true
def fnA (x : ASt) : ASt := if gdA x = 1 then fnG x else fnB x
def stp (cf : Cf) (x : ASt) : ASt := if sto x then x else if zP x = 0 then (if sol (zQ x 0 0) = 0 then drp x else tak (bgn cf x)) else if brA x = 0 then tak x else if enA x then fnA (wgh x) else tak (wgh x)
def itr (cf : Cf) : Nat → ASt → ASt
  | 0, x => x
  | n + 1, x => itr cf n (stp cf x)
def rch (cf : Cf) (x y : ASt) : Prop := ∃ n, y = itr cf n x
theorem itr_s (cf : Cf) : ∀ (n : Nat) (x : ASt), itr cf (n + 1) x = stp cf (itr cf n x)
  | 0, _ => rfl
  | n + 1, x => itr_s cf n (stp cf x)
theorem itr_add (cf : Cf) (m : Nat) : ∀ (n : Nat) (x : ASt), itr cf (n + m) x = itr cf m (itr cf n x)
  | 0, x => by rw [Nat.zero_add]; rfl
  | n + 1, x => by rw [show n + 1 + m = (n + m) + 1 by omega]; exact itr_add cf m n (stp cf x)
theorem stp_stop {cf : Cf} {x : ASt} (h : sto x) : stp cf x = x := by unfold stp; rw [if_pos h]
theorem itr_stop {cf : Cf} {x : ASt} (h : sto x) : ∀ n, itr cf n x = x
  | 0 => rfl
  | n + 1 => by show itr cf n (stp cf x) = x; rw [stp_stop h]; exact itr_stop h n
theorem rch_0 (cf : Cf) (x : ASt) : rch cf x x := ⟨0, rfl⟩
theorem rch_s {cf : Cf} {x y z : ASt} (h : rch cf x y) (e : z = stp cf y) : rch cf x z := by
  obtain ⟨n, rfl⟩ := h
  exact ⟨n + 1, by rw [itr_s]; exact e⟩
theorem rch_eq {cf : Cf} {x y y' : ASt} (h : rch cf x y) (h' : rch cf x y') (s : sto y) (s' : sto y') : y = y' := by
  obtain ⟨m, rfl⟩ := h
  obtain ⟨n, rfl⟩ := h'
  rcases Nat.le_total m n with q | q
  · obtain ⟨k, rfl⟩ := Nat.exists_eq_add_of_le q
    rw [itr_add, itr_stop s]
  · obtain ⟨k, rfl⟩ := Nat.exists_eq_add_of_le q
    rw [itr_add, itr_stop s']
/-- how many of the items were told, top glue left out -/
def rea (x : ASt) : Nat := zC x + (zP x - 1)
def okS (x : ASt) : Prop := zP x ≠ 1 ∧ zB x ≠ 1 ∧ zB x ≤ zP x
/-- items alike in their eight numbers do alike to the sums -/
theorem tS_c {it it' : Nat → Int32} (h : ∀ j, j < 8 → it j = it' j) (g : Nat → Int64) : tS g it = tS g it' := by simp only [tS, tkG, h 0 (by decide), h 5 (by decide), h 6 (by decide)]
theorem tZ_c {it it' : Nat → Int32} (h : ∀ j, j < 8 → it j = it' j) (z : Int64) : tZ z it = tZ z it' := by simp only [tZ, h 0 (by decide), h 7 (by decide)]
theorem tA_c {it it' : Nat → Int32} (h : ∀ j, j < 8 → it j = it' j) (z : Int64) : tA z it = tA z it' := by simp only [tA, h 0 (by decide), h 1 (by decide), h 2 (by decide), h 3 (by decide)]
theorem tD_c {it it' : Nat → Int32} (h : ∀ j, j < 8 → it j = it' j) (z : Int32) : tD z it = tD z it' := by simp only [tD, h 0 (by decide), h 3 (by decide)]
theorem tW_c {it it' : Nat → Int32} (h : ∀ j, j < 8 → it j = it' j) (z : Int64) : tW z it = tW z it' := by simp only [tW, h 0 (by decide), h 1 (by decide), h 4 (by decide)]
theorem clamp4 {o : Int32} (h1 : ¬ o < 0) (h2 : ¬ 4 ≤ o) : o.toNatClampNeg < 4 := by
  obtain ⟨j, hj, e⟩ := ix4 h1 h2
  rw [e, nI_clamp (by omega)]
  exact hj
theorem tS_g {g g' : Nat → Int64} (h : ∀ j, j < 4 → g j = g' j) (it : Nat → Int32) : ∀ j, j < 4 → tS g it j = tS g' it j := by
  intro j hj
  unfold tS tkG
  split
  · split
    · rename_i q
      simp only [vp_updL]
      rw [h _ (clamp4 q.1 q.2), h j hj]
    · exact h j hj
  · exact h j hj
theorem hiO_g {g g' : Nat → Int64} (h : ∀ j, j < 4 → g j = g' j) : hiO g = hiO g' := by unfold hiO; rw [h 0 (by decide), h 1 (by decide), h 2 (by decide), h 3 (by decide)]
theorem soF_g {g g' : Nat → Int64} (h : ∀ j, j < 4 → g j = g' j) (o : Int32) : soF g o = soF g' o := by
  unfold soF
  split
  · rename_i q
    exact h _ (clamp4 q.1 q.2)
  · rfl
theorem arS_g {g g' : Nat → Int64} (h : ∀ j, j < 4 → g j = g' j) (t z w : Int64) : arS g t z w = arS g' t z w := by unfold arS; rw [h 0 (by decide), h 1 (by decide), h 2 (by decide), h 3 (by decide)]
theorem bnw_g {g g' : Nat → Int64} (h : ∀ j, j < 4 → g j = g' j) (go : Int32) (t z : Int64) : bnw go t z g = bnw go t z g' := by unfold bnw; rw [hiO_g h, h 0 (by decide)]
/-- glue set alike in rows that are alike -/
theorem spB_c {f f' : Nat → Int32} {n : Nat} (h : ∀ j, j < n * 8 → f j = f' j) (od : Int32) : ∀ i, i ≤ n → spB f od i = spB f' od i
  | 0, _ => rfl
  | i + 1, hi => by
    simp only [spB, shr]
    rw [spB_c h od i (by omega), h (i * 8) (by omega), h (i * 8 + 7) (by omega), h (i * 8 + 6) (by omega), h (i * 8 + 5) (by omega)]
theorem spF_c {f f' : Nat → Int32} {n : Nat} (h : ∀ j, j < n * 8 → f j = f' j) (ex sh : Int64) (od : Int32) : ∀ j, j < n * 8 → spF f ex sh od n j = spF f' ex sh od n j := by
  intro j hj
  simp only [spF]
  rw [h j hj, h (j / 8 * 8) (by omega), spB_c h od (j / 8 + 1) (by omega), spB_c h od (j / 8) (by omega)]
theorem stG_c {f f' : Nat → Int32} {n : Nat} (h : ∀ j, j < n * 8 → f j = f' j) {g g' : Nat → Int64} (hg : ∀ j, j < 4 → g j = g' j) (ex z : Int64) : ∀ j, j < n * 8 → stG f ex g z n j = stG f' ex g' z n j := by
  intro j hj
  unfold stG
  rw [hiO_g hg, soF_g hg]
  split
  · exact spF_c h _ _ _ j hj
  · split
    · exact spF_c h _ _ _ j hj
    · exact h j hj
/-- the class's column and page, held against the machine -/
def cS (x : ASt) (nx fi : Nat) (bg go lim : Int32) (al dp wd z : Int64) (g : Nat → Int64) : Prop := bg = 1 ∧ fi = nx - zP x ∧ go = zG x ∧ lim = zL x ∧ al = qoA (zQ x) (zP x) ∧ dp = qoD (zL x) (zQ x) (zP x) ∧ wd = qoW (zQ x) (zP x) ∧ z = qoZ (zQ x) (zP x) ∧ ∀ j, j < 4 → g j = qoS (zQ x) (zP x) j
def cR (x : ASt) (f : Nat → Int32) (sz nx fi : Nat) (bg go be : Int32) (lc : Int64) (lim : Int32) (al dp wd z : Int64) (g : Nat → Int64) : Prop :=
  zP x ≤ nx ∧ 1 ≤ nx ∧ sz = nx + zC x ∧ fi ≤ nx ∧ (∀ i j, i < zP x + zC x → j < 8 → f ((nx - zP x + i) * 8 + j) = zQ x i j) ∧ (zP x = 0 → bg = 0) ∧ (zP x ≠ 0 → cS x nx fi bg go lim al dp wd z g) ∧ be = (if zB x = 0 then -1 else nI (zB x)) ∧ lc = zO x
section CR
variable {x : ASt} {f : Nat → Int32} {sz nx fi : Nat} {bg go be : Int32} {lc : Int64} {lim : Int32} {al dp wd z : Int64} {g : Nat → Int64}
theorem cR_0 (h : cR x f sz nx fi bg go be lc lim al dp wd z g) (b : bg = 0) : zP x = 0 := by
  by_cases q : zP x = 0
  · exact q
  · have := (h.2.2.2.2.2.2.1 q).1
    rw [b] at this
    exact absurd this (by decide)
theorem cR_1 (h : cR x f sz nx fi bg go be lc lim al dp wd z g) (b : ¬ bg = 0) : zP x ≠ 0 := fun q => b (h.2.2.2.2.2.1 q)
theorem cR_at (h : cR x f sz nx fi bg go be lc lim al dp wd z g) (hc : 0 < zC x) {j : Nat} (hj : j < 8) : f (nx * 8 + j) = zQ x (zP x) j := by
  have := h.2.2.2.2.1 (zP x) j (by omega) hj
  rwa [show nx - zP x + zP x = nx from by have := h.1; omega] at this
theorem cR_drp (h : cR x f sz nx fi bg go be lc lim al dp wd z g) (b : bg = 0) (hc : 0 < zC x) : cR (drp x) f sz (nx + 1) fi bg go be lc lim al dp wd z g := by
  have hp := cR_0 h b
  obtain ⟨h1, h2, h3, h4, h5, h6, h7, h8, h9⟩ := h
  refine ⟨Nat.zero_le _, by omega, ?_, by omega, ?_, fun _ => b, fun q => absurd rfl q, h8, h9⟩
  · show sz = nx + 1 + (zC x - 1)
    omega
  · intro i j hi hj
    have hi : i < 0 + (zC x - 1) := hi
    have := h5 (i + 1) j (by omega) hj
    rw [hp] at this
    show f ((nx + 1 - 0 + i) * 8 + j) = zQ x (i + 1) j
    rw [← this]
    congr 2
    omega
theorem cR_bgn {cf : Cf} {f1 : Nat → Int32} {g0 g1 : Nat → Int64} {z1 a1 d1 w1 : Int64} (h : cR x f sz nx fi bg go be lc lim al dp wd z g) (b : bg = 0) (hb : zB x = 0) (hc : 0 < zC x)
    (hf : f1 = ip f (nx - 1) (it8 5 (if (0 : Int32) < cf.2.2.1 - f (nx * 8 + 2) then cf.2.2.1 - f (nx * 8 + 2) else 0) 0 0 0 cf.2.2.2.1 cf.2.2.2.2.1 cf.2.2.2.2.2))
    (h0 : ∀ j, j < 4 → g0 j = 0) (e1 : g1 = tS g0 (fun j => f1 ((nx - 1) * 8 + j))) (e2 : z1 = tZ 0 (fun j => f1 ((nx - 1) * 8 + j))) (e3 : a1 = tA 0 (fun j => f1 ((nx - 1) * 8 + j))) (e4 : d1 = tD cf.2.1 (fun j => f1 ((nx - 1) * 8 + j))) (e5 : w1 = tW 0 (fun j => f1 ((nx - 1) * 8 + j))) :
    cR (bgn cf x) f1 sz nx (nx - 1) 1 cf.1 be lc cf.2.1 a1 d1 w1 z1 g1 := by
  have hp := cR_0 h b
  have h2q : f (nx * 8 + 2) = zQ x 0 2 := by have := cR_at h hc (j := 2) (by decide); rwa [hp] at this
  obtain ⟨h1, h2, h3, h4, h5, h6, h7, h8, h9⟩ := h
  have hr : ∀ i j, i < 1 + zC x → j < 8 → f1 ((nx - 1 + i) * 8 + j) = cns (top8 cf (zQ x 0 2)) (zQ x) i j := by
    intro i j hi hj
    rw [hf]
    unfold ip cns
    by_cases q : i = 0
    · rw [if_pos (by omega), if_pos q, h2q, show ((nx - 1 + i) * 8 + j) % 8 = j by omega]
      rfl
    · rw [if_neg (by omega), if_neg q]
      have := h5 (i - 1) j (by omega) hj
      rw [hp] at this
      rw [← this]
      congr 2
      omega
  have hc0 : ∀ j, j < 8 → (fun j => f1 ((nx - 1) * 8 + j)) j = zQ (bgn cf x) 0 j := fun j hj => by
    have := hr 0 j (by omega) hj
    exact this
  refine ⟨h2, h2, h3, by omega, hr, fun q => absurd q (by show (1 : Nat) ≠ 0; decide), fun _ => ⟨rfl, rfl, rfl, rfl, ?_, ?_, ?_, ?_, ?_⟩, ?_, h9⟩
  · rw [e3, tA_c hc0]; rfl
  · rw [e4, tD_c hc0]; rfl
  · rw [e5, tW_c hc0]; rfl
  · rw [e2, tZ_c hc0]; rfl
  · intro j hj
    rw [e1, tS_c hc0]
    exact tS_g (g' := fun _ => 0) h0 _ j hj
  · rw [h8, hb]; rfl
theorem cR_tak (h : cR x f sz nx fi bg go be lc lim al dp wd z g) (b : ¬ bg = 0) (hc : 0 < zC x) : cR (tak x) f sz (nx + 1) fi bg go be lc lim (tA al (fun j => f (nx * 8 + j))) (tD lim (fun j => f (nx * 8 + j))) (tW wd (fun j => f (nx * 8 + j))) (tZ z (fun j => f (nx * 8 + j))) (tS g (fun j => f (nx * 8 + j))) := by
  have hp := cR_1 h b
  have hit : ∀ j, j < 8 → (fun j => f (nx * 8 + j)) j = zQ x (zP x) j := fun j hj => cR_at h hc hj
  obtain ⟨h1, h2, h3, h4, h5, h6, h7, h8, h9⟩ := h
  obtain ⟨s1, s2, s3, s4, s5, s6, s7, s8, s9⟩ := h7 hp
  refine ⟨?_, by omega, ?_, by omega, ?_, fun q => absurd q (Nat.succ_ne_zero _), fun _ => ⟨s1, ?_, s3, s4, ?_, ?_, ?_, ?_, ?_⟩, h8, h9⟩
  · show zP x + 1 ≤ nx + 1
    omega
  · show sz = nx + 1 + (zC x - 1)
    omega
  · intro i j hi hj
    have hi : i < zP x + 1 + (zC x - 1) := hi
    show f ((nx + 1 - (zP x + 1) + i) * 8 + j) = zQ x i j
    rw [← h5 i j (by omega) hj]
    congr 2
    omega
  · show fi = nx + 1 - (zP x + 1)
    omega
  · rw [tA_c hit, s5]; rfl
  · rw [tD_c hit, s4]; rfl
  · rw [tW_c hit, s7]; rfl
  · rw [tZ_c hit, s8]; rfl
  · intro j hj
    rw [tS_c hit]
    exact tS_g s9 _ j hj
theorem cR_bnw (h : cR x f sz nx fi bg go be lc lim al dp wd z g) (b : ¬ bg = 0) : bnw go (al - dp) z g = bnA x := by
  obtain ⟨s1, s2, s3, s4, s5, s6, s7, s8, s9⟩ := h.2.2.2.2.2.2.1 (cR_1 h b)
  unfold bnA
  rw [bnw_g s9, s3, s5, s6, s8]
theorem cR_pen (h : cR x f sz nx fi bg go be lc lim al dp wd z g) (hc : 0 < zC x) {kd : Int32} (hk : kd = f (nx * 8)) : pen f nx kd = peA x := by
  unfold pen peA
  rw [hk, show f (nx * 8) = _ from cR_at h hc (j := 0) (by decide), cR_at h hc (j := 1) (by decide)]
theorem cR_brk (h : cR x f sz nx fi bg go be lc lim al dp wd z g) (b : ¬ bg = 0) (hc : 0 < zC x) {kd : Int32} (hk : kd = f (nx * 8)) : brk f nx sz kd = brA x := by
  have hp := cR_1 h b
  have e1 : f ((nx - 1) * 8) = zQ x (zP x - 1) 0 := by
    have := h.2.2.2.2.1 (zP x - 1) 0 (by omega) (by decide)
    rw [← this]
    congr 1
    have := h.1
    omega
  have e2 : 1 < zC x → f ((nx + 1) * 8) = zQ x (zP x + 1) 0 := fun q => by
    have := h.2.2.2.2.1 (zP x + 1) 0 (by omega) (by decide)
    rw [← this]
    congr 1
    have := h.1
    omega
  have e3 : (nx + 1 < sz) ↔ 1 < zC x := by have := h.2.2.1; omega
  unfold brk brA
  rw [hk, show f (nx * 8) = _ from cR_at h hc (j := 0) (by decide), cR_at h hc (j := 1) (by decide), e1]
  by_cases q : 1 < zC x
  · rw [e2 q]
    simp only [e3]
  · simp only [e3, q, false_and]
theorem cR_on (h : cR x f sz nx fi bg go be lc lim al dp wd z g) : onP bg nx fi = nI (zP x) := by
  unfold onP
  by_cases q : zP x = 0
  · rw [if_pos (h.2.2.2.2.2.1 q), q]; rfl
  · obtain ⟨s1, s2, _⟩ := h.2.2.2.2.2.2.1 q
    rw [s1, if_neg (by decide), s2]
    congr 1
    have := h.1
    omega
theorem cR_be (h : cR x f sz nx fi bg go be lc lim al dp wd z g) (hx : zP x ≤ nx ∧ nx < 2 ^ 30 ∧ zB x ≤ zP x) : be = -1 ↔ zB x = 0 := by
  rw [h.2.2.2.2.2.2.2.1]
  by_cases q : zB x = 0
  · rw [if_pos q]; simp [q]
  · rw [if_neg q]
    refine ⟨fun w => ?_, fun w => absurd w q⟩
    have h1 : ¬ nI (zB x) < 0 := nI_pos (by omega)
    rw [w] at h1
    exact absurd (by decide) h1
theorem cR_wgh (h : cR x f sz nx fi bg go be lc lim al dp wd z g) (b : ¬ bg = 0) (hc : 0 < zC x) (hx : nx < 2 ^ 30) (ho : zB x ≤ zP x) {kd : Int32} (hk : kd = f (nx * 8)) {b1 : Int32} {l1 : Int64}
    (eb : b1 = if bnw go (al - dp) z g = -1 ∨ (¬ be = -1 ∧ lc < cst (bnw go (al - dp) z g) (pen f nx kd)) then be else onP bg nx fi) (el : l1 = if bnw go (al - dp) z g = -1 ∨ (¬ be = -1 ∧ lc < cst (bnw go (al - dp) z g) (pen f nx kd)) then lc else cst (bnw go (al - dp) z g) (pen f nx kd)) :
    cR (wgh x) f sz nx fi bg go b1 l1 lim al dp wd z g := by
  have hp := cR_1 h b
  have hbe := cR_be h ⟨h.1, hx, ho⟩
  simp only [cR_bnw h b, cR_pen h hc hk, cR_on h, hbe, h.2.2.2.2.2.2.2.2] at eb
  simp only [cR_bnw h b, cR_pen h hc hk, hbe, h.2.2.2.2.2.2.2.2] at el
  obtain ⟨h1, h2, h3, h4, h5, h6, h7, h8, h9⟩ := h
  refine ⟨h1, h2, h3, h4, h5, h6, h7, ?_, el⟩
  show b1 = if (if noA x then zB x else zP x) = 0 then -1 else nI (if noA x then zB x else zP x)
  rw [eb]
  by_cases q : noA x
  · have q' : bnA x = -1 ∨ ¬zB x = 0 ∧ zO x < cst (bnA x) (peA x) := q
    rw [if_pos q', if_pos q, h8]
  · have q' : ¬ (bnA x = -1 ∨ ¬zB x = 0 ∧ zO x < cst (bnA x) (peA x)) := q
    rw [if_neg q', if_neg q, if_neg hp]
end CR
theorem ok_tak {x : ASt} (h : okS x) (hp : zP x ≠ 0) : okS (tak x) := by
  obtain ⟨a, b, c⟩ := h
  exact ⟨by show zP x + 1 ≠ 1; omega, b, by show zB x ≤ zP x + 1; omega⟩
theorem ok_wgh {x : ASt} (h : okS x) (hp : zP x ≠ 0) : okS (wgh x) := by
  obtain ⟨a, b, c⟩ := h
  refine ⟨a, ?_, ?_⟩
  · show (if noA x then zB x else zP x) ≠ 1
    split <;> assumption
  · show (if noA x then zB x else zP x) ≤ zP x
    split
    · exact c
    · exact Nat.le_refl _
theorem ok_drp {x : ASt} (h : okS x) (hp : zP x = 0) : okS (drp x) := by
  obtain ⟨a, b, c⟩ := h
  exact ⟨by show (0 : Nat) ≠ 1; decide, b, by show zB x ≤ 0; omega⟩
theorem ok_bgn (cf : Cf) (x : ASt) : okS (tak (bgn cf x)) := ⟨by show (1 + 1 : Nat) ≠ 1; decide, by show (0 : Nat) ≠ 1; decide, Nat.zero_le _⟩
theorem rea_tak {x : ASt} (hp : zP x ≠ 0) (hc : 0 < zC x) : rea (tak x) = rea x := by
  show zC x - 1 + (zP x + 1 - 1) = zC x + (zP x - 1)
  omega
theorem rea_drp {x : ASt} (hp : zP x = 0) : rea (drp x) ≤ rea x := by
  show zC x - 1 + (0 - 1) ≤ zC x + (zP x - 1)
  omega
theorem rea_bgn {cf : Cf} {x : ASt} (hp : zP x = 0) (hc : 0 < zC x) : rea (tak (bgn cf x)) = rea x := by
  show zC x - 1 + (1 + 1 - 1) = zC x + (zP x - 1)
  omega
theorem stp_drp {cf : Cf} {x : ASt} (h : ¬ sto x) (hp : zP x = 0) (hs : sol (zQ x 0 0) = 0) : drp x = stp cf x := by unfold stp; rw [if_neg h, if_pos hp, if_pos hs]
theorem stp_bgn {cf : Cf} {x : ASt} (h : ¬ sto x) (hp : zP x = 0) (hs : ¬ sol (zQ x 0 0) = 0) : tak (bgn cf x) = stp cf x := by unfold stp; rw [if_neg h, if_pos hp, if_neg hs]
theorem stp_tak {cf : Cf} {x : ASt} (h : ¬ sto x) (hp : ¬ zP x = 0) (hs : brA x = 0) : tak x = stp cf x := by unfold stp; rw [if_neg h, if_neg hp, if_pos hs]
theorem stp_wgh {cf : Cf} {x : ASt} (h : ¬ sto x) (hp : ¬ zP x = 0) (hs : ¬ brA x = 0) (he : ¬ enA x) : tak (wgh x) = stp cf x := by unfold stp; rw [if_neg h, if_neg hp, if_neg hs, if_neg he]
theorem stp_end {cf : Cf} {x : ASt} (h : ¬ sto x) (hp : ¬ zP x = 0) (hs : ¬ brA x = 0) (he : enA x) : fnA (wgh x) = stp cf x := by unfold stp; rw [if_neg h, if_neg hp, if_neg hs, if_pos he]
