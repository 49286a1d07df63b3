/-! pure words of the class's leaves -/
def szL (v : Int64) : Int32 := if v < (-1073741823) ∨ 1073741823 < v then 0 else 1
def sol (k : Int32) : Int32 := if k = 2 ∨ k = 4 then 1 else 0
def glu (w s o z : Int32) : Int32 := if szL w.toInt64 = 1 ∧ szL s.toInt64 = 1 ∧ ¬ s < 0 ∧ ¬ o < 0 ∧ ¬ 4 ≤ o ∧ szL z.toInt64 = 1 ∧ ¬ z < 0 then 1 else 0
def bd1 (r : Int64) : Int64 := if 1290 < r then 10000 else (r * r * r + 131072) / 262144
def bdn (t s : Int64) : Int64 := if t = 0 then 0 else if 0 < s then bd1 (297 * t / s) else 10000
def abL (a : Int64) : Int64 := if 0 < a then a else -a
def nea (a b : Int64) : Int64 := if 0 < b then (if a < 0 then -((2 * abL a + b) / (2 * b)) else (2 * abL a + b) / (2 * b)) else 0
theorem szL_01 (v : Int64) : szL v = 0 ∨ szL v = 1 := by unfold szL; split <;> simp
theorem glu_01 (w s o z : Int32) : glu w s o z = 0 ∨ glu w s o z = 1 := by unfold glu; split <;> simp
theorem sol_01 (k : Int32) : sol k = 0 ∨ sol k = 1 := by unfold sol; split <;> simp
theorem l2_ne {b : Int64} (h : 0 < b) : ¬ (2 : Int64) * b = 0 := by
  intro g
  have h1 := congrArg Int64.toInt g
  rw [Int64.toInt_mul] at h1
  rw [Int64.lt_iff_toInt_lt] at h
  have h2 := Int64.toInt_lt b
  have e0 : (0 : Int64).toInt = 0 := rfl
  have e2 : (2 : Int64).toInt = 2 := rfl
  rw [e0] at h
  rw [e0, e2] at h1
  simp only [Int.bmod] at h1
  split at h1 <;> omega
theorem lpos_ne {s : Int64} (h : 0 < s) : ¬ s = 0 := by
  intro g; subst g; exact absurd h (by decide)
/-- an item's eight numbers; a row of items with one of them written; eight places set to 0 one by one -/
def it8 (k w h d sh st o z : Int32) : Nat → Int32 := fun j => if j = 0 then k else if j = 1 then w else if j = 2 then h else if j = 3 then d else if j = 4 then sh else if j = 5 then st else if j = 6 then o else z
def ip (f : Nat → Int32) (i : Nat) (it : Nat → Int32) : Nat → Int32 := fun j => if j / 8 = i then it (j % 8) else f j
def zp (f : Nat → Int32) (i t : Nat) : Nat → Int32 := fun j => if j / 8 = i ∧ j % 8 < t then 0 else f j
theorem zp_0 (f : Nat → Int32) (i : Nat) : zp f i 0 = f := by funext j; simp [zp]
theorem zp_s (f : Nat → Int32) (i : Nat) {t : Nat} (ht : t < 8) : upd (zp f i t) (i * 8 + t) 0 = zp f i (t + 1) := by
  funext j
  by_cases h : j = i * 8 + t
  · have h1 : j / 8 = i := by omega
    have h2 : j % 8 = t := by omega
    simp [upd, zp, h, show (i * 8 + t) / 8 = i by omega, show (i * 8 + t) % 8 = t by omega]
  · have h1 : (j / 8 = i ∧ j % 8 < t) ↔ (j / 8 = i ∧ j % 8 < t + 1) := by omega
    simp only [upd, zp, if_neg h, h1]
theorem ip_plain (f : Nat → Int32) (i : Nat) (k w : Int32) : upd (upd (zp f i 8) (i * 8 + 0) k) (i * 8 + 1) w = ip f i (it8 k w 0 0 0 0 0 0) := by
  funext j
  by_cases h1 : j = i * 8 + 1
  · simp [upd, ip, it8, h1, show (i * 8 + 1) / 8 = i by omega, show (i * 8 + 1) % 8 = 1 by omega]
  · by_cases h0 : j = i * 8 + 0
    · simp [upd, ip, it8, h0, show (i * 8 + 0) / 8 = i by omega, show (i * 8 + 0) % 8 = 0 by omega]
    · simp only [upd, if_neg h1, if_neg h0, zp, ip, it8]
      by_cases h : j / 8 = i
      · have h2 : j % 8 < 8 := Nat.mod_lt _ (by decide)
        have h3 : j % 8 ≠ 0 := by omega
        have h4 : j % 8 ≠ 1 := by omega
        simp [h, h2, h3, h4]
      · simp [h]
theorem ip_upd (f : Nat → Int32) (i j0 : Nat) (hj : j0 < 8) (it : Nat → Int32) (x : Int32) : upd (ip f i it) (i * 8 + j0) x = ip f i (upd it j0 x) := by
  funext j
  by_cases h : j = i * 8 + j0
  · simp [upd, ip, h, show (i * 8 + j0) / 8 = i by omega, show (i * 8 + j0) % 8 = j0 by omega]
  · simp only [upd, ip, if_neg h]
    by_cases h1 : j / 8 = i
    · have h2 : j % 8 ≠ j0 := by omega
      simp [h1, h2]
    · simp [h1]
theorem it8_solid (k w h d sh : Int32) : upd (upd (upd (it8 k w 0 0 0 0 0 0) 2 h) 3 d) 4 sh = it8 k w h d sh 0 0 0 := by
  funext j
  simp only [upd, it8]
  by_cases h4 : j = 4
  · simp [h4]
  · by_cases h3 : j = 3
    · simp [h3]
    · by_cases h2 : j = 2
      · simp [h2]
      · simp [h2, h3, h4]
theorem it8_glue (w st o z : Int32) : upd (upd (upd (it8 5 w 0 0 0 0 0 0) 5 st) 6 o) 7 z = fun j => if j ≤ 7 then it8 5 w 0 0 0 st o z j else 0 := by
  funext j
  simp only [upd, it8]
  by_cases h7 : j = 7
  · simp [h7]
  · by_cases h6 : j = 6
    · simp [h6]
    · by_cases h5 : j = 5
      · simp [h5]
      · by_cases hl : j ≤ 7
        · have : j = 0 ∨ j = 1 ∨ j = 2 ∨ j = 3 ∨ j = 4 := by omega
          rcases this with h | h | h | h | h <;> subst h <;> simp
        · have h0 : j ≠ 0 := by omega
          have h1 : j ≠ 1 := by omega
          have h2 : j ≠ 2 := by omega
          have h3 : j ≠ 3 := by omega
          have h4 : j ≠ 4 := by omega
          simp [h0, h1, h2, h3, h4, h5, h6, h7, hl]
theorem ip_glue (f : Nat → Int32) (i : Nat) (w st o z : Int32) : upd (upd (upd (ip f i (it8 5 w 0 0 0 0 0 0)) (i * 8 + 5) st) (i * 8 + 6) o) (i * 8 + 7) z = ip f i (it8 5 w 0 0 0 st o z) := by
  rw [ip_upd _ _ _ (by decide), ip_upd _ _ _ (by decide), ip_upd _ _ _ (by decide), it8_glue]
  funext j
  simp only [ip]
  by_cases h : j / 8 = i
  · have h2 : j % 8 ≤ 7 := by omega
    simp [h, h2]
  · simp [h]
theorem ip_solid (f : Nat → Int32) (i : Nat) (k w h d sh : Int32) : upd (upd (upd (ip f i (it8 k w 0 0 0 0 0 0)) (i * 8 + 2) h) (i * 8 + 3) d) (i * 8 + 4) sh = ip f i (it8 k w h d sh 0 0 0) := by
  rw [ip_upd _ _ _ (by decide), ip_upd _ _ _ (by decide), ip_upd _ _ _ (by decide), it8_solid]
/-- the room of a row of items: cap items; what it grows to when n are asked for -/
def gcap (n cap : Nat) : Nat := if n ≤ cap then cap else min 4001 (max n (2 * cap))
def gmc (n cap : Nat) : Nat := if n ≤ cap then 0 else 1
def gms (n cap : Nat) : Nat := if n ≤ cap then 0 else 8 * min 4001 (max n (2 * cap))
theorem gcap_ge (n cap : Nat) (h : n ≤ 4001) : n ≤ gcap n cap := by unfold gcap; split <;> omega
theorem gcap_le (n cap : Nat) (h : cap ≤ 4001) : gcap n cap ≤ 4001 := by unfold gcap; split <;> omega
theorem gcap_mono (n cap : Nat) (h : cap ≤ 4001) : cap ≤ gcap n cap := by unfold gcap; split <;> omega
theorem i_ne {x k : Int32} (h : ¬ x = k) : x.toInt ≠ k.toInt := fun g => h (Int32.toInt_inj.mp g)
theorem ix4 {x : Int32} (h1 : ¬ x < 0) (h2 : ¬ 4 ≤ x) : ∃ j : Nat, j < 4 ∧ x = nI j := by
  obtain ⟨j, hj, e⟩ := nI_of h1
  refine ⟨j, ?_, e⟩
  subst e
  exact nc_nle (a := 4) (b := j) h2 (by decide) hj
/-- what an item does to the sums -/
def tkG (g : Nat → Int64) (it : Nat → Int32) : Nat → Int64 := if ¬ it 6 < 0 ∧ ¬ 4 ≤ it 6 then vp_updL g (it 6).toNatClampNeg (g (it 6).toNatClampNeg + (it 5).toInt64) else g
def miL (a b : Int64) : Int64 := if b < a then b else a
def maL (a b : Int64) : Int64 := if b < a then a else b
def tS (g : Nat → Int64) (it : Nat → Int32) : Nat → Int64 := if it 0 = 5 then tkG g it else g
def tZ (z : Int64) (it : Nat → Int32) : Int64 := if it 0 = 5 then z + (it 7).toInt64 else z
def tA (al : Int64) (it : Nat → Int32) : Int64 := if it 0 = 2 ∨ it 0 = 4 then al + ((it 2).toInt64 + (it 3).toInt64) else if it 0 = 5 ∨ it 0 = 6 then al + (it 1).toInt64 else al
def tD (lim : Int32) (it : Nat → Int32) : Int64 := if it 0 = 2 ∨ it 0 = 4 then miL (it 3).toInt64 lim.toInt64 else 0
def tW (wd : Int64) (it : Nat → Int32) : Int64 := if it 0 = 2 ∨ it 0 = 4 then maL wd ((it 1).toInt64 + (it 4).toInt64) else wd
/-- the highest order of which there is stretch; sizes -/
def hiO (g : Nat → Int64) : Int32 := if 0 < g 3 then 3 else if 0 < g 2 then 2 else if 0 < g 1 then 1 else if 0 < g 0 then 0 else -1
def arS (g : Nat → Int64) (tot z wd : Int64) : Int32 := if szL (g 0) = 1 ∧ szL (g 1) = 1 ∧ szL (g 2) = 1 ∧ szL (g 3) = 1 ∧ szL tot = 1 ∧ szL z = 1 ∧ szL wd = 1 then 1 else 0
def soF (g : Nat → Int64) (o : Int32) : Int64 := if ¬ o < 0 ∧ ¬ 4 ≤ o then g o.toNatClampNeg else 0
def bnw (goal : Int32) (tot z : Int64) (g : Nat → Int64) : Int64 := if goal.toInt64 - tot < 0 then (if z < -(goal.toInt64 - tot) then -1 else bdn (-(goal.toInt64 - tot)) z) else if hiO g ≤ 0 then bdn (goal.toInt64 - tot) (g 0) else 0
def cst (b : Int64) (q : Int32) : Int64 := if -10000 < q then (if b < 10000 then b + q.toInt64 else 100000) else q.toInt64
theorem b01n {x : Int32} (h : x = 0 ∨ x = 1) (g : ¬ x = 0) : x = 1 := h.resolve_left g
theorem my_cpy {f g : Nat → Int32} {sp n j : Nat} (h : j < n) : va_cpy f g sp 0 n j = f (sp + j) := pk_cpy_in (Nat.zero_le _) (by omega)
theorem soF_0 (g : Nat → Int64) : soF g 0 = g 0 := by simp [soF]
