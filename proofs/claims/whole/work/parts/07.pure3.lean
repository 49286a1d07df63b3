/-! the reference's leaves -/
def msz (v : Int32) : Int32 := if v < (-1073741823) ∨ 1073741823 < v then 0 else 1
theorem msz_01 (v : Int32) : msz v = 0 ∨ msz v = 1 := by unfold msz; split <;> simp
def mgl (w s o z : Int32) : Int32 := if msz w = 1 ∧ msz s = 1 ∧ msz z = 1 ∧ ¬ s < 0 ∧ ¬ z < 0 ∧ ¬ o < 0 ∧ ¬ 4 ≤ o then 1 else 0
theorem mgl_01 (w s o z : Int32) : mgl w s o z = 0 ∨ mgl w s o z = 1 := by unfold mgl; split <;> simp
def mbd (t s : Int64) : Int32 := if t = 0 then 0 else if s = 0 then 10000 else if 1290 < 297 * t / s then 10000 else ((297 * t / s * (297 * t / s) * (297 * t / s) + 131072) / 262144).toInt32
def mne (a b : Int64) : Int64 := if a < 0 then -((2 * (-a) + b) / (2 * b)) else (2 * a + b) / (2 * b)
def mwt (goal : Int32) (tot z : Int64) (g : Nat → Int64) : Int32 := if tot = goal.toInt64 then 0 else if tot < goal.toInt64 then (if 0 < g 1 + g 2 + g 3 then 0 else mbd (goal.toInt64 - tot) (g 0)) else if z < tot - goal.toInt64 then -1 else mbd (tot - goal.toInt64) z
def mpg (h d : Int32) : Int32 := if msz h = 1 ∧ msz d = 1 ∧ 0 ≤ d then 1 else 0
/-- a row moved down by one: the first c places -/
def shd (f : Nat → Int32) (t c : Nat) : Nat → Int32 := fun j => if j + 1 < t ∧ j + 1 < c then f (j + 1) else f j
def shdL (f : Nat → Int64) (t c : Nat) : Nat → Int64 := fun j => if j + 1 < t ∧ j + 1 < c then f (j + 1) else f j
theorem shd_1 (f : Nat → Int32) (c : Nat) : shd f 1 c = f := by funext j; simp [shd]
theorem shdL_1 (f : Nat → Int64) (c : Nat) : shdL f 1 c = f := by funext j; simp [shdL]
theorem shd_s (f : Nat → Int32) (t c : Nat) (h1 : 1 ≤ t) (h : t < c) : upd (shd f t c) (t - 1) (shd f t c t) = shd f (t + 1) c := by
  funext j
  by_cases e : j = t - 1
  · subst e
    have h2 : ¬ (t + 1 < t ∧ t + 1 < c) := by omega
    have h3 : t - 1 + 1 < t + 1 ∧ t - 1 + 1 < c := by omega
    simp only [upd, shd, if_true, if_neg h2, if_pos h3]
    rw [show t - 1 + 1 = t by omega]
  · simp only [upd, shd, if_neg e]
    by_cases q : j + 1 < t ∧ j + 1 < c
    · rw [if_pos q, if_pos (by omega)]
    · rw [if_neg q, if_neg (by omega)]
theorem shdL_s (f : Nat → Int64) (t c : Nat) (h1 : 1 ≤ t) (h : t < c) : vp_updL (shdL f t c) (t - 1) (shdL f t c t) = shdL f (t + 1) c := by
  funext j
  by_cases e : j = t - 1
  · subst e
    have h2 : ¬ (t + 1 < t ∧ t + 1 < c) := by omega
    have h3 : t - 1 + 1 < t + 1 ∧ t - 1 + 1 < c := by omega
    simp only [vp_updL, shdL, if_true, if_neg h2, if_pos h3]
    rw [show t - 1 + 1 = t by omega]
  · simp only [vp_updL, shdL, if_neg e]
    by_cases q : j + 1 < t ∧ j + 1 < c
    · rw [if_pos q, if_pos (by omega)]
    · rw [if_neg q, if_neg (by omega)]
/-- the sum of the pages' items, each with one more -/
def mal (its : Nat → Nat) : Nat → Nat
  | 0 => 0
  | k + 1 => mal its k + its k + 1
theorem updL_2 (f : Nat → Int64) (k : Nat) (x y : Int64) : vp_updL (vp_updL f k x) k y = vp_updL f k y := by
  funext j
  simp only [vp_updL]
  by_cases h : j = k
  · rw [if_pos h, if_pos h]
  · rw [if_neg h, if_neg h, if_neg h]
def mct (wh mad : Int32) (com the : Nat) (bes : Int32) : Int32 := if wh = 0 then mad else if wh = 1 then nI com else if wh = 2 then nI the else if wh = 3 then (if 0 ≤ bes then 1 else 0) else -1
def mbx (w h d s : Int32) : Int32 := if msz w = 1 ∧ msz h = 1 ∧ msz d = 1 ∧ msz s = 1 then 1 else 0
def mru (w h d : Int32) : Int32 := if msz w = 1 ∧ msz h = 1 ∧ msz d = 1 then 1 else 0
theorem mbx_01 (w h d s : Int32) : mbx w h d s = 0 ∨ mbx w h d s = 1 := by unfold mbx; split <;> simp
theorem mru_01 (w h d : Int32) : mru w h d = 0 ∨ mru w h d = 1 := by unfold mru; split <;> simp
theorem upd_if {c : Prop} [Decidable c] (f : Nat → Int32) (k : Nat) (x : Int32) (h : ¬ c) : f = (if c then upd f k x else f) := by rw [if_neg h]
theorem mal_mono (its : Nat → Nat) {t k : Nat} (h : t ≤ k) : mal its t ≤ mal its k := by
  induction k with
  | zero => rw [Nat.le_zero.mp h]; exact Nat.le_refl _
  | succ k ih =>
    by_cases e : t = k + 1
    · rw [e]; exact Nat.le_refl _
    · exact Nat.le_trans (ih (by omega)) (by simp only [mal]; omega)
