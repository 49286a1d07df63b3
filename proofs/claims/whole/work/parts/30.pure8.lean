/-! rows moved down by n, from lo on, up to the place t -/
def shn (f : Nat → Int32) (n lo t : Nat) : Nat → Int32 := fun j => if lo ≤ j ∧ j + n < t then f (j + n) else f j
def shnL (f : Nat → Int64) (n lo t : Nat) : Nat → Int64 := fun j => if lo ≤ j ∧ j + n < t then f (j + n) else f j
theorem shn_0 (f : Nat → Int32) (n lo : Nat) : shn f n lo (lo + n) = f := by
  funext j
  simp only [shn]
  rw [if_neg (by omega)]
theorem shnL_0 (f : Nat → Int64) (n lo : Nat) : shnL f n lo (lo + n) = f := by
  funext j
  simp only [shnL]
  rw [if_neg (by omega)]
theorem shn_s (f : Nat → Int32) (n lo t : Nat) (h : lo + n ≤ t) (hn : 1 ≤ n) : upd (shn f n lo t) (t - n) (shn f n lo t t) = shn f n lo (t + 1) := by
  funext j
  by_cases e : j = t - n
  · subst e
    have h2 : ¬ (lo ≤ t ∧ t + n < t) := by omega
    have h3 : lo ≤ t - n ∧ t - n + n < t + 1 := by omega
    simp only [upd, shn, if_true, if_neg h2, if_pos h3]
    rw [show t - n + n = t by omega]
  · simp only [upd, shn, if_neg e]
    by_cases q : lo ≤ j ∧ j + n < t
    · rw [if_pos q, if_pos (show lo ≤ j ∧ j + n < t + 1 by omega)]
    · rw [if_neg q, if_neg (show ¬ (lo ≤ j ∧ j + n < t + 1) by omega)]
theorem shnL_s (f : Nat → Int64) (n lo t : Nat) (h : lo + n ≤ t) (hn : 1 ≤ n) : vp_updL (shnL f n lo t) (t - n) (shnL f n lo t t) = shnL f n lo (t + 1) := by
  funext j
  by_cases e : j = t - n
  · subst e
    have h2 : ¬ (lo ≤ t ∧ t + n < t) := by omega
    have h3 : lo ≤ t - n ∧ t - n + n < t + 1 := by omega
    simp only [vp_updL, shnL, if_true, if_neg h2, if_pos h3]
    rw [show t - n + n = t by omega]
  · simp only [vp_updL, shnL, if_neg e]
    by_cases q : lo ≤ j ∧ j + n < t
    · rw [if_pos q, if_pos (show lo ≤ j ∧ j + n < t + 1 by omega)]
    · rw [if_neg q, if_neg (show ¬ (lo ≤ j ∧ j + n < t + 1) by omega)]
def shdN (f : Nat → Nat) (t c : Nat) : Nat → Nat := fun j => if j + 1 < t ∧ j + 1 < c then f (j + 1) else f j
theorem shdN_1 (f : Nat → Nat) (c : Nat) : shdN f 1 c = f := by funext j; simp [shdN]
theorem shdN_s (f : Nat → Nat) (t c : Nat) (h : t + 1 < c) : upd (fun k => nI (shdN f (t + 1) c k)) t (nI (shdN f (t + 1) c (t + 1))) = fun k => nI (shdN f (t + 1 + 1) c k) := by
  funext j
  by_cases e : j = t
  · subst e
    have h2 : ¬ (j + 1 + 1 < j + 1 ∧ j + 1 + 1 < c) := by omega
    have h3 : j + 1 < j + 1 + 1 ∧ j + 1 < c := by omega
    simp only [upd, shdN, if_true, if_neg h2, if_pos h3]
  · simp only [upd, shdN, if_neg e]
    by_cases q : j + 1 < t + 1 ∧ j + 1 < c
    · rw [if_pos q, if_pos (show j + 1 < t + 1 + 1 ∧ j + 1 < c by omega)]
    · rw [if_neg q, if_neg (show ¬ (j + 1 < t + 1 + 1 ∧ j + 1 < c) by omega)]
theorem shd_t (f : Nat → Int32) (t c : Nat) (h : t + 1 < c) : upd (shd f (t + 1) c) t (shd f (t + 1) c (t + 1)) = shd f (t + 1 + 1) c := shd_s f (t + 1) c (by omega) h
