/-! the reference's share: which glue gets, how much -/
def mB (am : Nat → Int32) (fr : Nat) : Nat → Int64
  | 0 => 0
  | t + 1 => mB am fr t + (am (fr + t)).toInt64
def shM (mo : Nat → Int64) (gt : Nat → Bool) (am : Nat → Int32) (ev sv : Int64) (fr t : Nat) : Nat → Int64 := fun j => if fr ≤ j ∧ j < fr + t then (if gt j = true then mne (ev * mB am fr (j - fr + 1)) sv - mne (ev * mB am fr (j - fr)) sv else 0) else mo j
def gG (kd od : Nat → Int32) (sv : Int64) (oo : Nat) (j : Nat) : Bool := decide (kd j = 5 ∧ 0 < sv ∧ od j = nI oo)
def amG (kd od sh : Nat → Int32) (sv : Int64) (oo : Nat) (j : Nat) : Int32 := if gG kd od sv oo j = true then sh j else 0
def gS (kd : Nat → Int32) (sv : Int64) (j : Nat) : Bool := decide (kd j = 5 ∧ 0 < sv)
def amS (kd sk : Nat → Int32) (sv : Int64) (j : Nat) : Int32 := if gS kd sv j = true then sk j else 0
def mho (g : Nat → Int64) : Nat := if ¬ g 3 = 0 then 3 else if ¬ g 2 = 0 then 2 else if ¬ g 1 = 0 then 1 else 0
theorem shM_0 (mo : Nat → Int64) (gt : Nat → Bool) (am : Nat → Int32) (ev sv : Int64) (fr : Nat) : shM mo gt am ev sv fr 0 = mo := by
  funext j
  simp only [shM]
  rw [if_neg (by omega)]
theorem shM_s (mo : Nat → Int64) (gt : Nat → Bool) (am : Nat → Int32) (ev sv : Int64) (fr t : Nat) (x : Int64) (h : x = if gt (fr + t) = true then mne (ev * mB am fr (t + 1)) sv - mne (ev * mB am fr t) sv else 0) : vp_updL (shM mo gt am ev sv fr t) (fr + t) x = shM mo gt am ev sv fr (t + 1) := by
  subst h
  funext j
  by_cases e : j = fr + t
  · subst e
    simp only [vp_updL, if_true, shM]
    rw [if_pos (show fr ≤ fr + t ∧ fr + t < fr + (t + 1) by omega), show fr + t - fr = t by omega]
  · simp only [vp_updL, if_neg e, shM]
    by_cases q : fr ≤ j ∧ j < fr + t
    · rw [if_pos q, if_pos (show fr ≤ j ∧ j < fr + (t + 1) by omega)]
    · rw [if_neg q, if_neg (show ¬ (fr ≤ j ∧ j < fr + (t + 1)) by omega)]
