/-! the reference's item -/
def msu (its : Nat → Nat) : Nat → Nat
  | 0 => 0
  | k + 1 => msu its k + its k
theorem msu_mono (its : Nat → Nat) {t k : Nat} (h : t ≤ k) : msu its t ≤ msu its k := by
  induction k with
  | zero => rw [Nat.le_zero.mp h]; exact Nat.le_refl _
  | succ k ih =>
    by_cases e : t = k + 1
    · rw [e]; exact Nat.le_refl _
    · exact Nat.le_trans (ih (by omega)) (by simp only [msu]; omega)
def mcl (k : Int32) (w : Int64) : Int32 := if 2147483647 < w then (2147483647 : Int64).toInt32 else if k = 5 ∧ w < -2147483647 then (-2147483647 : Int64).toInt32 else w.toInt32
def mvl (wh : Int32) (kd wi hi de : Nat → Int32) (mo : Nat → Int64) (a : Nat) : Int32 := if wh = 0 then kd a else if wh = 1 then mcl (kd a) ((wi a).toInt64 + mo a) else if wh = 2 then hi a else de a
theorem mit_nat {i : Int32} {n : Nat} (h1 : ¬ i < 0) (h2 : i < nI n) (hn : n < 100000) : ∃ j : Nat, j < n ∧ i = nI j := by
  obtain ⟨j, hj, e⟩ := nI_of h1
  refine ⟨j, ?_, e⟩
  subst e
  exact nc_lt (a := j) (b := n) h2 hj (by omega)
