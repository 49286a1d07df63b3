/-! sums over items fr, fr + 1, .. (n of them), m i the i-th item's eight numbers -/
def mIt (kd wi hi de sh od sk : Nat → Int32) (i : Nat) : Nat → Int32 := it8 (kd i) (wi i) (hi i) (de i) (if kd i = 2 then sh i else 0) (if kd i = 5 then sh i else 0) (od i) (sk i)
def foA (m : Nat → Nat → Int32) (fr : Nat) : Nat → Int64
  | 0 => 0
  | n + 1 => tA (foA m fr n) (m (fr + n))
def foZ (m : Nat → Nat → Int32) (fr : Nat) : Nat → Int64
  | 0 => 0
  | n + 1 => tZ (foZ m fr n) (m (fr + n))
def foW (m : Nat → Nat → Int32) (fr : Nat) : Nat → Int64
  | 0 => 0
  | n + 1 => tW (foW m fr n) (m (fr + n))
def foS (g : Nat → Int64) (m : Nat → Nat → Int32) (fr : Nat) : Nat → Nat → Int64
  | 0 => g
  | n + 1 => tS (foS g m fr n) (m (fr + n))
def foD (m : Nat → Nat → Int32) (fr : Nat) : Nat → Int64
  | 0 => 0
  | n + 1 => if m (fr + n) 0 = 2 ∨ m (fr + n) 0 = 4 then (m (fr + n) 3).toInt64 else 0
def z4 (g : Nat → Int64) : Nat → Int64 := vp_updL (vp_updL (vp_updL (vp_updL g 0 0) 1 0) 2 0) 3 0
def mtT (al dp : Int64) (le : Int32) : Int64 := if le.toInt64 < dp then al - dp + (dp - le.toInt64) else al - dp
def mtD (dp : Int64) (le : Int32) : Int64 := if le.toInt64 < dp then le.toInt64 else dp
theorem mIt_0 (kd wi hi de sh od sk : Nat → Int32) (i : Nat) : mIt kd wi hi de sh od sk i 0 = kd i := rfl
theorem mIt_1 (kd wi hi de sh od sk : Nat → Int32) (i : Nat) : mIt kd wi hi de sh od sk i 1 = wi i := rfl
theorem mIt_2 (kd wi hi de sh od sk : Nat → Int32) (i : Nat) : mIt kd wi hi de sh od sk i 2 = hi i := rfl
theorem mIt_3 (kd wi hi de sh od sk : Nat → Int32) (i : Nat) : mIt kd wi hi de sh od sk i 3 = de i := rfl
theorem mIt_4 (kd wi hi de sh od sk : Nat → Int32) (i : Nat) : mIt kd wi hi de sh od sk i 4 = if kd i = 2 then sh i else 0 := rfl
theorem mIt_5 (kd wi hi de sh od sk : Nat → Int32) (i : Nat) : mIt kd wi hi de sh od sk i 5 = if kd i = 5 then sh i else 0 := rfl
theorem mIt_6 (kd wi hi de sh od sk : Nat → Int32) (i : Nat) : mIt kd wi hi de sh od sk i 6 = od i := rfl
theorem mIt_7 (kd wi hi de sh od sk : Nat → Int32) (i : Nat) : mIt kd wi hi de sh od sk i 7 = sk i := rfl
theorem maL_lt {a b : Int64} (h : a < b) : maL a b = b := by
  unfold maL
  rw [if_neg]
  intro q
  rw [Int64.lt_iff_toInt_lt] at h q
  omega
theorem maL_nlt {a b : Int64} (h : ¬ a < b) : maL a b = a := by
  unfold maL
  by_cases q : b < a
  · rw [if_pos q]
  · rw [if_neg q]
    have : a.toInt = b.toInt := by
      rw [Int64.lt_iff_toInt_lt] at h q
      omega
    exact (Int64.toInt_inj.mp this).symm
