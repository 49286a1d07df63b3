/-! answers of the reference: sum, about -/
def msm (wh bes cos : Int32) (the : Nat) (tot dep shs : Int64) (g : Nat → Int64) : Int64 := if the = 0 then 0 else if wh = 0 then tot else if wh = 1 then dep else if wh = 2 then shs else if wh = 3 then g 0 else if wh = 4 then (if bes < 0 then 0 else cos.toInt64) else 0
def mok (k wh : Int32) (kep : Nat) : Prop := ¬ k < 0 ∧ ¬ nI kep ≤ k ∧ ¬ wh < 0 ∧ wh ≤ 3
theorem mok_nat {k : Int32} {kep : Nat} (h1 : ¬ k < 0) (h2 : ¬ nI kep ≤ k) (hk : kep ≤ 8) : ∃ kn : Nat, kn < kep ∧ k = nI kn := by
  obtain ⟨kn, hkn, e⟩ := nI_of h1
  refine ⟨kn, ?_, e⟩
  subst e
  exact nc_nle (a := kep) (b := kn) h2 (by omega) hkn
