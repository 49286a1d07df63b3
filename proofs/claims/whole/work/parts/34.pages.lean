/-! the pages kept: a record a slot: (page, row, array, cap, numbers, size, height, depth, width) -/
abbrev PRec : Type := Nat × Nat × Nat × Nat × (Nat → Int32) × Nat × Int32 × Int32 × Int32
def pcells (cI : ClassId) (x : PRec) : va_W := [(x.1, .inr (1, [.ref x.2.1, .int x.2.2.2.2.2.2.1, .int x.2.2.2.2.2.2.2.1, .int x.2.2.2.2.2.2.2.2])), (x.2.1, .inr (0, [.ref x.2.2.1, .int (nI x.2.2.2.2.2.1)])), (x.2.2.1, .inl (cI, x.2.2.2.1 * 8, .inl x.2.2.2.2.1))]
def pws (cI : ClassId) (T : Nat → PRec) (ss : List Nat) : va_W := ss.flatMap (fun k => pcells cI (T k))
theorem pws_get {D : va_G} {cl : List vw_C} {X : va_W} {cI : ClassId} {T : Nat → PRec} {ss : List Nat} {H : Heap} (h : va_P D cl (X ++ pws cI T ss) H) {k : Nat} (hk : k ∈ ss) : va_P D cl (pcells cI (T k)) H := by
  intro i q hq
  have hm : q ∈ X ++ pws cI T ss := List.mem_append_right _ (List.mem_flatMap.mpr ⟨k, hk, List.mem_of_getElem? hq⟩)
  obtain ⟨j, hj⟩ := List.getElem?_of_mem hm
  exact h j q hj
/-- the items of the pages kept, the latest first -/
def hsum (T : Nat → PRec) (la : Nat) : Nat → Nat
  | 0 => 0
  | k + 1 => hsum T la k + (T ((la + 8 - k) % 8)).2.2.2.2.2.1
theorem hsum_mono (T : Nat → PRec) (la : Nat) {t k : Nat} (h : t ≤ k) : hsum T la t ≤ hsum T la k := by
  induction k with
  | zero => rw [Nat.le_zero.mp h]; exact Nat.le_refl _
  | succ k ih =>
    by_cases e : t = k + 1
    · rw [e]; exact Nat.le_refl _
    · exact Nat.le_trans (ih (by omega)) (by simp only [hsum]; omega)
/-- the shelf's places hold the pages kept -/
def hOK (pf : Nat → Option Nat) (T : Nat → PRec) (ss : List Nat) (kp la : Nat) : Prop := ∀ k, k < kp → pf ((la + 8 - k) % 8) = some (T ((la + 8 - k) % 8)).1 ∧ (la + 8 - k) % 8 ∈ ss
