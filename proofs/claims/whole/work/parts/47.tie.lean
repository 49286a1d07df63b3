/-! numbers of the class held against the reference's -/
theorem ad64 {a b : Int64} (h1 : -9000000000000000000 ≤ a.toInt + b.toInt) (h2 : a.toInt + b.toInt ≤ 9000000000000000000) : (a + b).toInt = a.toInt + b.toInt := by
  rw [Int64.toInt_add]
  simp only [Int.bmod]
  split <;> omega
theorem sb64 {a b : Int64} (h1 : -9000000000000000000 ≤ a.toInt - b.toInt) (h2 : a.toInt - b.toInt ≤ 9000000000000000000) : (a - b).toInt = a.toInt - b.toInt := by
  rw [Int64.toInt_sub]
  simp only [Int.bmod]
  split <;> omega
theorem sub_tri (a b c : Int64) : a - b + (b - c) = a - c := by
  apply Int64.toInt_inj.mp
  rw [Int64.toInt_add, Int64.toInt_sub, Int64.toInt_sub, Int64.toInt_sub]
  simp only [Int.bmod_add_bmod, Int.add_bmod_bmod]
  congr 1
  omega
section FO
variable {m : Nat → Nat → Int32} {Q : Rw} {fr n : Nat}
theorem fo_A (h : ∀ i, i < n → m (fr + i) = Q i) : ∀ t, t ≤ n → foA m fr t = qoA Q t
  | 0, _ => rfl
  | t + 1, ht => by rw [foA, qoA, fo_A h t (by omega), h t (by omega)]
theorem fo_Z (h : ∀ i, i < n → m (fr + i) = Q i) : ∀ t, t ≤ n → foZ m fr t = qoZ Q t
  | 0, _ => rfl
  | t + 1, ht => by rw [foZ, qoZ, fo_Z h t (by omega), h t (by omega)]
theorem fo_W (h : ∀ i, i < n → m (fr + i) = Q i) : ∀ t, t ≤ n → foW m fr t = qoW Q t
  | 0, _ => rfl
  | t + 1, ht => by rw [foW, qoW, fo_W h t (by omega), h t (by omega)]
theorem fo_S (g : Nat → Int64) (h : ∀ i, i < n → m (fr + i) = Q i) : ∀ t, t ≤ n → ∀ j, j < 4 → foS (z4 g) m fr t j = qoS Q t j
  | 0, _, j, hj => by
    show z4 g j = 0
    rcases (show j = 0 ∨ j = 1 ∨ j = 2 ∨ j = 3 by omega) with h | h | h | h <;> subst h <;> rfl
  | t + 1, ht, j, hj => by
    rw [foS, qoS, h t (by omega)]
    exact tS_g (fo_S g h t (by omega)) _ j hj
theorem fo_D (h : ∀ i, i < n → m (fr + i) = Q i) {li : Int32} (hl : ¬ li < 0) : ∀ t, t ≤ n → mtD (foD m fr t) li = qoD li Q t ∧ ∀ al, mtT al (foD m fr t) li = al - qoD li Q t := by
  intro t ht
  have hl0 : ¬ li.toInt64 < 0 := by
    intro q
    apply hl
    rw [Int32.lt_iff_toInt_lt]
    rw [Int64.lt_iff_toInt_lt, Int32.toInt_toInt64] at q
    exact q
  have h0 : mtD 0 li = 0 ∧ ∀ al, mtT al 0 li = al - 0 := by
    unfold mtD mtT
    exact ⟨if_neg hl0, fun al => if_neg hl0⟩
  cases t with
  | zero => exact h0
  | succ t =>
    simp only [foD, qoD, tD]
    rw [h t (by omega)]
    by_cases q : Q t 0 = 2 ∨ Q t 0 = 4
    · rw [if_pos q, if_pos q]
      unfold mtD mtT miL
      by_cases w : li.toInt64 < (Q t 3).toInt64
      · rw [if_pos w]
        exact ⟨rfl, fun al => by rw [if_pos w]; exact sub_tri _ _ _⟩
      · rw [if_neg w]
        exact ⟨rfl, fun al => by rw [if_neg w]⟩
    · rw [if_neg q, if_neg q]
      exact h0
end FO
/-- how large the sums can be -/
theorem qoS_b {Q : Rw} {n : Nat} (h : ∀ i, i < n → wfI (Q i)) (hn : n ≤ 4000) : ∀ t, t ≤ n → ∀ j, j < 4 → 0 ≤ (qoS Q t j).toInt ∧ (qoS Q t j).toInt ≤ t * 1073741823
  | 0, _, j, _ => ⟨Int.le_refl _, by simp [qoS]⟩
  | t + 1, ht, j, hj => by
    have ih := qoS_b h hn t (by omega)
    have hw := (h t (by omega)).2.2.2.2.2.1
    unfold nnI at hw
    rw [qoS]
    unfold tS tkG
    split
    · split
      · rename_i q
        have hk := clamp4 q.1 q.2
        have i1 := ih _ hk
        have i2 := ih j hj
        simp only [vp_updL]
        split
        · rw [ad64 (by rw [Int32.toInt_toInt64]; omega) (by rw [Int32.toInt_toInt64]; omega), Int32.toInt_toInt64]
          constructor <;> omega
        · constructor <;> omega
      · have i2 := ih j hj
        constructor <;> omega
    · have i2 := ih j hj
      constructor <;> omega
theorem qoZ_b {Q : Rw} {n : Nat} (h : ∀ i, i < n → wfI (Q i)) (hn : n ≤ 4000) : ∀ t, t ≤ n → 0 ≤ (qoZ Q t).toInt ∧ (qoZ Q t).toInt ≤ t * 1073741823
  | 0, _ => ⟨Int.le_refl _, by simp [qoZ]⟩
  | t + 1, ht => by
    have ih := qoZ_b h hn t (by omega)
    have hw := (h t (by omega)).2.2.2.2.2.2.1
    unfold nnI at hw
    rw [qoZ]
    unfold tZ
    split
    · rw [ad64 (by rw [Int32.toInt_toInt64]; omega) (by rw [Int32.toInt_toInt64]; omega), Int32.toInt_toInt64]
      constructor <;> omega
    · constructor <;> omega
theorem i32_b (v : Int32) : -2147483648 ≤ v.toInt ∧ v.toInt ≤ 2147483647 := by
  have h1 := Int32.le_toInt v
  have h2 := Int32.toInt_lt v
  constructor <;> omega
theorem qoA_b {Q : Rw} {n : Nat} (h : ∀ i, i < n → wfI (Q i)) (hn : n ≤ 4000) : ∀ t, t ≤ n → -(t * 2147483648 : Int) ≤ (qoA Q t).toInt ∧ (qoA Q t).toInt ≤ t * 2147483648
  | 0, _ => ⟨by simp [qoA], by simp [qoA]⟩
  | t + 1, ht => by
    have ih := qoA_b h hn t (by omega)
    have h2 := (h t (by omega)).2.2.1
    have h3 := (h t (by omega)).2.2.2.1
    have h1 := i32_b (Q t 1)
    unfold szI at h2 h3
    rw [qoA]
    unfold tA
    split
    · have e1 : ((Q t 2).toInt64 + (Q t 3).toInt64).toInt = (Q t 2).toInt + (Q t 3).toInt := by
        rw [ad64 (by rw [Int32.toInt_toInt64, Int32.toInt_toInt64]; omega) (by rw [Int32.toInt_toInt64, Int32.toInt_toInt64]; omega), Int32.toInt_toInt64, Int32.toInt_toInt64]
      rw [ad64 (by rw [e1]; omega) (by rw [e1]; omega), e1]
      constructor <;> omega
    · split
      · rw [ad64 (by rw [Int32.toInt_toInt64]; omega) (by rw [Int32.toInt_toInt64]; omega), Int32.toInt_toInt64]
        constructor <;> omega
      · constructor <;> omega
theorem qoD_b {Q : Rw} {n : Nat} {li : Int32} (h : ∀ i, i < n → wfI (Q i)) (hl : nnI li) : ∀ t, t ≤ n → -1073741823 ≤ (qoD li Q t).toInt ∧ (qoD li Q t).toInt ≤ 1073741823
  | 0, _ => ⟨show -1073741823 ≤ (0 : Int64).toInt by decide, show (0 : Int64).toInt ≤ 1073741823 by decide⟩
  | t + 1, ht => by
    have h3 := (h t (by omega)).2.2.2.1
    unfold szI at h3
    unfold nnI at hl
    simp only [qoD, tD, miL]
    split
    · split
      · rw [Int32.toInt_toInt64]; constructor <;> omega
      · rw [Int32.toInt_toInt64]; constructor <;> omega
    · constructor <;> decide
theorem szL_D {Q : Rw} {n : Nat} {li : Int32} (h : ∀ i, i < n → wfI (Q i)) (hl : nnI li) : szL (qoD li Q n) = 1 := by
  have := qoD_b h hl n (Nat.le_refl _)
  unfold szL
  rw [if_neg]
  rintro (q | q)
  · rw [Int64.lt_iff_toInt_lt] at q
    have e : (-1073741823 : Int64).toInt = -1073741823 := rfl
    omega
  · rw [Int64.lt_iff_toInt_lt] at q
    have e : (1073741823 : Int64).toInt = 1073741823 := rfl
    omega
/-- badness and weight -/
theorem bd_fin : ∀ n : Fin 1291, ((Int64.ofNat n.1 * Int64.ofNat n.1 * Int64.ofNat n.1 + 131072) / 262144).toInt32.toInt64 = (Int64.ofNat n.1 * Int64.ofNat n.1 * Int64.ofNat n.1 + 131072) / 262144 ∧ 0 ≤ ((Int64.ofNat n.1 * Int64.ofNat n.1 * Int64.ofNat n.1 + 131072) / 262144).toInt32 ∧ ((Int64.ofNat n.1 * Int64.ofNat n.1 * Int64.ofNat n.1 + 131072) / 262144).toInt32 ≤ 10000 := by decide +kernel
theorem bd_tie {t s : Int64} (ht : 0 < t.toInt) (ht2 : t.toInt ≤ 10000000000000000) (hs : 0 ≤ s.toInt) : (mbd t s).toInt64 = bdn t s ∧ 0 ≤ mbd t s ∧ mbd t s ≤ 10000 := by
  have t0 : ¬ t = 0 := by intro q; rw [q] at ht; exact absurd ht (by decide)
  unfold mbd bdn
  rw [if_neg t0, if_neg t0]
  by_cases s0 : s = 0
  · rw [if_pos s0, if_neg (by rw [s0]; decide)]
    exact ⟨rfl, by decide, by decide⟩
  · have sp : 0 < s := by
      rw [Int64.lt_iff_toInt_lt]
      have e0 : (0 : Int64).toInt = 0 := rfl
      rcases Int.lt_or_eq_of_le hs with h | h
      · omega
      · exact absurd (Int64.toInt_inj.mp (h.symm.trans e0.symm)) s0
    rw [if_neg s0, if_pos sp]
    unfold bd1
    by_cases q : 1290 < 297 * t / s
    · rw [if_pos q, if_pos q]
      exact ⟨rfl, by decide, by decide⟩
    · rw [if_neg q, if_neg q]
      have e0 : (0 : Int64).toInt = 0 := rfl
      have e297 : (297 : Int64).toInt = 297 := rfl
      have e1290 : (1290 : Int64).toInt = 1290 := rfl
      have em : (297 * t).toInt = 297 * t.toInt := by
        rw [Int64.toInt_mul, e297]
        simp only [Int.bmod]
        split <;> omega
      have er : (297 * t / s).toInt = (297 * t.toInt).tdiv s.toInt := by
        rw [Int64.toInt_div_of_ne_right, em]
        intro w
        rw [w] at sp
        exact absurd sp (by decide)
      have r0 : 0 ≤ (297 * t / s).toInt := by rw [er]; exact Int.tdiv_nonneg (by omega) hs
      rw [Int64.lt_iff_toInt_lt, e1290] at q
      obtain ⟨n, hn, en⟩ : ∃ n : Nat, n < 1291 ∧ 297 * t / s = Int64.ofNat n := by
        refine ⟨(297 * t / s).toInt.toNat, by omega, ?_⟩
        apply Int64.toInt_inj.mp
        rw [Int64.toInt_ofNat_of_lt (by omega)]
        omega
      rw [en]
      exact bd_fin ⟨n, hn⟩
def sg (g : Nat → Int64) : Prop := ∀ j, j < 4 → 0 ≤ (g j).toInt ∧ (g j).toInt ≤ 10000000000000000
theorem hi_tie {g : Nat → Int64} (h : sg g) : hiO g ≤ 0 ↔ ¬ 0 < g 1 + g 2 + g 3 := by
  have h1 := h 1 (by decide)
  have h2 := h 2 (by decide)
  have h3 := h 3 (by decide)
  have e0 : (0 : Int64).toInt = 0 := rfl
  have e : (g 1 + g 2 + g 3).toInt = (g 1).toInt + (g 2).toInt + (g 3).toInt := by
    have e1 := ad64 (a := g 1) (b := g 2) (by omega) (by omega)
    rw [ad64 (by rw [e1]; omega) (by rw [e1]; omega), e1]
  rw [Int64.lt_iff_toInt_lt, e, e0]
  unfold hiO
  simp only [Int64.lt_iff_toInt_lt, e0]
  by_cases q3 : 0 < (g 3).toInt
  · rw [if_pos q3]
    exact ⟨fun w => absurd w (by decide), fun w => by omega⟩
  · rw [if_neg q3]
    by_cases q2 : 0 < (g 2).toInt
    · rw [if_pos q2]
      exact ⟨fun w => absurd w (by decide), fun w => by omega⟩
    · rw [if_neg q2]
      by_cases q1 : 0 < (g 1).toInt
      · rw [if_pos q1]
        exact ⟨fun w => absurd w (by decide), fun w => by omega⟩
      · rw [if_neg q1]
        refine ⟨fun _ => by omega, fun _ => ?_⟩
        split <;> decide
theorem wt_tie {go : Int32} {tot z : Int64} {g : Nat → Int64} (hg : sg g) (hz : 0 ≤ z.toInt) (h1 : -5000000000000000 ≤ tot.toInt) (h2 : tot.toInt ≤ 5000000000000000) : (mwt go tot z g).toInt64 = bnw go tot z g ∧ (bnw go tot z g = -1 ∨ (0 ≤ mwt go tot z g ∧ mwt go tot z g ≤ 10000)) := by
  have hb := i32_b go
  have e0 : (0 : Int64).toInt = 0 := rfl
  have hgo : go.toInt64.toInt = go.toInt := Int32.toInt_toInt64 go
  have es : (go.toInt64 - tot).toInt = go.toInt - tot.toInt := by rw [sb64 (by omega) (by omega), hgo]
  have es2 : (tot - go.toInt64).toInt = tot.toInt - go.toInt := by rw [sb64 (by omega) (by omega), hgo]
  unfold mwt bnw
  by_cases q : tot = go.toInt64
  · have q2 : ¬ go.toInt64 - tot < 0 := by rw [Int64.lt_iff_toInt_lt, es, e0, q, hgo]; omega
    have q3 : go.toInt64 - tot = 0 := by rw [q]; exact Int64.sub_self _
    rw [if_pos q, if_neg q2, q3]
    have q4 : bdn 0 (g 0) = 0 := if_pos rfl
    rw [q4]
    refine ⟨?_, Or.inr ⟨by decide, by decide⟩⟩
    split <;> rfl
  · rw [if_neg q]
    by_cases w : tot < go.toInt64
    · have w2 : ¬ go.toInt64 - tot < 0 := by rw [Int64.lt_iff_toInt_lt, es, e0]; rw [Int64.lt_iff_toInt_lt, hgo] at w; omega
      rw [if_pos w, if_neg w2]
      rw [Int64.lt_iff_toInt_lt, hgo] at w
      by_cases v : 0 < g 1 + g 2 + g 3
      · have v2 : ¬ hiO g ≤ 0 := fun k => (hi_tie hg).mp k v
        rw [if_pos v, if_neg v2]
        exact ⟨rfl, Or.inr ⟨by decide, by decide⟩⟩
      · have v2 : hiO g ≤ 0 := (hi_tie hg).mpr v
        rw [if_neg v, if_pos v2]
        obtain ⟨k1, k2, k3⟩ := bd_tie (t := go.toInt64 - tot) (s := g 0) (by rw [es]; omega) (by rw [es]; omega) (hg 0 (by decide)).1
        exact ⟨k1, Or.inr ⟨k2, k3⟩⟩
    · have w3 : go.toInt < tot.toInt := by
        rw [Int64.lt_iff_toInt_lt, hgo] at w
        rcases Int.lt_or_eq_of_le (Int.not_lt.mp w) with k | k
        · exact k
        · exact absurd (Int64.toInt_inj.mp (by rw [hgo]; exact k.symm)) q
      have w2 : go.toInt64 - tot < 0 := by rw [Int64.lt_iff_toInt_lt, es, e0]; omega
      rw [if_neg w, if_pos w2, Int64.neg_sub]
      by_cases v : z < tot - go.toInt64
      · rw [if_pos v, if_pos v]
        exact ⟨rfl, Or.inl rfl⟩
      · rw [if_neg v, if_neg v]
        obtain ⟨k1, k2, k3⟩ := bd_tie (t := tot - go.toInt64) (s := z) (by rw [es2]; omega) (by rw [es2]; omega) hz
        exact ⟨k1, Or.inr ⟨k2, k3⟩⟩
