/-! the reference's share held against the class's glue -/
theorem mcl_5 (v : Int64) : mcl 5 v = wth v := by
  unfold mcl wth miL maL
  have eM : (2147483647 : Int64).toInt = 2147483647 := rfl
  have em : (-2147483647 : Int64).toInt = -2147483647 := rfl
  by_cases q : 2147483647 < v
  · have q1 : ¬ v < 2147483647 := by rw [Int64.lt_iff_toInt_lt] at q ⊢; omega
    rw [if_pos q, if_neg q1, if_neg (by decide)]
  · rw [if_neg q]
    have e : (if v < 2147483647 then v else 2147483647) = v := by
      by_cases w : v < 2147483647
      · rw [if_pos w]
      · rw [if_neg w]
        rw [Int64.lt_iff_toInt_lt] at q w
        exact Int64.toInt_inj.mp (by omega)
    rw [e]
    by_cases w : v < -2147483647
    · rw [if_pos ⟨rfl, w⟩, if_pos w]
    · rw [if_neg (fun k => w k.2), if_neg w]
theorem mcl_w {k w : Int32} (h : k = 5 → -2147483647 ≤ w.toInt) : mcl k (w.toInt64 + 0) = w := by
  have hb := i32_b w
  have eM : (2147483647 : Int64).toInt = 2147483647 := rfl
  have em : (-2147483647 : Int64).toInt = -2147483647 := rfl
  unfold mcl
  rw [Int64.add_zero, if_neg (by rw [Int64.lt_iff_toInt_lt, Int32.toInt_toInt64]; omega), if_neg, Int32.toInt32_toInt64]
  rintro ⟨q1, q2⟩
  have := h q1
  rw [Int64.lt_iff_toInt_lt, Int32.toInt_toInt64] at q2
  omega
theorem ne_tie {a b : Int64} (h : 0 < b) : nea a b = mne a b := by
  unfold nea mne abL
  have e0 : (0 : Int64).toInt = 0 := rfl
  rw [if_pos h]
  by_cases q : a < 0
  · have q2 : ¬ 0 < a := by rw [Int64.lt_iff_toInt_lt] at q ⊢; omega
    rw [if_pos q, if_neg q2, if_pos q]
  · rw [if_neg q, if_neg q]
    by_cases w : 0 < a
    · rw [if_pos w]
    · have : a = 0 := by
        rw [Int64.lt_iff_toInt_lt] at q w
        exact Int64.toInt_inj.mp (by omega)
      rw [this]
      rfl
theorem flQ_at (Q : Rw) (i : Nat) {j : Nat} (hj : j < 8) : flQ Q (i * 8 + j) = Q i j := by
  unfold flQ
  rw [show (i * 8 + j) / 8 = i by omega, show (i * 8 + j) % 8 = j by omega]
theorem flQ_0 (Q : Rw) (i : Nat) : flQ Q (i * 8) = Q i 0 := flQ_at Q i (j := 0) (by decide)
theorem stG_o (f : Nat → Int32) (ex : Int64) (g : Nat → Int64) (z : Int64) (n i j : Nat) (h : j ≠ 1) (hj : j < 8) : stG f ex g z n (i * 8 + j) = f (i * 8 + j) := by
  unfold stG
  split
  · exact spF_o f _ _ _ n i j (Or.inl (by omega)) hj
  · split
    · exact spF_o f _ _ _ n i j (Or.inl (by omega)) hj
    · rfl
theorem spF_1 (Q : Rw) (ex sv : Int64) (o : Int32) {n i : Nat} (hi : i < n) : spF (flQ Q) ex sv o n (i * 8 + 1) = if Q i 0 = 5 then wth ((Q i 1).toInt64 + (nea (ex * spB (flQ Q) o (i + 1)) sv - nea (ex * spB (flQ Q) o i) sv)) else Q i 1 := by
  simp only [spF]
  rw [show (i * 8 + 1) / 8 = i by omega, show (i * 8 + 1) % 8 = 1 by omega, flQ_0, flQ_at Q i (by decide)]
  by_cases q : Q i 0 = 5
  · rw [if_pos ⟨rfl, hi, q⟩, if_pos q]
  · rw [if_neg (fun w => q w.2.2), if_neg q]
theorem ho_tie {g : Nat → Int64} (h : sg g) : (hiO g = -1 → g (mho g) = 0) ∧ (¬ hiO g = -1 → hiO g = nI (mho g) ∧ mho g < 4 ∧ 0 < g (mho g) ∧ soF g (hiO g) = g (mho g)) := by
  have e0 : (0 : Int64).toInt = 0 := rfl
  have nz : ∀ j, j < 4 → (¬ g j = 0 ↔ 0 < g j) := by
    intro j hj
    have := h j hj
    rw [Int64.lt_iff_toInt_lt, e0]
    constructor
    · intro q
      rcases Int.lt_or_eq_of_le this.1 with k | k
      · exact k
      · exact absurd (Int64.toInt_inj.mp (k.symm.trans e0.symm)) q
    · intro q w
      rw [w, e0] at q
      omega
  unfold hiO mho
  simp only [nz 3 (by decide), nz 2 (by decide), nz 1 (by decide)]
  by_cases q3 : 0 < g 3
  · simp only [q3, if_true]
    exact ⟨fun w => absurd w (by decide), fun _ => ⟨rfl, by decide, trivial, rfl⟩⟩
  · simp only [q3, if_false]
    by_cases q2 : 0 < g 2
    · simp only [q2, if_true]
      exact ⟨fun w => absurd w (by decide), fun _ => ⟨rfl, by decide, trivial, rfl⟩⟩
    · simp only [q2, if_false]
      by_cases q1 : 0 < g 1
      · simp only [q1, if_true]
        exact ⟨fun w => absurd w (by decide), fun _ => ⟨rfl, by decide, trivial, rfl⟩⟩
      · simp only [q1, if_false]
        by_cases q0 : 0 < g 0
        · simp only [q0, if_true]
          exact ⟨fun w => absurd w (by decide), fun _ => ⟨rfl, by decide, trivial, rfl⟩⟩
        · simp only [q0, if_false]
          refine ⟨fun _ => ?_, fun w => absurd trivial w⟩
          by_cases k : g 0 = 0
          · exact k
          · exact absurd ((nz 0 (by decide)).mp k) q0
theorem mho_c {g G : Nat → Int64} (h : ∀ j, j < 4 → G j = g j) : mho G = mho g ∧ G (mho G) = g (mho g) := by
  have e : mho G = mho g := by unfold mho; rw [h 3 (by decide), h 2 (by decide), h 1 (by decide)]
  refine ⟨e, ?_⟩
  rw [e]
  apply h
  unfold mho
  split
  · decide
  · split
    · decide
    · split <;> decide
section SHARE
variable {kd wi hi de sh od sk : Nat → Int32} {Q : Rw} {n : Nat}
theorem mB_g (hm : ∀ i, i < n → mIt kd wi hi de sh od sk (4200 + i) = Q i) {sv : Int64} (hs : 0 < sv) {oo : Nat} (ho : oo < 4) : ∀ t, t ≤ n → mB (amG kd od sh sv oo) 4200 t = spB (flQ Q) (nI oo) t
  | 0, _ => rfl
  | t + 1, ht => by
    have e0 : kd (4200 + t) = Q t 0 := congrFun (hm t (by omega)) 0
    have e6 : od (4200 + t) = Q t 6 := congrFun (hm t (by omega)) 6
    have e5 : (if kd (4200 + t) = 5 then sh (4200 + t) else 0) = Q t 5 := congrFun (hm t (by omega)) 5
    have hne : ¬ nI oo = -1 := by rcases (show oo = 0 ∨ oo = 1 ∨ oo = 2 ∨ oo = 3 by omega) with h | h | h | h <;> subst h <;> decide
    rw [mB, spB, mB_g hm hs ho t (by omega), flQ_0]
    simp only [amG, gG, shr, decide_eq_true_eq]
    rw [if_neg hne, flQ_at Q t (by decide), flQ_at Q t (by decide), ← e0, ← e6, ← e5]
    by_cases q : kd (4200 + t) = 5
    · rw [if_pos q, if_pos q]
      by_cases w : od (4200 + t) = nI oo
      · rw [if_pos ⟨q, hs, w⟩, if_pos w]
      · rw [if_neg (fun k => w k.2.2), if_neg w]
    · rw [if_neg (fun k => q k.1), if_neg q]
      exact Int64.add_zero _
theorem mB_s (hm : ∀ i, i < n → mIt kd wi hi de sh od sk (4200 + i) = Q i) {sv : Int64} (hs : 0 < sv) : ∀ t, t ≤ n → mB (amS kd sk sv) 4200 t = spB (flQ Q) (-1) t
  | 0, _ => rfl
  | t + 1, ht => by
    have e0 : kd (4200 + t) = Q t 0 := congrFun (hm t (by omega)) 0
    have e7 : sk (4200 + t) = Q t 7 := congrFun (hm t (by omega)) 7
    rw [mB, spB, mB_s hm hs t (by omega), flQ_0]
    simp only [amS, gS, shr, decide_eq_true_eq]
    rw [if_pos trivial, flQ_at Q t (by decide), ← e0, ← e7]
    by_cases q : kd (4200 + t) = 5
    · rw [if_pos q, if_pos ⟨q, hs⟩]
    · rw [if_neg (fun k => q k.1), if_neg q]
      exact Int64.add_zero _
theorem shM_at (mo : Nat → Int64) (gt : Nat → Bool) (am : Nat → Int32) (ev sv : Int64) {i : Nat} (hi : i < n) : shM mo gt am ev sv 4200 n (4200 + i) = if gt (4200 + i) = true then mne (ev * mB am 4200 (i + 1)) sv - mne (ev * mB am 4200 i) sv else 0 := by
  unfold shM
  rw [if_pos ⟨by omega, by omega⟩, show 4200 + i - 4200 = i by omega]
theorem share_tie {mo : Nat → Int64} {G : Nat → Int64} {ex z : Int64} {g : Nat → Int64} (hm : ∀ i, i < n → mIt kd wi hi de sh od sk (4200 + i) = Q i) (hw : ∀ i, i < n → wfI (Q i)) (hG : ∀ j, j < 4 → G j = g j) (hg : sg g) (hz : 0 ≤ z.toInt) {i : Nat} (hi9 : i < n) :
    mcl (kd (4200 + i)) ((wi (4200 + i)).toInt64 + (if 0 < ex then shM mo (gG kd od (G (mho G)) (mho G)) (amG kd od sh (G (mho G)) (mho G)) ex (G (mho G)) 4200 n else shM mo (gS kd z) (amS kd sk z) (if ex < -z then -z else ex) z 4200 n) (4200 + i)) = stG (flQ Q) ex g z n (i * 8 + 1) := by
  have e0 : kd (4200 + i) = Q i 0 := congrFun (hm i hi9) 0
  have e1 : wi (4200 + i) = Q i 1 := congrFun (hm i hi9) 1
  have e6 : od (4200 + i) = Q i 6 := congrFun (hm i hi9) 6
  have z0 : (0 : Int64).toInt = 0 := rfl
  obtain ⟨m1, m2⟩ := mho_c hG
  obtain ⟨o1, o2⟩ := ho_tie hg
  have hwd : Q i 0 = 5 → -2147483647 ≤ (Q i 1).toInt := fun q => (hw i hi9).2.1 (by rw [q]; decide)
  rw [m2, m1, e0, e1]
  unfold stG
  by_cases hx : 0 < ex
  · rw [if_pos hx, shM_at _ _ _ _ _ hi9]
    by_cases ho : hiO g = -1
    · have hnx : ¬ ex < 0 := by rw [Int64.lt_iff_toInt_lt] at hx ⊢; omega
      rw [if_neg (show ¬ (0 < ex ∧ ¬ hiO g = -1) from fun k => k.2 ho), if_neg hnx, flQ_at Q i (by decide)]
      rw [if_neg (by simp only [gG, decide_eq_true_eq]; rw [o1 ho]; exact fun k => absurd k.2.1 (by decide))]
      exact mcl_w hwd
    · obtain ⟨p1, p2, p3, p4⟩ := o2 ho
      rw [if_pos (show 0 < ex ∧ ¬ hiO g = -1 from ⟨hx, ho⟩), spF_1 Q _ _ _ hi9, p4, p1]
      by_cases q : Q i 0 = 5
      · rw [if_pos q, q, mcl_5, mB_g hm p3 p2 (i + 1) (by omega), mB_g hm p3 p2 i (by omega), ne_tie p3, ne_tie p3]
        by_cases w : Q i 6 = nI (mho g)
        · rw [if_pos (by simp only [gG, decide_eq_true_eq]; exact ⟨e0.trans q, p3, e6.trans w⟩)]
        · rw [if_neg (by simp only [gG, decide_eq_true_eq]; exact fun k => w (e6.symm.trans k.2.2))]
          have hne : ¬ nI (mho g) = -1 := by rw [← p1]; exact ho
          have es : spB (flQ Q) (nI (mho g)) (i + 1) = spB (flQ Q) (nI (mho g)) i := by
            rw [spB, flQ_0, if_pos q]
            simp only [shr]
            rw [if_neg hne, flQ_at Q i (by decide), if_neg w]
            exact Int64.add_zero _
          rw [es, Int64.sub_self]
      · rw [if_neg q, if_neg (by simp only [gG, decide_eq_true_eq]; exact fun k => q (e0.symm.trans k.1))]
        exact mcl_w (fun k => absurd k q)
  · rw [if_neg hx, if_neg (show ¬ (0 < ex ∧ ¬ hiO g = -1) from fun k => hx k.1), shM_at _ _ _ _ _ hi9]
    by_cases hn : ex < 0
    · rw [if_pos hn, spF_1 Q _ _ _ hi9]
      have em : (if ex < -z then -z else ex) = maL ex (-z) := by
        unfold maL
        by_cases q : ex < -z
        · have q2 : ¬ -z < ex := by rw [Int64.lt_iff_toInt_lt] at q ⊢; omega
          rw [if_pos q, if_neg q2]
        · rw [if_neg q]
          by_cases w : -z < ex
          · rw [if_pos w]
          · rw [if_neg w]
            rw [Int64.lt_iff_toInt_lt] at q w
            exact Int64.toInt_inj.mp (by omega)
      rw [em]
      by_cases q : Q i 0 = 5
      · rw [if_pos q, q, mcl_5]
        by_cases hz2 : 0 < z
        · rw [if_pos (by simp only [gS, decide_eq_true_eq]; exact ⟨e0.trans q, hz2⟩), mB_s hm hz2 (i + 1) (by omega), mB_s hm hz2 i (by omega), ne_tie hz2, ne_tie hz2]
        · rw [if_neg (by simp only [gS, decide_eq_true_eq]; exact fun k => hz2 k.2)]
          have : ∀ a, nea a z = 0 := fun a => if_neg hz2
          rw [this, this, Int64.sub_self]
      · rw [if_neg q, if_neg (by simp only [gS, decide_eq_true_eq]; exact fun k => q (e0.symm.trans k.1))]
        exact mcl_w (fun k => absurd k q)
    · have hx0 : ex = 0 := by
        rw [Int64.lt_iff_toInt_lt] at hx hn
        exact Int64.toInt_inj.mp (by omega)
      rw [if_neg hn, flQ_at Q i (by decide)]
      by_cases q : gS kd z (4200 + i) = true
      · rw [if_pos q]
        have hez : (if ex < -z then -z else ex) = 0 := by
          rw [hx0]
          by_cases w : (0 : Int64) < -z
          · rw [Int64.lt_iff_toInt_lt, Int64.toInt_neg, z0] at w
            have := Int64.toInt_lt z
            simp only [Int.bmod] at w
            split at w <;> omega
          · rw [if_neg w]
        rw [hez, Int64.zero_mul, Int64.zero_mul, Int64.sub_self]
        exact mcl_w hwd
      · rw [if_neg q]
        exact mcl_w hwd
end SHARE
