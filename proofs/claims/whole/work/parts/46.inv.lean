/-! what every state of the machine keeps -/
def psm (F : Nat → PGE) : Nat → Nat
  | 0 => 0
  | k + 1 => psm F k + ((F k).1 - 1)
theorem psm_pcs (p : PGE) (F : Nat → PGE) : ∀ k, psm (pcs p F) (k + 1) = (p.1 - 1) + psm F k
  | 0 => by simp [psm, pcs]
  | k + 1 => by
    rw [psm, psm_pcs p F k, psm]
    simp only [pcs, Nat.succ_ne_zero, if_false, Nat.add_sub_cancel]
    omega
theorem psm_mono (F : Nat → PGE) {t k : Nat} (h : t ≤ k) : psm F t ≤ psm F k := by
  induction k with
  | zero => rw [Nat.le_zero.mp h]; exact Nat.le_refl _
  | succ k ih =>
    by_cases e : t = k + 1
    · rw [e]; exact Nat.le_refl _
    · exact Nat.le_trans (ih (by omega)) (by simp only [psm]; omega)
def bnd (N : Nat) (x : ASt) : Prop := rea x + psm (zF x) (zK x) ≤ N ∧ zK x ≤ 8 ∧ ∀ k, k < zK x → 2 ≤ (zF x k).1
def szI (v : Int32) : Prop := -1073741823 ≤ v.toInt ∧ v.toInt ≤ 1073741823
def nnI (v : Int32) : Prop := 0 ≤ v.toInt ∧ v.toInt ≤ 1073741823
def wfI (it : Nat → Int32) : Prop := (it 0 = 2 ∨ it 0 = 4 ∨ it 0 = 5 ∨ it 0 = 6 ∨ it 0 = 7) ∧ (it 0 ≠ 7 → -2147483647 ≤ (it 1).toInt) ∧ szI (it 2) ∧ szI (it 3) ∧ szI (it 4) ∧ nnI (it 5) ∧ nnI (it 7) ∧ (it 0 = 5 → ¬ it 6 < 0 ∧ ¬ 4 ≤ it 6)
def cfK (cf : Cf) : Prop := nnI cf.2.1 ∧ szI cf.2.2.1 ∧ nnI cf.2.2.2.1 ∧ (¬ cf.2.2.2.2.1 < 0 ∧ ¬ 4 ≤ cf.2.2.2.2.1) ∧ nnI cf.2.2.2.2.2
def wfS (x : ASt) : Prop := (∀ i, i < zP x + zC x → wfI (zQ x i)) ∧ (zP x ≠ 0 → nnI (zL x))
def inv (N : Nat) (x : ASt) : Prop := okS x ∧ bnd N x ∧ wfS x
theorem szI_0 : szI 0 := ⟨by decide, by decide⟩
theorem nnI_0 : nnI 0 := ⟨by decide, by decide⟩
theorem wf_top {cf : Cf} {h : Int32} (hc : cfK cf) (hh : szI h) : wfI (top8 cf h) := by
  obtain ⟨c1, c2, c3, c4, c5⟩ := hc
  refine ⟨Or.inr (Or.inr (Or.inl rfl)), fun _ => ?_, szI_0, szI_0, szI_0, c3, c5, fun _ => c4⟩
  show -2147483647 ≤ (if (0 : Int32) < cf.2.2.1 - h then cf.2.2.1 - h else 0).toInt
  split
  · rename_i q
    rw [Int32.lt_iff_toInt_lt] at q
    have e0 : (0 : Int32).toInt = 0 := rfl
    omega
  · decide
theorem inv_tak {N : Nat} {x : ASt} (h : inv N x) (hp : zP x ≠ 0) (hc : 0 < zC x) : inv N (tak x) := by
  obtain ⟨h1, h2, h3⟩ := h
  refine ⟨ok_tak h1 hp, ⟨by rw [rea_tak hp hc]; exact h2.1, h2.2⟩, fun i hi => h3.1 i ?_, fun _ => h3.2 hp⟩
  have hi : i < zP x + 1 + (zC x - 1) := hi
  omega
theorem inv_wgh {N : Nat} {x : ASt} (h : inv N x) (hp : zP x ≠ 0) : inv N (wgh x) := ⟨ok_wgh h.1 hp, h.2.1, h.2.2⟩
theorem inv_drp {N : Nat} {x : ASt} (h : inv N x) (hp : zP x = 0) : inv N (drp x) := by
  obtain ⟨h1, h2, h3⟩ := h
  refine ⟨ok_drp h1 hp, ⟨Nat.le_trans (Nat.add_le_add_right (rea_drp hp) _) h2.1, h2.2⟩, fun i hi => h3.1 (i + 1) ?_, fun q => absurd rfl q⟩
  have hi : i < 0 + (zC x - 1) := hi
  omega
theorem inv_bgn {N : Nat} {cf : Cf} {x : ASt} (h : inv N x) (hcf : cfK cf) (hp : zP x = 0) (hc : 0 < zC x) : inv N (tak (bgn cf x)) := by
  obtain ⟨h1, h2, h3⟩ := h
  refine ⟨ok_bgn cf x, ⟨by rw [rea_bgn hp hc]; exact h2.1, h2.2⟩, fun i hi => ?_, fun _ => hcf.1⟩
  have hi : i < 1 + 1 + (zC x - 1) := hi
  show wfI (cns (top8 cf (zQ x 0 2)) (zQ x) i)
  unfold cns
  by_cases e : i = 0
  · rw [if_pos e]
    exact wf_top hcf (h3.1 0 (by omega)).2.2.1
  · rw [if_neg e]
    exact h3.1 (i - 1) (by omega)
theorem inv_fnG {N : Nat} {x : ASt} (h : inv N x) (hp : zP x ≠ 0) : inv N (fnG x) := by
  obtain ⟨h1, h2, h3⟩ := h
  have hn := ok_n h1 hp
  have hr := rea_fnG h1 hp
  refine ⟨ok_fnG x, ⟨?_, ?_, ?_⟩, fun i hi => h3.1 (i + fnN x) ?_, fun q => absurd rfl q⟩
  · show rea (fnG x) + psm (pcs (pgA x) (zF x)) (min 8 (zK x + 1)) ≤ N
    have e1 : psm (pcs (pgA x) (zF x)) (min 8 (zK x + 1)) ≤ (fnN x - 1) + psm (zF x) (zK x) := by
      by_cases q : zK x = 8
      · rw [q, show min 8 (8 + 1) = 7 + 1 from rfl, psm_pcs]
        have := psm_mono (zF x) (show 7 ≤ 8 by omega)
        show fnN x - 1 + _ ≤ _
        omega
      · rw [show min 8 (zK x + 1) = zK x + 1 by have := h2.2.1; omega, psm_pcs]
        exact Nat.le_refl _
    have := h2.1
    omega
  · show min 8 (zK x + 1) ≤ 8
    omega
  · intro k hk
    have hk : k < min 8 (zK x + 1) := hk
    show 2 ≤ (pcs (pgA x) (zF x) k).1
    unfold pcs
    by_cases e : k = 0
    · rw [if_pos e]; exact hn.1
    · rw [if_neg e]; exact h2.2.2 (k - 1) (by omega)
  · have hi : i < 0 + (zP x + zC x - fnN x) := hi
    omega
theorem inv_fnB {N : Nat} {x : ASt} : inv N (fnB x) := ⟨ok_fnB x, ⟨Nat.zero_le _, Nat.zero_le _, fun k hk => absurd hk (Nat.not_lt_zero _)⟩, fun i hi => absurd (show i < 0 + 0 from hi) (Nat.not_lt_zero _), fun q => absurd rfl q⟩
theorem inv_fnA {N : Nat} {x : ASt} (h : inv N x) (hp : zP x ≠ 0) : inv N (fnA x) := by
  unfold fnA
  split
  · exact inv_fnG h hp
  · exact inv_fnB
theorem sto_c {x : ASt} (h : ¬ sto x) : 0 < zC x := by
  rcases Nat.eq_zero_or_pos (zC x) with q | q
  · exact absurd (Or.inr (Or.inl q)) h
  · exact q
theorem inv_stp {N : Nat} {cf : Cf} {x : ASt} (hcf : cfK cf) (h : inv N x) : inv N (stp cf x) := by
  unfold stp
  by_cases q : sto x
  · rw [if_pos q]; exact h
  · have hc := sto_c q
    rw [if_neg q]
    by_cases hp : zP x = 0
    · rw [if_pos hp]
      split
      · exact inv_drp h hp
      · exact inv_bgn h hcf hp hc
    · rw [if_neg hp]
      split
      · exact inv_tak h hp hc
      · split
        · exact inv_fnA (inv_wgh h hp) hp
        · exact inv_tak (inv_wgh h hp) hp hc
theorem inv_itr {N : Nat} {cf : Cf} (hcf : cfK cf) : ∀ (n : Nat) (x : ASt), inv N x → inv N (itr cf n x)
  | 0, _, h => h
  | n + 1, x, h => inv_itr hcf n (stp cf x) (inv_stp hcf h)
theorem inv_rch {N : Nat} {cf : Cf} {x y : ASt} (hcf : cfK cf) (h : inv N x) (r : rch cf x y) : inv N y := by
  obtain ⟨n, rfl⟩ := r
  exact inv_itr hcf n x h
/-- the class's pages: how many items they hold -/
theorem hs_le {x : ASt} {kp la : Nat} {em : Int32} {pf : Nat → Option Nat} {T : Nat → PRec} {ss : List Nat} (h : cH x kp la em pf T ss) : ∀ k, k ≤ kp → hsum T la k ≤ psm (zF x) k + k
  | 0, _ => Nat.le_refl _
  | k + 1, hk => by
    have h1 := hs_le h k (by omega)
    obtain ⟨-, h2⟩ := h.2.2.2.2.2.2.2.2 k (by omega)
    simp only [hsum, psm]
    rw [h2.1]
    omega
theorem cH_hok {x : ASt} {kp la : Nat} {em : Int32} {pf : Nat → Option Nat} {T : Nat → PRec} {ss : List Nat} (h : cH x kp la em pf T ss) : hOK pf T ss kp la := by
  intro k hk
  obtain ⟨h1, -⟩ := h.2.2.2.2.2.2.2.2 k hk
  refine ⟨?_, h1⟩
  rw [h.2.2.2.2.2.2.1 _ (h.2.2.2.2.2.1 _ h1), if_pos h1]
