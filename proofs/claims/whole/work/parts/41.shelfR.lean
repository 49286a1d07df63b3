/-! the pages kept, held against the machine; what a page made costs -/
def pgM (r : PRec) (p : PGE) : Prop := r.2.2.2.2.2.1 = p.1 ∧ (∀ i j, i < p.1 → j < 8 → r.2.2.2.2.1 (i * 8 + j) = p.2.1 i j) ∧ r.2.2.2.2.2.2.1 = p.2.2.1 ∧ r.2.2.2.2.2.2.2.1 = p.2.2.2.1 ∧ r.2.2.2.2.2.2.2.2 = p.2.2.2.2 ∧ p.1 ≤ r.2.2.2.1
def cH (x : ASt) (kp la : Nat) (em : Int32) (pf : Nat → Option Nat) (T : Nat → PRec) (ss : List Nat) : Prop := kp = zK x ∧ kp ≤ 8 ∧ la < 8 ∧ em = zE x ∧ ss.Nodup ∧ (∀ k, k ∈ ss → k < 8) ∧ pfOK pf T ss ∧ (∀ k, k ∈ ss → 8 ≤ (T k).2.2.2.1 ∧ (T k).2.2.2.1 ≤ 4001) ∧ ∀ k, k < kp → (la + 8 - k) % 8 ∈ ss ∧ pgM (T ((la + 8 - k) % 8)) (zF x k)
theorem nd_len : ∀ (n : Nat) (l : List Nat), l.Nodup → (∀ k, k ∈ l → k < n) → l.length ≤ n
  | 0, l, _, h => by
    cases l with
    | nil => exact Nat.le_refl _
    | cons a t => exact absurd (h a List.mem_cons_self) (Nat.not_lt_zero _)
  | n + 1, l, hn, h => by
    by_cases q : n ∈ l
    · have h1 := nd_len n (l.erase n) (hn.erase n) (fun k hk => by
        have h2 := h k (List.mem_of_mem_erase hk)
        have h3 : k ≠ n := fun e => by subst e; exact er_not hn hk
        omega)
      have h4 := List.length_erase_of_mem q
      omega
    · have h1 := nd_len n l hn (fun k hk => by
        have h2 := h k hk
        have h3 : k ≠ n := fun e => by subst e; exact q hk
        omega)
      omega
theorem mem_ke {K k : Nat} {ss : List Nat} (h : k ≠ K) : k ∈ K :: ss.erase K ↔ k ∈ ss := by
  rw [List.mem_cons, List.mem_erase_of_ne h]
  exact ⟨fun q => q.resolve_left h, Or.inr⟩
theorem nd_ke {K : Nat} {ss : List Nat} (h : ss.Nodup) : (K :: ss.erase K).Nodup := List.nodup_cons.mpr ⟨er_not h, h.erase K⟩
theorem ok_n {x : ASt} (h : okS x) (hp : zP x ≠ 0) : 2 ≤ fnN x ∧ fnN x ≤ zP x := by
  obtain ⟨a, b, c⟩ := h
  unfold fnN
  split <;> omega
theorem gms_le (n cap : Nat) (h : 8 ≤ cap) : gms n cap ≤ 18 * (n - 1) := by unfold gms; split <;> omega
theorem gmc_le (n cap : Nat) (h : 2 ≤ n) : gmc n cap ≤ n - 1 := by unfold gmc; split <;> omega
theorem rea_fnG {x : ASt} (h : okS x) (hp : zP x ≠ 0) : rea (fnG x) + (fnN x - 1) = rea x := by
  have := ok_n h hp
  show zP x + zC x - fnN x + (0 - 1) + (fnN x - 1) = zC x + (zP x - 1)
  omega
section PUT
variable {x : ASt} {kp la : Nat} {em : Int32} {pf : Nat → Option Nat} {T : Nat → PRec} {ss : List Nat}
theorem len_ke (h : cH x kp la em pf T ss) (K : Nat) (hK : K < 8) : (K :: ss.erase K).length ≤ 8 := nd_len 8 _ (nd_ke h.2.2.2.2.1) (fun k hk => by
  by_cases e : k = K
  · omega
  · exact h.2.2.2.2.2.1 k ((mem_ke e).mp hk))
theorem put_ms (h : cH x kp la em pf T ss) (ho : okS x) (hp : zP x ≠ 0) (K : Nat) (hK : K < 8) : pms K (fnN x) T ss + 70 * (8 - (K :: ss.erase K).length) + 18 * rea (fnG x) ≤ 70 * (8 - ss.length) + 18 * rea x := by
  have h1 := rea_fnG ho hp
  have h2 := ok_n ho hp
  have h3 := len_ke h K hK
  unfold pms
  by_cases q : K ∈ ss
  · rw [if_pos q, List.length_cons, List.length_erase_of_mem q]
    have h4 := gms_le (fnN x) _ (h.2.2.2.2.2.2.2.1 K q).1
    have h5 := List.length_pos_of_mem q
    omega
  · rw [er_none q, List.length_cons] at h3 ⊢
    rw [if_neg q]
    have h4 := gms_le (fnN x) 8 (Nat.le_refl _)
    omega
theorem put_mc (h : cH x kp la em pf T ss) (ho : okS x) (hp : zP x ≠ 0) (K : Nat) (hK : K < 8) : pmc K (fnN x) T ss + 3 * (8 - (K :: ss.erase K).length) + rea (fnG x) ≤ 3 * (8 - ss.length) + rea x := by
  have h1 := rea_fnG ho hp
  have h2 := ok_n ho hp
  have h3 := len_ke h K hK
  unfold pmc
  by_cases q : K ∈ ss
  · rw [if_pos q, List.length_cons, List.length_erase_of_mem q]
    have h4 := gmc_le (fnN x) (T K).2.2.2.1 h2.1
    have h5 := List.length_pos_of_mem q
    omega
  · rw [er_none q, List.length_cons] at h3 ⊢
    rw [if_neg q]
    have h4 := gmc_le (fnN x) 8 h2.1
    omega
theorem pcp_8 (h : cH x kp la em pf T ss) (K : Nat) : 8 ≤ pcp K T ss ∧ pcp K T ss ≤ 4001 := by
  unfold pcp
  by_cases q : K ∈ ss
  · rw [if_pos q]; exact h.2.2.2.2.2.2.2.1 K q
  · rw [if_neg q]; decide
theorem cH_put {xr : PRec} {pf1 : Nat → Option Nat} (h : cH x kp la em pf T ss) (e1 : pf1 = ppf pf ((la + 1) % 8) ss xr.1) (e2 : (la + 1) % 8 ∈ ss → xr.1 = (T ((la + 1) % 8)).1) (hm : pgM xr (pgA x)) (hc : 8 ≤ xr.2.2.2.1 ∧ xr.2.2.2.1 ≤ 4001) : cH (fnG x) (min 8 (kp + 1)) ((la + 1) % 8) (em + 1) pf1 (updT T ((la + 1) % 8) xr) ((la + 1) % 8 :: ss.erase ((la + 1) % 8)) := by
  obtain ⟨h1, h2, h3, h4, h5, h6, h7, h8, h9⟩ := h
  refine ⟨by rw [h1]; rfl, by omega, by omega, by rw [h4]; rfl, nd_ke h5, ?_, ?_, ?_, ?_⟩
  · intro k hk
    by_cases e : k = (la + 1) % 8
    · omega
    · exact h6 k ((mem_ke e).mp hk)
  · intro k hk
    rw [e1]
    by_cases e : k = (la + 1) % 8
    · rw [if_pos (by rw [e]; exact List.mem_cons_self), e]
      unfold ppf updT
      rw [if_pos rfl]
      by_cases q : (la + 1) % 8 ∈ ss
      · rw [if_pos q, h7 _ (by omega), if_pos q, e2 q]
      · rw [if_neg q, vup_same]
    · have h10 : (updT T ((la + 1) % 8) xr) k = T k := by unfold updT; rw [if_neg e]
      have h11 : ppf pf ((la + 1) % 8) ss xr.1 k = pf k := by
        unfold ppf
        by_cases q : (la + 1) % 8 ∈ ss
        · rw [if_pos q]
        · rw [if_neg q]; simp [va_up, e]
      rw [h10, h11, h7 k hk]
      by_cases q : k ∈ ss
      · rw [if_pos q, if_pos ((mem_ke e).mpr q)]
      · rw [if_neg q, if_neg (fun w => q ((mem_ke e).mp w))]
  · intro k hk
    unfold updT
    by_cases e : k = (la + 1) % 8
    · rw [if_pos e]; exact hc
    · rw [if_neg e]; exact h8 k ((mem_ke e).mp hk)
  · intro k hk
    by_cases e : k = 0
    · subst e
      have h10 : ((la + 1) % 8 + 8 - 0) % 8 = (la + 1) % 8 := by omega
      rw [h10]
      refine ⟨List.mem_cons_self, ?_⟩
      unfold updT
      rw [if_pos rfl]
      exact hm
    · have h10 : ((la + 1) % 8 + 8 - k) % 8 = (la + 8 - (k - 1)) % 8 := by omega
      have h11 : (la + 8 - (k - 1)) % 8 ≠ (la + 1) % 8 := by omega
      rw [h10]
      obtain ⟨q1, q2⟩ := h9 (k - 1) (by omega)
      refine ⟨(mem_ke h11).mpr q1, ?_⟩
      unfold updT
      rw [if_neg h11]
      show pgM _ (pcs (pgA x) (zF x) k)
      unfold pcs
      rw [if_neg e]
      exact q2
theorem cH_bad (h : cH x kp la em pf T ss) : cH (fnB x) 0 la em pf T ss := by
  obtain ⟨h1, h2, h3, h4, h5, h6, h7, h8, h9⟩ := h
  exact ⟨rfl, by decide, h3, h4, h5, h6, h7, h8, fun k hk => absurd hk (Nat.not_lt_zero _)⟩
theorem cH_to {y : ASt} (h : cH x kp la em pf T ss) (e1 : zK y = zK x) (e2 : zF y = zF x) (e3 : zE y = zE x) : cH y kp la em pf T ss := by
  unfold cH at h ⊢
  rw [e1, e2, e3]
  exact h
end PUT
section END
variable {x : ASt} {f : Nat → Int32} {sz nx fi : Nat} {bg go be : Int32} {lc : Int64} {lim : Int32} {al dp wd z : Int64} {g : Nat → Int64}
theorem cR_row (h : cR x f sz nx fi bg go be lc lim al dp wd z g) (hp : zP x ≠ 0) {t : Nat} (ht : t < zP x) : ∀ j, j < 8 → (fun j => f ((fi + t) * 8 + j)) j = zQ x t j := by
  intro j hj
  obtain ⟨s1, s2, _⟩ := h.2.2.2.2.2.2.1 hp
  rw [s2]
  exact h.2.2.2.2.1 t j (by omega) hj
theorem cR_fnG (h : cR x f sz nx fi bg go be lc lim al dp wd z g) (ho : okS x) (hp : zP x ≠ 0) : cR (fnG x) f sz (fi + fnN x) 0 0 go (-1) 0 lim al dp wd z g := by
  have hn := ok_n ho hp
  obtain ⟨h1, h2, h3, h4, h5, h6, h7, h8, h9⟩ := h
  obtain ⟨s1, s2, _⟩ := h7 hp
  refine ⟨Nat.zero_le _, by omega, ?_, Nat.zero_le _, ?_, fun _ => rfl, fun q => absurd rfl q, rfl, rfl⟩
  · show sz = fi + fnN x + (zP x + zC x - fnN x)
    omega
  · intro i j hi hj
    have hi : i < 0 + (zP x + zC x - fnN x) := hi
    show f ((fi + fnN x - 0 + i) * 8 + j) = zQ x (i + fnN x) j
    rw [← h5 (i + fnN x) j (by omega) hj]
    congr 2
    omega
theorem cR_fnB {f1 : Nat → Int32} : cR (fnB x) f1 1 1 0 0 go (-1) 0 lim al dp wd z g :=
  ⟨Nat.zero_le _, Nat.le_refl _, rfl, Nat.zero_le _, fun i j hi _ => absurd (show i < 0 + 0 from hi) (Nat.not_lt_zero _), fun _ => rfl, fun q => absurd rfl q, rfl, rfl⟩
theorem pg_mkd {xr : PRec} {cap0 : Nat} {g3 : Nat → Int64} (h : cR x f sz nx fi bg go be lc lim al dp wd z g) (ho : okS x) (hp : zP x ≠ 0) (h4 : fnN x ≤ 4001) (hg : ∀ j, j < 4 → g3 j = qoS (zQ x) (fnN x) j)
    (hm : mkd xr f fi (fi + fnN x) go g3 (qoZ (zQ x) (fnN x)) (qoA (zQ x) (fnN x)) (qoD lim (zQ x) (fnN x)) (qoW (zQ x) (fnN x)) cap0) : pgM xr (pgA x) := by
  have hn := ok_n ho hp
  obtain ⟨s1, s2, s3, s4, _⟩ := h.2.2.2.2.2.2.1 hp
  obtain ⟨m1, m2, m3, m4, m5, fc, m6, m7⟩ := hm
  have e : fi + fnN x - fi = fnN x := by omega
  rw [e] at m1 m2 m6 m7
  have hfl : ∀ j, j < fnN x * 8 → fc j = flQ (zQ x) j := by
    intro j hj
    rw [m6 j hj]
    have := cR_row h hp (t := j / 8) (by omega) (j % 8) (by omega)
    unfold flQ
    rw [← this]
    show f _ = f _
    congr 1
    omega
  refine ⟨m2, ?_, ?_, ?_, m5, ?_⟩
  · intro i j hi hj
    have hi : i < fnN x := hi
    rw [m7, s3, s4]
    exact stG_c hfl hg _ _ (i * 8 + j) (by omega)
  · rw [m3, s3]; rfl
  · rw [m4, s4]; rfl
  · rw [m1]; exact gcap_ge _ _ h4
end END
