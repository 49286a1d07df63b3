/-! cells in another order; a callee that takes the rest of the cells along -/
theorem pm_P {D : va_G} {cl : List vw_C} {ws ws' : va_W} {H : Heap} (h : va_P D cl ws H) (e : ws.Perm ws') : va_P D cl ws' H := by
  intro k q hq
  have hm : q ∈ ws := e.mem_iff.mpr (List.mem_of_getElem? hq)
  obtain ⟨j, hj⟩ := List.getElem?_of_mem hm
  exact h j q hj
theorem pm_iff {A : Nat → Prop} {ws : va_W} : va_D A ws ↔ (ws.map Prod.fst).Nodup ∧ ∀ q ∈ ws, A q.1 := by
  constructor
  · intro h
    refine ⟨?_, fun q hq => ?_⟩
    · rw [List.nodup_iff_pairwise_ne, List.pairwise_iff_getElem]
      intro i j hi hj hij heq
      rw [List.length_map] at hi hj
      rw [List.getElem_map, List.getElem_map] at heq
      have := h.1 i j _ _ (List.getElem?_eq_getElem hi) (List.getElem?_eq_getElem hj) heq
      omega
    · obtain ⟨k, hk⟩ := List.getElem?_of_mem hq
      exact h.2 k q hk
  · rintro ⟨h1, h2⟩
    refine ⟨fun i j x z hx hz hxz => ?_, fun k q hq => h2 q (List.mem_of_getElem? hq)⟩
    rw [List.nodup_iff_pairwise_ne, List.pairwise_iff_getElem] at h1
    obtain ⟨hi, ei⟩ := List.getElem?_eq_some_iff.mp hx
    obtain ⟨hj, ej⟩ := List.getElem?_eq_some_iff.mp hz
    rcases Nat.lt_trichotomy i j with h | h | h
    · exact absurd (by rw [List.getElem_map, List.getElem_map, ei, ej]; exact hxz) (h1 i j (by rw [List.length_map]; exact hi) (by rw [List.length_map]; exact hj) h)
    · exact h
    · exact absurd (by rw [List.getElem_map, List.getElem_map, ei, ej]; exact hxz.symm) (h1 j i (by rw [List.length_map]; exact hj) (by rw [List.length_map]; exact hi) h)
theorem pm_D {A : Nat → Prop} {ws ws' : va_W} (h : va_D A ws) (e : ws.Perm ws') : va_D A ws' := by
  rw [pm_iff] at h ⊢
  exact ⟨(e.map Prod.fst).nodup_iff.mp h.1, fun q hq => h.2 q (e.mem_iff.mpr hq)⟩
theorem pm_sw {w F c : va_W} : ((w ++ F) ++ c).Perm ((w ++ c) ++ F) := by
  rw [List.append_assoc, List.append_assoc]
  exact List.Perm.append_left w List.perm_append_comm
theorem my_idxF {ws wc F : va_W} (isC : List Nat) (hC : isC.map (fun i => ws[i]?) = wc.map some) : (isC ++ List.range' ws.length F.length).map (fun i => (ws ++ F)[i]?) = (wc ++ F).map some := by
  rw [List.map_append, List.map_append]
  congr 1
  · rw [← hC]
    apply List.map_congr_left
    intro i hi
    obtain ⟨k, hk⟩ := List.getElem?_of_mem hi
    have h1 : (isC.map (fun i => ws[i]?))[k]? = some (ws[i]?) := by rw [List.getElem?_map, hk]; rfl
    rw [hC, List.getElem?_map] at h1
    cases hw : wc[k]? with
    | none => rw [hw] at h1; cases h1
    | some q =>
      rw [hw] at h1
      have h2 : ws[i]? = some q := (Option.some.inj h1).symm
      exact List.getElem?_append_left (List.getElem?_eq_some_iff.mp h2).1
  · apply List.ext_getElem?
    intro k
    by_cases h : k < F.length
    · rw [List.getElem?_map, List.getElem?_map, List.getElem?_range' h]
      show some ((ws ++ F)[ws.length + 1 * k]?) = Option.map some F[k]?
      rw [List.getElem?_append_right (by omega), show ws.length + 1 * k - ws.length = k by omega, List.getElem?_eq_getElem h]
      rfl
    · rw [List.getElem?_eq_none (by rw [List.length_map, List.length_range']; omega), List.getElem?_eq_none (by rw [List.length_map]; omega)]
theorem my_idxlt {ws wr : va_W} {isR : List Nat} (hR : isR.map (fun i => ws[i]?) = wr.map some) : ∀ i ∈ isR, i < ws.length := by
  intro i hi
  obtain ⟨k, hk⟩ := List.getElem?_of_mem hi
  have h1 : (isR.map (fun i => ws[i]?))[k]? = some (ws[i]?) := by rw [List.getElem?_map, hk]; rfl
  rw [hR, List.getElem?_map] at h1
  cases hw : wr[k]? with
  | none => rw [hw] at h1; cases h1
  | some q =>
    rw [hw] at h1
    have h2 : ws[i]? = some q := (Option.some.inj h1).symm
    exact (List.getElem?_eq_some_iff.mp h2).1
theorem my_idxR {ws wr F : va_W} (isR : List Nat) (hR : isR.map (fun i => ws[i]?) = wr.map some) : isR.map (fun i => (ws ++ F)[i]?) = wr.map some := by
  rw [← hR]
  exact List.map_congr_left (fun i hi => List.getElem?_append_left (my_idxlt hR i hi))
theorem my_idxD {ws wr F : va_W} {isC isR : List Nat} (hR : isR.map (fun i => ws[i]?) = wr.map some) (hdis : ∀ i ∈ isR, i ∉ isC) : ∀ i ∈ isR, i ∉ isC ++ List.range' ws.length F.length := by
  intro i hi h
  rcases List.mem_append.mp h with h | h
  · exact hdis i hi h
  · have := my_idxlt hR i hi
    have h2 := List.mem_range'_1.mp h
    omega
section MYG
variable {p : Program} {l : Launch} {e : Env} {R : Room} {s : State} {m : MethodId} {args : Array Value} {below : List Frame} {meth : Method} {c : Code} {H : Heap} {locs : List Loc} {cells slots mc ms : Nat} {Q : State → Prop}
variable {pc : Nat} {ls : Array Slot} {st0 rest : List Value} {dC : Nat → ClassId} {dI : Nat → Nat → Nat} {A : Nat → Prop} {S : Type} {ws wc wr F : va_W} {w1 : S → va_W} {H0 : Heap} {a : Array Value}
theorem my_callvG {post : S → Prop} (hr : va_Run p l e R s m args below meth c H locs cells slots mc ms (F0 m pc ls st0) rest (va_Qv post (fun u t => BW dC dI (va_A (wc ++ F) H.size) (w1 u) t) (va_A (wc ++ F) H.size) a) (va_A (wc ++ F) H.size)) (hS : va_S A H0 H locs) (hP : va_P (dC, dI) vwCl (ws ++ F) H) (hD : va_D A (ws ++ F)) (hA : ∀ q, H0.size ≤ q → A q) (isC isR : List Nat) (hC : isC.map (fun i => ws[i]?) = wc.map some) (hR : isR.map (fun i => ws[i]?) = wr.map some) (hn : va_nd isR = true) (hdis : ∀ i ∈ isR, i ∉ isC)
    (kk : ∀ (u : S) (H1 : Heap) (locs1 : List Loc), post u → va_P (dC, dI) vwCl (wr ++ w1 u) H1 → va_D A (wr ++ w1 u) → va_S A H0 H1 locs1 → W p l e R s m args below meth c H1 locs1 (cells + mc) (slots + ms) Q (F0 m (pc + 3) ls rest)) : W p l e R s m args below meth c H locs cells slots Q (F0 m pc ls st0) :=
  my_callv (ws := ws ++ F) (F := []) (wc := wc ++ F) hr hS (by rw [List.append_nil]; exact hP) (by rw [List.append_nil]; exact hD) hA (isC ++ List.range' ws.length F.length) isR (my_idxF isC hC) (my_idxR isR hR) hn (my_idxD hR hdis) (fun u H1 locs1 hw hP1 hD1 hS1 => kk u H1 locs1 hw (by rw [List.append_nil] at hP1; exact hP1) (by rw [List.append_nil] at hD1; exact hD1) hS1)
theorem my_calliG {post : Int32 → S → Prop} (hr : va_Run p l e R s m args below meth c H locs cells slots mc ms (F0 m pc ls st0) rest (va_Qi post (fun u t => BW dC dI (va_A (wc ++ F) H.size) (w1 u) t) (va_A (wc ++ F) H.size) a) (va_A (wc ++ F) H.size)) (hS : va_S A H0 H locs) (hP : va_P (dC, dI) vwCl (ws ++ F) H) (hD : va_D A (ws ++ F)) (hA : ∀ q, H0.size ≤ q → A q) (isC isR : List Nat) (hC : isC.map (fun i => ws[i]?) = wc.map some) (hR : isR.map (fun i => ws[i]?) = wr.map some) (hn : va_nd isR = true) (hdis : ∀ i ∈ isR, i ∉ isC)
    (kk : ∀ (r : Int32) (u : S) (H1 : Heap) (locs1 : List Loc), post r u → va_P (dC, dI) vwCl (wr ++ w1 u) H1 → va_D A (wr ++ w1 u) → va_S A H0 H1 locs1 → W p l e R s m args below meth c H1 locs1 (cells + mc) (slots + ms) Q (F0 m (pc + 3) ls (.int r :: rest))) : W p l e R s m args below meth c H locs cells slots Q (F0 m pc ls st0) :=
  my_calli (ws := ws ++ F) (F := []) (wc := wc ++ F) hr hS (by rw [List.append_nil]; exact hP) (by rw [List.append_nil]; exact hD) hA (isC ++ List.range' ws.length F.length) isR (my_idxF isC hC) (my_idxR isR hR) hn (my_idxD hR hdis) (fun r u H1 locs1 hw hP1 hD1 hS1 => kk r u H1 locs1 hw (by rw [List.append_nil] at hP1; exact hP1) (by rw [List.append_nil] at hD1; exact hD1) hS1)
end MYG
/-- the pages' cells: one taken out, one put in -/
def updT (T : Nat → PRec) (k : Nat) (x : PRec) : Nat → PRec := fun j => if j = k then x else T j
theorem pws_cons (cI : ClassId) (T : Nat → PRec) (k : Nat) (ss : List Nat) : pws cI T (k :: ss) = pcells cI (T k) ++ pws cI T ss := by
  unfold pws
  rw [List.flatMap_cons]
theorem pws_upd {cI : ClassId} {T : Nat → PRec} {x : PRec} {k : Nat} : ∀ {ss : List Nat}, k ∉ ss → pws cI (updT T k x) ss = pws cI T ss
  | [], _ => rfl
  | a :: ss, h => by
    rw [pws_cons, pws_cons, pws_upd (fun q => h (List.mem_cons_of_mem _ q))]
    have : updT T k x a = T a := by
      unfold updT
      rw [if_neg]
      intro q
      exact h (by rw [q]; exact List.mem_cons_self)
    rw [this]
theorem pws_in {cI : ClassId} {T : Nat → PRec} {x : PRec} {k : Nat} {ss : List Nat} (h : k ∉ ss) : pws cI (updT T k x) (k :: ss) = pcells cI x ++ pws cI T ss := by
  rw [pws_cons, pws_upd h]
  unfold updT
  rw [if_pos rfl]
theorem pws_perm {cI : ClassId} {T : Nat → PRec} {ss ss' : List Nat} (h : ss.Perm ss') : (pws cI T ss).Perm (pws cI T ss') := by
  induction h with
  | nil => exact List.Perm.refl _
  | cons a _ ih => rw [pws_cons, pws_cons]; exact List.Perm.append_left _ ih
  | swap a b l =>
    rw [pws_cons, pws_cons, pws_cons, pws_cons, ← List.append_assoc, ← List.append_assoc]
    exact List.Perm.append_right _ List.perm_append_comm
  | trans _ _ h1 h2 => exact h1.trans h2
theorem pws_out {cI : ClassId} {T : Nat → PRec} {X : va_W} {k : Nat} {ss : List Nat} (h : k ∈ ss) : (X ++ pws cI T ss).Perm ((X ++ pcells cI (T k)) ++ pws cI T (ss.erase k)) := by
  rw [List.append_assoc, ← pws_cons]
  exact List.Perm.append_left X (pws_perm (List.perm_cons_erase h))
theorem er_not {k : Nat} {ss : List Nat} (h : ss.Nodup) : k ∉ ss.erase k := List.Nodup.not_mem_erase h
theorem er_none {k : Nat} {ss : List Nat} (h : k ∉ ss) : ss.erase k = ss := List.erase_of_not_mem h
