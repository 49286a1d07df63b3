section MYL
variable {p : Program} {l : Launch} {e : Env} {R : Room} {s : State} {m : MethodId} {args : Array Value} {below : List Frame} {meth : Method} {c : Code} {H : Heap} {locs : List Loc} {cells slots : Nat} {Q : State → Prop}
variable {cc : ByteArray} {pc : Nat} {ls : Array Slot} {rest : List Value}
/-- the top of the stack under another name -/
theorem my_topi {x y : Int32} (h : x = y) (k : W p l e R s m args below meth c H locs cells slots Q (F0 m pc ls (.int y :: rest))) : W p l e R s m args below meth c H locs cells slots Q (F0 m pc ls (.int x :: rest)) := h ▸ k
theorem my_topl {x y : Int64} (h : x = y) (k : W p l e R s m args below meth c H locs cells slots Q (F0 m pc ls (.long y :: rest))) : W p l e R s m args below meth c H locs cells slots Q (F0 m pc ls (.long x :: rest)) := h ▸ k
theorem lcmp_lt (x y : Int64) : lg_cmp x y < 0 ↔ x < y := by
  unfold lg_cmp
  by_cases h1 : y < x
  · have h2 : ¬ x < y := by rw [Int64.lt_iff_toInt_lt] at *; omega
    simp [h1, h2]
  · by_cases h2 : x = y
    · subst h2; simp
    · have h3 : x < y := by
        rw [Int64.lt_iff_toInt_lt] at *
        have h4 : x.toInt ≠ y.toInt := fun h => h2 (Int64.toInt_inj.mp h)
        omega
      simp [h1, h2, h3]
theorem lcmp_gt (x y : Int64) : 0 < lg_cmp x y ↔ y < x := by
  unfold lg_cmp
  by_cases h1 : y < x
  · simp [h1]
  · by_cases h2 : x = y
    · subst h2; simp
    · simp [h1, h2]
theorem lcmp_eq (x y : Int64) : lg_cmp x y = 0 ↔ x = y := by
  unfold lg_cmp
  by_cases h1 : y < x
  · have h2 : ¬ x = y := fun h => by subst h; rw [Int64.lt_iff_toInt_lt] at h1; omega
    simp [h1, h2]
  · by_cases h2 : x = y
    · subst h2; simp
    · simp [h1, h2]
theorem lcmp_ge (x y : Int64) : 0 ≤ lg_cmp x y ↔ ¬ x < y := by
  rw [← lcmp_lt, Int32.not_lt]
theorem lcmp_le (x y : Int64) : lg_cmp x y ≤ 0 ↔ ¬ y < x := by
  rw [← lcmp_gt, Int32.not_lt]
/-- lcmp and the branch behind it -/
theorem my_lif_lt {x y : Int64} {off : Int} {tgt : Nat} (hx : p.tables.exec = Jvm.exec) (hb : c.code = cc) (d1 : decode cc pc = .ok (.lcmp, 1)) (d2 : decode cc (pc + 1) = .ok (.ifCond .lt off, 3)) (ht : ((pc + 1 : Nat) : Int) + off = (tgt : Int)) (kt : x < y → W p l e R s m args below meth c H locs cells slots Q (F0 m tgt ls rest)) (kf : ¬ x < y → W p l e R s m args below meth c H locs cells slots Q (F0 m (pc + 1 + 3) ls rest)) : W p l e R s m args below meth c H locs cells slots Q (F0 m pc ls (.long y :: .long x :: rest)) :=
  W.lcmp hx hb d1 (lv_if_lt hx hb d2 ht (fun h => kt ((lcmp_lt x y).mp h)) (fun h => kf (fun g => h ((lcmp_lt x y).mpr g))))
theorem my_lif_ge {x y : Int64} {off : Int} {tgt : Nat} (hx : p.tables.exec = Jvm.exec) (hb : c.code = cc) (d1 : decode cc pc = .ok (.lcmp, 1)) (d2 : decode cc (pc + 1) = .ok (.ifCond .ge off, 3)) (ht : ((pc + 1 : Nat) : Int) + off = (tgt : Int)) (kt : ¬ x < y → W p l e R s m args below meth c H locs cells slots Q (F0 m tgt ls rest)) (kf : x < y → W p l e R s m args below meth c H locs cells slots Q (F0 m (pc + 1 + 3) ls rest)) : W p l e R s m args below meth c H locs cells slots Q (F0 m pc ls (.long y :: .long x :: rest)) :=
  W.lcmp hx hb d1 (lv_if_ge hx hb d2 ht (fun h => kt ((lcmp_ge x y).mp h)) (fun h => kf (Decidable.byContradiction fun g => h ((lcmp_ge x y).mpr g))))
theorem my_lif_gt {x y : Int64} {off : Int} {tgt : Nat} (hx : p.tables.exec = Jvm.exec) (hb : c.code = cc) (d1 : decode cc pc = .ok (.lcmp, 1)) (d2 : decode cc (pc + 1) = .ok (.ifCond .gt off, 3)) (ht : ((pc + 1 : Nat) : Int) + off = (tgt : Int)) (kt : y < x → W p l e R s m args below meth c H locs cells slots Q (F0 m tgt ls rest)) (kf : ¬ y < x → W p l e R s m args below meth c H locs cells slots Q (F0 m (pc + 1 + 3) ls rest)) : W p l e R s m args below meth c H locs cells slots Q (F0 m pc ls (.long y :: .long x :: rest)) :=
  W.lcmp hx hb d1 (lv_if_gt hx hb d2 ht (fun h => kt ((lcmp_gt x y).mp h)) (fun h => kf (fun g => h ((lcmp_gt x y).mpr g))))
theorem my_lif_le {x y : Int64} {off : Int} {tgt : Nat} (hx : p.tables.exec = Jvm.exec) (hb : c.code = cc) (d1 : decode cc pc = .ok (.lcmp, 1)) (d2 : decode cc (pc + 1) = .ok (.ifCond .le off, 3)) (ht : ((pc + 1 : Nat) : Int) + off = (tgt : Int)) (kt : ¬ y < x → W p l e R s m args below meth c H locs cells slots Q (F0 m tgt ls rest)) (kf : y < x → W p l e R s m args below meth c H locs cells slots Q (F0 m (pc + 1 + 3) ls rest)) : W p l e R s m args below meth c H locs cells slots Q (F0 m pc ls (.long y :: .long x :: rest)) :=
  W.lcmp hx hb d1 (lv_if_le hx hb d2 ht (fun h => kt ((lcmp_le x y).mp h)) (fun h => kf (Decidable.byContradiction fun g => h ((lcmp_le x y).mpr g))))
theorem my_lif_eq {x y : Int64} {off : Int} {tgt : Nat} (hx : p.tables.exec = Jvm.exec) (hb : c.code = cc) (d1 : decode cc pc = .ok (.lcmp, 1)) (d2 : decode cc (pc + 1) = .ok (.ifCond .eq off, 3)) (ht : ((pc + 1 : Nat) : Int) + off = (tgt : Int)) (kt : x = y → W p l e R s m args below meth c H locs cells slots Q (F0 m tgt ls rest)) (kf : ¬ x = y → W p l e R s m args below meth c H locs cells slots Q (F0 m (pc + 1 + 3) ls rest)) : W p l e R s m args below meth c H locs cells slots Q (F0 m pc ls (.long y :: .long x :: rest)) :=
  W.lcmp hx hb d1 (lv_if_eq hx hb d2 ht (fun h => kt ((lcmp_eq x y).mp h)) (fun h => kf (fun g => h ((lcmp_eq x y).mpr g))))
theorem my_lif_ne {x y : Int64} {off : Int} {tgt : Nat} (hx : p.tables.exec = Jvm.exec) (hb : c.code = cc) (d1 : decode cc pc = .ok (.lcmp, 1)) (d2 : decode cc (pc + 1) = .ok (.ifCond .ne off, 3)) (ht : ((pc + 1 : Nat) : Int) + off = (tgt : Int)) (kt : ¬ x = y → W p l e R s m args below meth c H locs cells slots Q (F0 m tgt ls rest)) (kf : x = y → W p l e R s m args below meth c H locs cells slots Q (F0 m (pc + 1 + 3) ls rest)) : W p l e R s m args below meth c H locs cells slots Q (F0 m pc ls (.long y :: .long x :: rest)) :=
  W.lcmp hx hb d1 (lv_if_ne hx hb d2 ht (fun h => kt (fun g => h ((lcmp_eq x y).mpr g))) (fun h => kf ((lcmp_eq x y).mp h)))
end MYL
/-! numbers: compares of nI -/
theorem nc_lt {a b : Nat} (h : nI a < nI b) (ha : a < 2147483648) (hb : b < 2147483648) : a < b := (nI_ltI ha hb).mp h
theorem nc_nlt {a b : Nat} (h : ¬ nI a < nI b) (ha : a < 2147483648) (hb : b < 2147483648) : b ≤ a := Nat.not_lt.mp fun g => h ((nI_ltI ha hb).mpr g)
theorem nc_le {a b : Nat} (h : nI a ≤ nI b) (ha : a < 2147483648) (hb : b < 2147483648) : a ≤ b := (nI_leI ha hb).mp h
theorem nc_nle {a b : Nat} (h : ¬ nI a ≤ nI b) (ha : a < 2147483648) (hb : b < 2147483648) : b < a := Nat.not_le.mp fun g => h ((nI_leI ha hb).mpr g)
theorem nc_eq {a b : Nat} (h : nI a = nI b) (ha : a < 2147483648) (hb : b < 2147483648) : a = b := (nI_eq ha hb).mp h
theorem nc_ne {a b : Nat} (h : ¬ nI a = nI b) (ha : a < 2147483648) (hb : b < 2147483648) : a ≠ b := fun g => h ((nI_eq ha hb).mpr g)
theorem nI_max (a b : Nat) (ha : a < 2147483648) (hb : b < 2147483648) : (if nI a < nI b then nI b else nI a) = nI (max a b) := by
  by_cases h : a < b
  · rw [if_pos ((nI_ltI ha hb).mpr h), Nat.max_eq_right (Nat.le_of_lt h)]
  · rw [if_neg (fun g => h ((nI_ltI ha hb).mp g)), Nat.max_eq_left (by omega)]
theorem nI_min (a b : Nat) (ha : a < 2147483648) (hb : b < 2147483648) : (if nI b < nI a then nI b else nI a) = nI (min a b) := by
  by_cases h : b < a
  · rw [if_pos ((nI_ltI hb ha).mpr h), Nat.min_eq_right (by omega)]
  · rw [if_neg (fun g => h ((nI_ltI hb ha).mp g)), Nat.min_eq_left (by omega)]
section MYA
variable {p : Program} {l : Launch} {e : Env} {R : Room} {s : State} {m : MethodId} {args : Array Value} {below : List Frame} {meth : Method} {c : Code} {H : Heap} {locs : List Loc} {cells slots : Nat} {Q : State → Prop}
variable {cc : ByteArray} {rt : Option FieldType} {nL : Nat} {own nm : String} {Ts : List Cond} {pc : Nat} {ls : Array Slot} {rest : List Value} {dC : Nat → ClassId} {dI : Nat → Nat → Nat} {cI cJ cO : ClassId} {A : Nat → Prop} {a : Nat} {ws : va_W} {H0 : Heap} {n k : Nat} {i : Int32}
/-- arrays at a place that is a natural number -/
theorem my_iald {f : Nat → Int32} (hx : p.tables.exec = Jvm.exec) (hb : c.code = cc) (hK : Kn dC dI cI cJ cO s) (hP : va_P (dC, dI) vwCl ws H) (q0 : Nat) (ha : ws[q0]? = some (a, .inl (cI, n, .inl f))) (hi : i = nI k) (hk : k < n) (hn : n < 2147483648) (hdg : decode cc pc = .ok (.iaload, 1))
    (kk : W p l e R s m args below meth c H locs cells slots Q (F0 m (pc + 1) ls (.int (f k) :: rest))) : W p l e R s m args below meth c H locs cells slots Q (F0 m pc ls (.int i :: .ref a :: rest)) := by
  subst hi
  refine va_iald hx hb hK.1 hP q0 0 ha rfl (vp_in_nI hk hn) hdg ?_
  rw [nI_clamp (by omega)]
  exact kk
theorem my_lald {f : Nat → Int64} (hx : p.tables.exec = Jvm.exec) (hb : c.code = cc) (hK : Kn dC dI cI cJ cO s) (hP : va_P (dC, dI) vwCl ws H) (q0 : Nat) (ha : ws[q0]? = some (a, .inl (cJ, n, .inr (.inl f)))) (hi : i = nI k) (hk : k < n) (hn : n < 2147483648) (hdg : decode cc pc = .ok (.laload, 1))
    (kk : W p l e R s m args below meth c H locs cells slots Q (F0 m (pc + 1) ls (.long (f k) :: rest))) : W p l e R s m args below meth c H locs cells slots Q (F0 m pc ls (.int i :: .ref a :: rest)) := by
  subst hi
  refine va_lald hx hb hK.1 hP q0 1 ha rfl (vp_in_nI hk hn) hdg ?_
  rw [nI_clamp (by omega)]
  exact kk
theorem my_aldq {f : Nat → Option Nat} (hx : p.tables.exec = Jvm.exec) (hb : c.code = cc) (hK : Kn dC dI cI cJ cO s) (hP : va_P (dC, dI) vwCl ws H) (q0 : Nat) (ha : ws[q0]? = some (a, .inl (cO, n, .inr (.inr (.inr (.inr f)))))) (hi : i = nI k) (hk : k < n) (hn : n < 2147483648) (hdg : decode cc pc = .ok (.aaload, 1))
    (kk : W p l e R s m args below meth c H locs cells slots Q (F0 m (pc + 1) ls (va_rf (f k) :: rest))) : W p l e R s m args below meth c H locs cells slots Q (F0 m pc ls (.int i :: .ref a :: rest)) := by
  subst hi
  refine va_aldq hx hb hK.1 hP q0 2 ha rfl (vp_in_nI hk hn) hdg ?_
  rw [nI_clamp (by omega)]
  exact kk
theorem my_iast {f : Nat → Int32} {x : Int32} (hx : p.tables.exec = Jvm.exec) (hb : c.code = cc) (hK : Kn dC dI cI cJ cO s) (hP : va_P (dC, dI) vwCl ws H) (hD : va_D A ws) (hS : va_S A H0 H locs) (q0 : Nat) (ha : ws[q0]? = some (a, .inl (cI, n, .inl f))) (hi : i = nI k) (hk : k < n) (hn : n < 2147483648) (hdg : decode cc pc = .ok (.iastore, 1))
    (kk : ∀ (H1 : Heap) (locs1 : List Loc), va_P (dC, dI) vwCl (ws.set q0 (a, .inl (cI, n, .inl (upd f k x)))) H1 → va_D A (ws.set q0 (a, .inl (cI, n, .inl (upd f k x)))) → va_S A H0 H1 locs1 → W p l e R s m args below meth c H1 locs1 cells slots Q (F0 m (pc + 1) ls rest)) : W p l e R s m args below meth c H locs cells slots Q (F0 m pc ls (.int x :: .int i :: .ref a :: rest)) := by
  subst hi
  refine va_iast hx hb hK.1 hP hD hS q0 0 ha rfl (vp_in_nI hk hn) hdg ?_
  rw [nI_clamp (by omega)]
  exact kk
theorem my_last {f : Nat → Int64} {x : Int64} (hx : p.tables.exec = Jvm.exec) (hb : c.code = cc) (hK : Kn dC dI cI cJ cO s) (hP : va_P (dC, dI) vwCl ws H) (hD : va_D A ws) (hS : va_S A H0 H locs) (q0 : Nat) (ha : ws[q0]? = some (a, .inl (cJ, n, .inr (.inl f)))) (hi : i = nI k) (hk : k < n) (hn : n < 2147483648) (hdg : decode cc pc = .ok (.lastore, 1))
    (kk : ∀ (H1 : Heap) (locs1 : List Loc), va_P (dC, dI) vwCl (ws.set q0 (a, .inl (cJ, n, .inr (.inl (vp_updL f k x))))) H1 → va_D A (ws.set q0 (a, .inl (cJ, n, .inr (.inl (vp_updL f k x))))) → va_S A H0 H1 locs1 → W p l e R s m args below meth c H1 locs1 cells slots Q (F0 m (pc + 1) ls rest)) : W p l e R s m args below meth c H locs cells slots Q (F0 m pc ls (.long x :: .int i :: .ref a :: rest)) := by
  subst hi
  refine va_last hx hb hK.1 hP hD hS q0 1 ha rfl (vp_in_nI hk hn) hdg ?_
  rw [nI_clamp (by omega)]
  exact kk
theorem my_cI (hK : Kn dC dI cI cJ cO s) {cA : ClassId} {tys : List (ClassId × FieldType)} (h : va_K (dC, dI) vwCl (tys ++ [(cA, .int)]) s) : cA = cI := by
  have h1 : s.vm.findClass ("[" ++ FieldType.int.toString) = some cA := (h.2 tys.length (cA, .int) (by simp)).2
  have h2 : s.vm.findClass ("[" ++ FieldType.int.toString) = some cI := (hK.1.2 0 (cI, .int) rfl).2
  exact Option.some.inj (h1.symm.trans h2)
theorem my_cJ (hK : Kn dC dI cI cJ cO s) {cA : ClassId} {tys : List (ClassId × FieldType)} (h : va_K (dC, dI) vwCl (tys ++ [(cA, .long)]) s) : cA = cJ := by
  have h1 : s.vm.findClass ("[" ++ FieldType.long.toString) = some cA := (h.2 tys.length (cA, .long) (by simp)).2
  have h2 : s.vm.findClass ("[" ++ FieldType.long.toString) = some cJ := (hK.1.2 1 (cJ, .long) rfl).2
  exact Option.some.inj (h1.symm.trans h2)
theorem my_newi {N : Nat} (X : Cx p s m args meth c cc rt nL own nm Ts) (hK : Kn dC dI cI cJ cO s) (hw : Cond.arrayClass .int ∈ Ts) (hP : va_P (dC, dI) vwCl ws H) (hD : va_D A ws) (hS : va_S A H0 H locs) (hA : ∀ q, H0.size ≤ q → A q) (hi : i = nI N) (hN : N < 2147483648) (hbytes : N * 4 ≤ 536870912) (hcells : cells + 1 ≤ R.cells) (hslots : slots + N ≤ R.slots) (hdg : decode cc pc = .ok (.newarray .int, 2))
    (kk : ∀ (q : Nat) (H1 : Heap), va_P (dC, dI) vwCl (ws ++ [(q, .inl (cI, N, .inl (fun _ => 0)))]) H1 → va_D A (ws ++ [(q, .inl (cI, N, .inl (fun _ => 0)))]) → va_S A H0 H1 locs → W p l e R s m args below meth c H1 locs (cells + 1) (slots + N) Q (F0 m (pc + 2) ls (.ref q :: rest))) : W p l e R s m args below meth c H locs cells slots Q (F0 m pc ls (.int i :: rest)) := by
  obtain ⟨hx, hb, -, -, hown, hts, -⟩ := X
  subst hi
  refine va_newa (atype := .int) (ty := .int) (N' := N) (a0 := (N, .inl (fun _ => 0))) hx hb (hts _ hw) rfl hK.1 hP hD hS hA (fun cA => by rw [vp_cell_i]; rfl) (nI_pos hN) (nI_clamp hN) hbytes hcells hslots hdg (fun q cA H1 hK1 hP1 hD1 hS1 => ?_)
  have hc := my_cI hK hK1
  subst hc
  exact kk q H1 hP1 hD1 hS1
theorem my_newl {N : Nat} (X : Cx p s m args meth c cc rt nL own nm Ts) (hK : Kn dC dI cI cJ cO s) (hw : Cond.arrayClass .long ∈ Ts) (hP : va_P (dC, dI) vwCl ws H) (hD : va_D A ws) (hS : va_S A H0 H locs) (hA : ∀ q, H0.size ≤ q → A q) (hi : i = nI N) (hN : N < 2147483648) (hbytes : N * 8 ≤ 536870912) (hcells : cells + 1 ≤ R.cells) (hslots : slots + N ≤ R.slots) (hdg : decode cc pc = .ok (.newarray .long, 2))
    (kk : ∀ (q : Nat) (H1 : Heap), va_P (dC, dI) vwCl (ws ++ [(q, .inl (cJ, N, .inr (.inl (fun _ => 0))))]) H1 → va_D A (ws ++ [(q, .inl (cJ, N, .inr (.inl (fun _ => 0))))]) → va_S A H0 H1 locs → W p l e R s m args below meth c H1 locs (cells + 1) (slots + N) Q (F0 m (pc + 2) ls (.ref q :: rest))) : W p l e R s m args below meth c H locs cells slots Q (F0 m pc ls (.int i :: rest)) := by
  obtain ⟨hx, hb, -, -, hown, hts, -⟩ := X
  subst hi
  refine va_newa (atype := .long) (ty := .long) (N' := N) (a0 := (N, .inr (.inl (fun _ => 0)))) hx hb (hts _ hw) rfl hK.1 hP hD hS hA (fun cA => by rw [vp_cell_l]; rfl) (nI_pos hN) (nI_clamp hN) hbytes hcells hslots hdg (fun q cA H1 hK1 hP1 hD1 hS1 => ?_)
  have hc := my_cJ hK hK1
  subst hc
  exact kk q H1 hP1 hD1 hS1
end MYA
section MYN
variable {p : Program} {l : Launch} {e : Env} {R : Room} {s : State} {m : MethodId} {args : Array Value} {below : List Frame} {meth : Method} {c : Code} {H : Heap} {locs : List Loc} {cells slots mc ms : Nat} {Q : State → Prop}
variable {cc : ByteArray} {rt : Option FieldType} {nL : Nat} {own nm : String} {Ts : List Cond} {pc index : Nat} {ls : Array Slot} {st0 rest : List Value} {dC : Nat → ClassId} {dI : Nat → Nat → Nat} {cI cJ cO : ClassId} {A : Nat → Prop} {a a0 : Nat} {ws wc wr F : va_W} {H0 : Heap} {w1 : Nat → va_W} {aa : Array Value}
/-- System.arraycopy of ints, places and number natural -/
theorem my_copyi {f g : Nat → Int32} {n0 n1 sp dp n : Nat} {spI dpI nI' : Int32} (X : Cx p s m args meth c cc rt nL own nm Ts) (hK : Kn dC dI cI cJ cO s) (hlink : Cond.methodLink own index arraycopyName ∈ Ts) (hnat : Cond.native arraycopyName ∈ Ts) (hstat : Cond.static arraycopyName ∈ Ts) (hini : Cond.initialized "java/lang/System" ∈ Ts)
    (hP : va_P (dC, dI) vwCl ws H) (hD : va_D A ws) (hS : va_S A H0 H locs) (q0 q1 : Nat) (ha0 : ws[q0]? = some (a0, .inl (cI, n0, .inl f))) (ha1 : ws[q1]? = some (a, .inl (cI, n1, .inl g))) (e1 : spI = nI sp) (e2 : dpI = nI dp) (e3 : nI' = nI n) (h4 : sp + n ≤ n0) (h5 : dp + n ≤ n1) (b0 : n0 < 2147483648) (b1 : n1 < 2147483648)
    (hframes : 1 ≤ R.frames) (hlocals : (rest.map fun v => v.category).sum + (nativeFrameWords "java/lang/System" "arraycopy" 5 + 11) ≤ R.locals) (hsize : ls.size = nL) (hdg : decode cc pc = .ok (.invokestatic index, 3))
    (kk : ∀ (H1 : Heap) (locs1 : List Loc), va_P (dC, dI) vwCl (ws.set q1 (a, .inl (cI, n1, .inl (va_cpy f g sp dp n)))) H1 → va_D A (ws.set q1 (a, .inl (cI, n1, .inl (va_cpy f g sp dp n)))) → va_S A H0 H1 locs1 → W p l e R s m args below meth c H1 locs1 cells slots Q (F0 m (pc + 3) ls rest)) : W p l e R s m args below meth c H locs cells slots Q (F0 m pc ls (.int nI' :: .int dpI :: .ref a :: .int spI :: .ref a0 :: rest)) := by
  obtain ⟨hx, hb, -, hml, hown, hts, -⟩ := X
  subst e1; subst e2; subst e3
  have k1 : (nI sp).toNatClampNeg = sp := nI_clamp (by omega)
  have k2 : (nI dp).toNatClampNeg = dp := nI_clamp (by omega)
  have k3 : (nI n).toNatClampNeg = n := nI_clamp (by omega)
  refine va_copyi hx hb (hml.trans hsize.symm) hown (hts _ hlink) (hts _ hnat) (hts _ hstat) (hts _ hini) hK.1 hP hD hS q0 q1 0 0 (ty := .int) ha0 ha1 rfl rfl rfl (nI_pos (by omega)) (nI_pos (by omega)) (nI_pos (by omega)) (by rw [k1, k3]; exact h4) (by rw [k2, k3]; exact h5) (fun _ _ => rfl) hframes hlocals hdg ?_
  rw [k1, k2, k3]
  exact kk
theorem my_aret {WSf : Nat → va_W} {v : Nat} (X : Cx p s m args meth c cc (some (.array .int)) nL own nm Ts) (hP : va_P (dC, dI) vwCl (WSf v) H) (hD : va_D A (WSf v)) (hS : va_S A s.heap H locs) (hc : cells ≤ mc) (hs : slots ≤ ms) (d : decode cc pc = .ok (.areturn, 1)) :
    W p l e R s m args below meth c H locs cells slots (MQ below (va_Qr (fun _ : Unit => True) (fun (_ : Unit) (ra : Nat) t => BW dC dI A (WSf ra) t) A) args s mc ms A) (F0 m pc ls [.ref v]) := by
  obtain ⟨hx, hb, hr, -, -, -, hlocks, -⟩ := X
  refine W.widen hc hs ?_
  exact W.aret (v := .ref v) (rt := .array .int) hx hb hr (Or.inr ⟨_, rfl⟩) (Or.inr ⟨_, rfl⟩) (fun t ht hW => ⟨⟨(), v, rfl, trivial, by rw [ht]; exact hP, hD⟩, hS.F ht⟩) hS.2.2 d
theorem my_callr (hr : va_Run p l e R s m args below meth c H locs cells slots mc ms (F0 m pc ls st0) rest (va_Qr (fun _ : Unit => True) (fun (_ : Unit) (ra : Nat) t => BW dC dI (va_A wc H.size) (w1 ra) t) (va_A wc H.size) aa) (va_A wc H.size)) (hS : va_S A H0 H locs) (hP : va_P (dC, dI) vwCl (ws ++ F) H) (hD : va_D A (ws ++ F)) (hA : ∀ q, H0.size ≤ q → A q) (isC isR : List Nat) (hC : isC.map (fun i => ws[i]?) = wc.map some) (hR : isR.map (fun i => ws[i]?) = wr.map some) (hn : va_nd isR = true) (hdis : ∀ i ∈ isR, i ∉ isC)
    (kk : ∀ (ra : Nat) (H1 : Heap) (locs1 : List Loc), va_P (dC, dI) vwCl ((wr ++ w1 ra) ++ F) H1 → va_D A ((wr ++ w1 ra) ++ F) → va_S A H0 H1 locs1 → W p l e R s m args below meth c H1 locs1 (cells + mc) (slots + ms) Q (F0 m (pc + 3) ls (.ref ra :: rest))) : W p l e R s m args below meth c H locs cells slots Q (F0 m pc ls st0) := by
  have hF := my_freeF hD hS hA isC hC
  refine va_callr hr hS (fun q _ h => hF q h) hF (fun u ra t H1 locs1 ht hvm hw hB hz1 hk1 hS1 => ?_)
  obtain ⟨hP1, hD1⟩ := hB
  rw [ht] at hP1
  obtain ⟨g1, g2⟩ := my_joinF hP hD isC isR hC hR hn hdis hk1 hF hP1 hD1
  exact kk ra H1 locs1 g1 g2 hS1
end MYN
section MYQ
variable {p : Program} {l : Launch} {e : Env} {R : Room} {s : State} {m : MethodId} {args : Array Value} {below : List Frame} {meth : Method} {c : Code} {H : Heap} {locs : List Loc} {cells slots mc ms : Nat} {Q : State → Prop}
variable {cc : ByteArray} {rt : Option FieldType} {nL : Nat} {own nm : String} {Ts : List Cond} {pc index : Nat} {ls : Array Slot} {st0 rest : List Value} {dC : Nat → ClassId} {dI : Nat → Nat → Nat} {cI cJ cO : ClassId} {A : Nat → Prop} {a v : Nat} {ws : va_W} {H0 : Heap} {n k N : Nat} {i : Int32} {aa : Array Value}
theorem my_cO (hK : Kn dC dI cI cJ cO s) {cA : ClassId} {tys : List (ClassId × FieldType)} (h : va_K (dC, dI) vwCl (tys ++ [(cA, .object "ColumnDesk$MadePage")]) s) : cA = cO := by
  obtain ⟨k1, c1, -, -, -, h1⟩ := (h.2 tys.length (cA, .object "ColumnDesk$MadePage") (by simp)).2
  obtain ⟨k2, c2, -, -, -, h2⟩ := (hK.1.2 2 (cO, .object "ColumnDesk$MadePage") rfl).2
  exact Option.some.inj (h1.symm.trans h2)
theorem my_newq (X : Cx p s m args meth c cc rt nL own nm Ts) (hK : Kn dC dI cI cJ cO s) (hw : Cond.classLink own index "ColumnDesk$MadePage" ∈ Ts) (hP : va_P (dC, dI) vwCl ws H) (hD : va_D A ws) (hS : va_S A H0 H locs) (hA : ∀ q, H0.size ≤ q → A q) (hi : i = nI N) (hN : N < 2147483648) (hbytes : N * 4 ≤ 536870912) (hcells : cells + 1 ≤ R.cells) (hslots : slots + N ≤ R.slots) (hdg : decode cc pc = .ok (.anewarray index, 3))
    (kk : ∀ (q : Nat) (H1 : Heap), va_P (dC, dI) vwCl (ws ++ [(q, .inl (cO, N, .inr (.inr (.inr (.inr (fun _ => none))))))]) H1 → va_D A (ws ++ [(q, .inl (cO, N, .inr (.inr (.inr (.inr (fun _ => none))))))]) → va_S A H0 H1 locs → W p l e R s m args below meth c H1 locs (cells + 1) (slots + N) Q (F0 m (pc + 3) ls (.ref q :: rest))) : W p l e R s m args below meth c H locs cells slots Q (F0 m pc ls (.int i :: rest)) := by
  obtain ⟨hx, hb, -, -, hown, hts, -⟩ := X
  subst hi
  refine va_newq (N' := N) hx hb hown (hts _ hw) hK.2.2.2 hK.1 hP hD hS hA (nI_pos hN) (nI_clamp hN) hbytes hcells hslots hdg (fun q cA H1 hK1 hP1 hD1 hS1 => ?_)
  have hc := my_cO hK hK1
  subst hc
  exact kk q H1 hP1 hD1 hS1
theorem my_astq {f : Nat → Option Nat} {vs : List Value} (hx : p.tables.exec = Jvm.exec) (hb : c.code = cc) (hK : Kn dC dI cI cJ cO s) (hP : va_P (dC, dI) vwCl ws H) (hD : va_D A ws) (hS : va_S A H0 H locs) (q0 qk : Nat) (ha : ws[q0]? = some (a, .inl (cO, n, .inr (.inr (.inr (.inr f)))))) (hv : ws[qk]? = some (v, .inr (1, vs))) (hi : i = nI k) (hk : k < n) (hn : n < 2147483648) (hdg : decode cc pc = .ok (.aastore, 1))
    (kk : ∀ (H1 : Heap) (locs1 : List Loc), va_P (dC, dI) vwCl (ws.set q0 (a, .inl (cO, n, .inr (.inr (.inr (.inr (va_up f k (some v)))))))) H1 → va_D A (ws.set q0 (a, .inl (cO, n, .inr (.inr (.inr (.inr (va_up f k (some v)))))))) → va_S A H0 H1 locs1 → W p l e R s m args below meth c H1 locs1 cells slots Q (F0 m (pc + 1) ls rest)) : W p l e R s m args below meth c H locs cells slots Q (F0 m pc ls (.ref v :: .int i :: .ref a :: rest)) := by
  subst hi
  refine va_astq (r := (RX1, TX1, 4)) hx hb hK.1 hP hD hS q0 2 qk 1 ha rfl hv rfl (vp_in_nI hk hn) hdg ?_
  rw [nI_clamp (by omega)]
  exact kk
theorem my_qretR {post : Option Nat → Prop} {r : Option Nat} {C : String} (X : Cx p s m args meth c cc (some (.object C)) nL own nm Ts) (hp : post r) (d : decode cc pc = .ok (.areturn, 1)) : W p l e R s m args below meth c s.heap [] 0 0 (MQ below (va_Sq post) args s 0 0 (fun _ => False)) (F0 m pc ls [va_rf r]) := by
  obtain ⟨hx, hb, hr, -, -, -, hlocks, -⟩ := X
  exact W.aret (v := va_rf r) hx hb hr (Or.inl ⟨_, rfl⟩) (va_rf_or r) (fun t ht hW => ⟨r, rfl, hp, ht⟩) (fun q h => by cases h) d
theorem my_rdq {post : Option Nat → Prop} (hr : va_Run p l e R s m args below meth c H locs cells slots 0 0 (F0 m pc ls st0) rest (va_Sq post aa) (fun _ => False)) (kk : ∀ r : Option Nat, post r → W p l e R s m args below meth c H locs cells slots Q (F0 m (pc + 3) ls (va_rf r :: rest))) : W p l e R s m args below meth c H locs cells slots Q (F0 m pc ls st0) := va_csq hr.run kk
theorem my_topq {r : Option Nat} (h : r = some v) (k : W p l e R s m args below meth c H locs cells slots Q (F0 m pc ls (.ref v :: rest))) : W p l e R s m args below meth c H locs cells slots Q (F0 m pc ls (va_rf r :: rest)) := by subst h; exact k
theorem my_topqN {r : Option Nat} (h : r = none) (k : W p l e R s m args below meth c H locs cells slots Q (F0 m pc ls (.null :: rest))) : W p l e R s m args below meth c H locs cells slots Q (F0 m pc ls (va_rf r :: rest)) := by subst h; exact k
end MYQ
