/-! a page made: how its glue is set -/
def wth (v : Int64) : Int32 := (maL (-2147483647) (miL 2147483647 v)).toInt32
def shr (it : Nat → Int32) (od : Int32) : Int32 := if od = -1 then it 7 else if it 6 = od then it 5 else 0
def spB (f : Nat → Int32) (od : Int32) : Nat → Int64
  | 0 => 0
  | i + 1 => if f (i * 8) = 5 then spB f od i + (shr (fun j => f (i * 8 + j)) od).toInt64 else spB f od i
def spF (f : Nat → Int32) (ex sh : Int64) (od : Int32) (n : Nat) : Nat → Int32 := fun j => if j % 8 = 1 ∧ j / 8 < n ∧ f (j / 8 * 8) = 5 then wth ((f j).toInt64 + (nea (ex * spB f od (j / 8 + 1)) sh - nea (ex * spB f od (j / 8)) sh)) else f j
theorem spF_0 (f : Nat → Int32) (ex sh : Int64) (od : Int32) : spF f ex sh od 0 = f := by funext j; simp [spF]
theorem spF_o (f : Nat → Int32) (ex sh : Int64) (od : Int32) (n k j : Nat) (h : j % 8 ≠ 1 ∨ n ≤ k) (hj : j < 8) : spF f ex sh od n (k * 8 + j) = f (k * 8 + j) := by
  have h1 : (k * 8 + j) / 8 = k := by omega
  have h2 : (k * 8 + j) % 8 = j := by omega
  simp only [spF, h1, h2]
  rw [if_neg]
  intro q
  rcases h with h | h <;> omega
theorem spF_k (f : Nat → Int32) (ex sh : Int64) (od : Int32) (n k : Nat) : spF f ex sh od n (k * 8) = f (k * 8) := spF_o f ex sh od n k 0 (Or.inl (by decide)) (by decide)
theorem spF_sh (f : Nat → Int32) (ex sh : Int64) (od od2 : Int32) (n k : Nat) : shr (fun j => spF f ex sh od n (k * 8 + j)) od2 = shr (fun j => f (k * 8 + j)) od2 := by
  simp only [shr, spF_o f ex sh od n k 7 (Or.inl (by decide)) (by decide), spF_o f ex sh od n k 6 (Or.inl (by decide)) (by decide), spF_o f ex sh od n k 5 (Or.inl (by decide)) (by decide)]
theorem spF_n (f : Nat → Int32) (ex sh : Int64) (od : Int32) (n : Nat) (h : ¬ f (n * 8) = 5) : spF f ex sh od n = spF f ex sh od (n + 1) := by
  funext j
  simp only [spF]
  by_cases q : j % 8 = 1 ∧ j / 8 < n ∧ f (j / 8 * 8) = 5
  · rw [if_pos q, if_pos ⟨q.1, by omega, q.2.2⟩]
  · rw [if_neg q, if_neg]
    rintro ⟨q1, q2, q3⟩
    by_cases e : j / 8 = n
    · rw [e] at q3; exact h q3
    · exact q ⟨q1, by omega, q3⟩
theorem spF_y (f : Nat → Int32) (ex sh : Int64) (od : Int32) (n : Nat) (h : f (n * 8) = 5) : upd (spF f ex sh od n) (n * 8 + 1) (wth ((f (n * 8 + 1)).toInt64 + (nea (ex * spB f od (n + 1)) sh - nea (ex * spB f od n) sh))) = spF f ex sh od (n + 1) := by
  funext j
  by_cases e : j = n * 8 + 1
  · have h1 : j / 8 = n := by omega
    have h2 : j % 8 = 1 := by omega
    simp only [upd, if_pos e, spF]
    rw [if_pos ⟨h2, by omega, by rw [h1]; exact h⟩, h1, e]
  · simp only [upd, if_neg e, spF]
    by_cases q : j % 8 = 1 ∧ j / 8 < n ∧ f (j / 8 * 8) = 5
    · rw [if_pos q, if_pos ⟨q.1, by omega, q.2.2⟩]
    · rw [if_neg q, if_neg]
      rintro ⟨q1, q2, q3⟩
      by_cases e2 : j / 8 = n
      · omega
      · exact q ⟨q1, by omega, q3⟩
/-- the page's glue set, by the excess -/
def stG (f : Nat → Int32) (ex : Int64) (g : Nat → Int64) (z : Int64) (n : Nat) : Nat → Int32 :=
  if 0 < ex ∧ ¬ hiO g = -1 then spF f ex (soF g (hiO g)) (hiO g) n else if ex < 0 then spF f (maL ex (-z)) z (-1) n else f
def wgB (fits : Bool) (be : Int32) (lc co : Int64) : Bool := fits && (be == -1 || !(lc < co))
/-- Math.floorMod(x, 8) as the JDK does it -/
def my_fm (x : Int32) : Int32 := if 0 ≤ x ^^^ 8 then x - x / 8 * 8 else if x - x / 8 * 8 = 0 then x - x / 8 * 8 else x - x / 8 * 8 + 8
theorem my_fm_p : ∀ a, a < 9 → my_fm (nI a) = nI (a % 8) := by decide +kernel
theorem my_fm_m : ∀ a, a < 8 → ∀ b, b < 8 → my_fm (nI a - nI b) = nI ((a + 8 - b) % 8) := by decide +kernel
/-! the desk -/
def pgd (h d : Int32) : Int32 := if szL h.toInt64 = 1 ∧ szL d.toInt64 = 1 ∧ 0 ≤ d then 1 else 0
def brk (f : Nat → Int32) (nx sz : Nat) (kd : Int32) : Int32 := if kd = 5 then sol (f ((nx - 1) * 8)) else if kd = 6 then (if nx + 1 < sz ∧ f ((nx + 1) * 8) = 5 then 1 else 0) else if kd = 7 then (if 10000 ≤ f (nx * 8 + 1) then 0 else 1) else 0
theorem brk_01 (f : Nat → Int32) (nx sz : Nat) (kd : Int32) : brk f nx sz kd = 0 ∨ brk f nx sz kd = 1 := by
  unfold brk
  split
  · exact sol_01 _
  · split
    · split <;> simp
    · split
      · split <;> simp
      · simp
def pen (f : Nat → Int32) (nx : Nat) (kd : Int32) : Int32 := if kd = 7 then f (nx * 8 + 1) else 0
def onP (bg : Int32) (nx fi : Nat) : Int32 := if bg = 0 then 0 else nI (nx - fi)
def cnt (wh em : Int32) (nx sz fi : Nat) (bg be : Int32) : Int32 := if wh = 0 then em else if wh = 1 then nI (sz - nx) else if wh = 2 then onP bg nx fi else if wh = 3 then (if be = -1 then 0 else 1) else -1
def smL (wh bg be : Int32) (lc al dp z : Int64) (g : Nat → Int64) : Int64 := if bg = 0 then 0 else if wh = 0 then al - dp else if wh = 1 then dp else if wh = 2 then z else if wh = 3 then g 0 else if wh = 4 then (if be = -1 then 0 else lc) else 0
theorem nb01 {x : Int32} (h : x = 0 ∨ x = 1) : narrow .boolean (.int x) = .int x := by rcases h with h | h <;> subst h <;> rfl
