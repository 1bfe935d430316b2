theorem nI_p0 (a : Nat) : nI a + 0 = nI (a + 0) := by rw [Int32.add_zero]; rfl
theorem cnB_1 {q : Nat → Bool} {n : Nat} (h : q n = true) : cnB q (n + 1) = cnB q n + 1 := by
  show cnB q n + (if q n = true then 1 else 0) = _
  rw [if_pos h]
theorem cnB_0 {q : Nat → Bool} {n : Nat} (h : q n = false) : cnB q (n + 1) = cnB q n := by
  show cnB q n + (if q n = true then 1 else 0) = _
  rw [h]; rfl
theorem cnB_y {q : Nat → Bool} {x : Int32} {n : Nat} (hI : x = nI (cnB q n)) (h : q n = true) : x + 1 = nI (cnB q (n + 1)) := by
  rw [cnB_1 h, hI]; exact nI_1 _
theorem cnB_n {q : Nat → Bool} {x : Int32} {n : Nat} (hI : x = nI (cnB q n)) (h : q n = false) : x + 0 = nI (cnB q (n + 1)) := by
  rw [cnB_0 h, hI]; exact nI_p0 _
theorem cnQ_y {q : Nat → Bool} {x : Int32} {a n : Nat} (hI : x = nI (a + cnB q n)) (h : q n = true) : x + 1 = nI (a + cnB q (n + 1)) := by
  rw [cnB_1 h, hI]; exact nI_1 _
theorem cnQ_n {q : Nat → Bool} {x : Int32} {a n : Nat} (hI : x = nI (a + cnB q n)) (h : q n = false) : x + 0 = nI (a + cnB q (n + 1)) := by
  rw [cnB_0 h, hI]; exact nI_p0 _
def r_becs (g : S2) (t u : Nat) : Nat → S2
  | 0 => u2 (u2 g t 0 (g u 0)) t 1 (g u 1)
  | n + 1 => ur (r_becs g t u n) (t + (n + 1)) (va_cpy (r_becs g t u n (u + (n + 1))) (r_becs g t u n (t + (n + 1))) 0 0 (alen (t + (n + 1))))
theorem alen_tu {t u r : Nat} (ht : isT t) (hu : isT u) (h1 : 1 ≤ r) (h2 : r < 14) : alen (u + r) = alen (t + r) := by
  rcases (by omega : r = 1 ∨ (2 ≤ r ∧ r < 6) ∨ 6 ≤ r) with rfl | h | h
  · rw [alen_1 ht, alen_1 hu]
  · rw [alen_6 ht h.1 h.2, alen_6 hu h.1 h.2]
  · rw [alen_50 ht h h2, alen_50 hu h h2]
theorem alen_le {i : Nat} : alen i ≤ 2048 := by
  unfold alen; split <;> (try split) <;> (try split) <;> (try split) <;> omega
/-- two different states -/
def isTT (t u : Nat) : Prop := (t = 145 ∧ u = 159) ∨ (t = 159 ∧ u = 145)
theorem isTT.l {t u : Nat} (h : isTT t u) : isT t := by unfold isTT at h; unfold isT; omega
theorem isTT.r {t u : Nat} (h : isTT t u) : isT u := by unfold isTT at h; unfold isT; omega
