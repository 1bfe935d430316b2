/-! a line while it is made: kS stops, kB buses, kP passengers are there -/
def rowsK (b kk base : Nat) : Nat → Option Nat := fun j => if j < kk then some (b + (base + j)) else none
theorem rowsK_0 {b base : Nat} : rowsK b 0 base = fun _ => none := by funext j; unfold rowsK; rw [if_neg (by omega)]
theorem rowsK_s {b k base : Nat} : va_up (rowsK b k base) k (some (b + (base + k))) = rowsK b (k + 1) base := by
  funext j
  unfold va_up rowsK
  by_cases h : j = k
  · subst h; rw [if_pos rfl, if_pos (by omega)]
  · rw [if_neg h]
    by_cases h2 : j < k
    · rw [if_pos h2, if_pos (by omega)]
    · rw [if_neg h2, if_neg (by omega)]
def aq (X : CX) (t n : Nat) (f : Nat → Option Nat) : va_E := .inl (X.2 t, n, .inr (.inr (.inr (.inr f))))
def ob3 (k : Nat) : va_E := .inr (3, [.int 2, .int (nI (k / 2)), .int (-1)])
def ob0 (k : Nat) : va_E := .inr (0, [.int (nI k), .int 0, .int 0, .int 0, .int 0, .int 0, .int 0])
def ob2 : va_E := .inr (2, [.int 0, .int 0, .int 0, .int (-1), .int 0, .int 0, .int (-1), .int 0])
def ob1 (b o : Nat) : va_E := .inr (1, [.ref (b + (o + 1)), .ref (b + (o + 1 + 1)), .ref (b + (o + 1 + 1 + 1)), .int 0, .int 0, .int 0, .int 0])
def LE (X : CX) (b : Nat) (E : Nat → va_E) (o kS kB kP : Nat) : Nat → va_E := fun i =>
  if i < o then E i
  else if i = o then ob1 b o
  else if i = o + 1 then aq X 2 10 (rowsK b kS (o + 4))
  else if i = o + 2 then aq X 3 6 (rowsK b kB (o + 14))
  else if i = o + 3 then aq X 4 50 (rowsK b kP (o + 20))
  else if i < o + 14 then ob3 (i - (o + 4))
  else if i < o + 20 then ob0 (i - (o + 14))
  else ob2
section LEs
variable {X : CX} {b o kS kB kP k' i : Nat} {E : Nat → va_E}
theorem LE_lt (h : i < o) : LE X b E o kS kB kP i = E i := by unfold LE; rw [if_pos h]
theorem LE_o : LE X b E o kS kB kP o = ob1 b o := by unfold LE; rw [if_neg (by omega), if_pos rfl]
theorem LE_1 : LE X b E o kS kB kP (o + 1) = aq X 2 10 (rowsK b kS (o + 4)) := by unfold LE; rw [if_neg (by omega), if_neg (by omega), if_pos rfl]
theorem LE_2 : LE X b E o kS kB kP (o + 2) = aq X 3 6 (rowsK b kB (o + 14)) := by unfold LE; rw [if_neg (by omega), if_neg (by omega), if_neg (by omega), if_pos rfl]
theorem LE_3 : LE X b E o kS kB kP (o + 3) = aq X 4 50 (rowsK b kP (o + 20)) := by unfold LE; rw [if_neg (by omega), if_neg (by omega), if_neg (by omega), if_neg (by omega), if_pos rfl]
theorem LE_S (h : i < 10) : LE X b E o kS kB kP (o + 4 + i) = ob3 i := by unfold LE; rw [if_neg (by omega), if_neg (by omega), if_neg (by omega), if_neg (by omega), if_neg (by omega), if_pos (by omega), show o + 4 + i - (o + 4) = i by omega]
theorem LE_B (h : i < 6) : LE X b E o kS kB kP (o + 14 + i) = ob0 i := by unfold LE; rw [if_neg (by omega), if_neg (by omega), if_neg (by omega), if_neg (by omega), if_neg (by omega), if_neg (by omega), if_pos (by omega), show o + 14 + i - (o + 14) = i by omega]
theorem LE_P : LE X b E o kS kB kP (o + 20 + i) = ob2 := by unfold LE; rw [if_neg (by omega), if_neg (by omega), if_neg (by omega), if_neg (by omega), if_neg (by omega), if_neg (by omega), if_neg (by omega)]
theorem LE_kS (h : i ≠ o + 1) : LE X b E o kS kB kP i = LE X b E o k' kB kP i := by
  unfold LE
  by_cases h1 : i < o
  · rw [if_pos h1, if_pos h1]
  · by_cases h2 : i = o
    · rw [if_neg h1, if_pos h2, if_neg h1, if_pos h2]
    · rw [if_neg h1, if_neg h2, if_neg h, if_neg h1, if_neg h2, if_neg h]
theorem LE_kB (h : i ≠ o + 2) : LE X b E o kS kB kP i = LE X b E o kS k' kP i := by
  unfold LE
  by_cases h1 : i < o
  · rw [if_pos h1, if_pos h1]
  · by_cases h2 : i = o
    · rw [if_neg h1, if_pos h2, if_neg h1, if_pos h2]
    · by_cases h3 : i = o + 1
      · rw [if_neg h1, if_neg h2, if_pos h3, if_neg h1, if_neg h2, if_pos h3]
      · rw [if_neg h1, if_neg h2, if_neg h3, if_neg h, if_neg h1, if_neg h2, if_neg h3, if_neg h]
theorem LE_kP (h : i ≠ o + 3) : LE X b E o kS kB kP i = LE X b E o kS kB k' i := by
  unfold LE
  by_cases h1 : i < o
  · rw [if_pos h1, if_pos h1]
  · by_cases h2 : i = o
    · rw [if_neg h1, if_pos h2, if_neg h1, if_pos h2]
    · by_cases h3 : i = o + 1
      · rw [if_neg h1, if_neg h2, if_pos h3, if_neg h1, if_neg h2, if_pos h3]
      · by_cases h4 : i = o + 2
        · rw [if_neg h1, if_neg h2, if_neg h3, if_pos h4, if_neg h1, if_neg h2, if_neg h3, if_pos h4]
        · rw [if_neg h1, if_neg h2, if_neg h3, if_neg h4, if_neg h, if_neg h1, if_neg h2, if_neg h3, if_neg h4, if_neg h]
/-- behind the arrays' making -/
theorem LE_start {x1 x2 : va_E} : ∀ i, i < o + 3 + 1 → LE X b E o 0 0 0 i = (eu (eu (eu (eu (eu (eu E (o + 1) (aq X 2 10 (fun _ => none))) o x1) (o + 1 + 1) (aq X 3 6 (fun _ => none))) o x2) (o + 1 + 1 + 1) (aq X 4 50 (fun _ => none))) o (ob1 b o)) i := by
  intro i hi
  rcases (by omega : i < o ∨ i = o ∨ i = o + 1 ∨ i = o + 2 ∨ i = o + 3) with h | rfl | rfl | rfl | rfl
  · rw [LE_lt h, eu_n (by omega), eu_n (by omega), eu_n (by omega), eu_n (by omega), eu_n (by omega), eu_n (by omega)]
  · rw [LE_o, eu_s]
  · rw [LE_1, rowsK_0, eu_n (by omega), eu_n (by omega), eu_n (by omega), eu_n (by omega), eu_n (by omega), eu_s]
  · rw [LE_2, rowsK_0, eu_n (by omega), eu_n (by omega), eu_n (by omega), show o + 2 = o + 1 + 1 from rfl, eu_s]
  · rw [LE_3, rowsK_0, eu_n (by omega), show o + 3 = o + 1 + 1 + 1 from rfl, eu_s]
theorem LE_nS {E1 : Nat → va_E} {x : va_E} (hi : i < 10) (h1 : E1 (o + 4 + i) = ob3 i) (h2 : ∀ j, j ≠ o + 4 + i → E1 j = eu (LE X b E o i 0 0) (o + 4 + i) x j) : ∀ j, j < o + 4 + (i + 1) → LE X b E o (i + 1) 0 0 j = eu E1 (o + 1) (aq X 2 10 (va_up (rowsK b i (o + 4)) i (some (b + (o + 4 + i))))) j := by
  intro j hj
  by_cases e : j = o + 1
  · subst e; rw [eu_s, LE_1, rowsK_s]
  · rw [eu_n e]
    by_cases e2 : j = o + 4 + i
    · subst e2; rw [h1, LE_S hi]
    · rw [h2 j e2, eu_n e2, LE_kS e]
theorem LE_nB {E1 : Nat → va_E} {x : va_E} (hi : i < 6) (h1 : E1 (o + 14 + i) = ob0 i) (h2 : ∀ j, j ≠ o + 14 + i → E1 j = eu (LE X b E o 10 i 0) (o + 14 + i) x j) : ∀ j, j < o + 14 + (i + 1) → LE X b E o 10 (i + 1) 0 j = eu E1 (o + 2) (aq X 3 6 (va_up (rowsK b i (o + 14)) i (some (b + (o + 14 + i))))) j := by
  intro j hj
  by_cases e : j = o + 2
  · subst e; rw [eu_s, LE_2, rowsK_s]
  · rw [eu_n e]
    by_cases e2 : j = o + 14 + i
    · subst e2; rw [h1, LE_B hi]
    · rw [h2 j e2, eu_n e2, LE_kB e]
theorem LE_nP {E1 : Nat → va_E} {x : va_E} (h1 : E1 (o + 20 + i) = ob2) (h2 : ∀ j, j ≠ o + 20 + i → E1 j = eu (LE X b E o 10 6 i) (o + 20 + i) x j) : ∀ j, j < o + 20 + (i + 1) → LE X b E o 10 6 (i + 1) j = eu E1 (o + 3) (aq X 4 50 (va_up (rowsK b i (o + 20)) i (some (b + (o + 20 + i))))) j := by
  intro j hj
  by_cases e : j = o + 3
  · subst e; rw [eu_s, LE_3, rowsK_s]
  · rw [eu_n e]
    by_cases e2 : j = o + 20 + i
    · subst e2; rw [h1, LE_P]
    · rw [h2 j e2, eu_n e2, LE_kP e]
end LEs
theorem LE_E {X : CX} {b o kS kB kP i : Nat} {E E' : Nat → va_E} (h : o ≤ i) : LE X b E o kS kB kP i = LE X b E' o kS kB kP i := by
  have h1 : ¬ i < o := by omega
  simp only [LE, if_neg h1]
