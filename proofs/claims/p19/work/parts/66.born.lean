/-! the world behind the law's making -/
theorem g00_S {o k : Nat} (ho : isL o) (hk : k < 10) : g00 (o + 4 + k) 0 = 2 ∧ g00 (o + 4 + k) 1 = nI (k / 2) ∧ g00 (o + 4 + k) 2 = -1 := by
  unfold isL at ho
  refine ⟨?_, ?_, ?_⟩
  · unfold g00; rw [if_pos (by omega), if_pos rfl]
  · unfold g00; rw [if_pos (by omega), if_neg (by decide), if_pos rfl]
    rcases ho with rfl | rfl
    · rw [if_pos (by omega), show 1 + 4 + k - 5 = k by omega]
    · rw [if_neg (by omega), show 71 + 4 + k - 75 = k by omega]
  · unfold g00; rw [if_pos (by omega), if_neg (by decide), if_neg (by decide), if_pos rfl]
theorem g00_B {o k : Nat} (ho : isL o) (hk : k < 6) : g00 (o + 14 + k) 0 = nI k ∧ ∀ j, j ≠ 0 → g00 (o + 14 + k) j = 0 := by
  unfold isL at ho
  refine ⟨?_, fun j hj => ?_⟩
  · unfold g00; rw [if_neg (by omega), if_pos (by omega), if_pos rfl]
    rcases ho with rfl | rfl
    · rw [if_pos (by omega), show 1 + 14 + k - 15 = k by omega]
    · rw [if_neg (by omega), show 71 + 14 + k - 85 = k by omega]
  · unfold g00; rw [if_neg (by omega), if_pos (by omega), if_neg hj]
theorem g00_P {o k : Nat} (ho : isL o) (hk : k < 50) : ∀ j, g00 (o + 20 + k) j = if j = 3 ∨ j = 6 then -1 else 0 := by
  unfold isL at ho
  intro j
  unfold g00; rw [if_neg (by omega), if_neg (by omega), if_pos (by omega)]
theorem g00_L {o k : Nat} (ho : isL o) : g00 o k = 0 := by
  unfold isL at ho
  unfold g00; rw [if_neg (by omega), if_neg (by omega), if_neg (by omega)]
theorem ofFn_congr {N : Nat} {f f' : Nat → Value} (h : ∀ j, j < N → f j = f' j) (cA : ClassId) : arrV cA N f = arrV cA N f' := by
  unfold arrV
  have : (fun j : Fin N => f j.val) = (fun j : Fin N => f' j.val) := by funext j; exact h j.val j.isLt
  rw [this]
theorem at_aq {X : CX} {a t N : Nat} {f f' : Nat → Option Nat} {H : Heap} (h : va_at X.1 vwCl (a, aq X t N f) H) (hf : ∀ j, j < N → f j = f' j) : va_at X.1 vwCl (a, .inl (X.2 t, N, .inr (.inr (.inr (.inr f'))))) H := by
  have h1 : H[a]? = some (vp_cell (X.2 t) (N, .inr (.inr (.inr (.inr f))))) := h
  show H[a]? = some (vp_cell (X.2 t) (N, .inr (.inr (.inr (.inr f')))))
  rw [h1, vp_cell_q, vp_cell_q, ofFn_congr (fun j hj => by rw [hf j hj])]
theorem line_at {X : CX} {b o : Nat} {E : Nat → va_E} {w : Int64} {H : Heap} (ho : isL o) {i : Nat} (h1 : o ≤ i) (h2 : i < o + 70) (h : va_at X.1 vwCl (b + i, LE X b E o 10 6 50 i) H) : va_at X.1 vwCl (b + i, Ent X b g00 w i) H := by
  rcases (by omega : i = o ∨ i = o + 1 ∨ i = o + 2 ∨ i = o + 3 ∨ (o + 4 ≤ i ∧ i < o + 14) ∨ (o + 14 ≤ i ∧ i < o + 20) ∨ o + 20 ≤ i) with rfl | rfl | rfl | rfl | q | q | q
  · rw [LE_o] at h
    rw [Ent_L ho, g00_L ho, g00_L ho, g00_L ho, g00_L ho]
    exact h
  · rw [LE_1] at h
    rw [Ent_aS ho]
    exact at_aq h (fun j hj => by unfold rowsK; rw [if_pos hj])
  · rw [LE_2] at h
    rw [Ent_aB ho]
    exact at_aq h (fun j hj => by unfold rowsK; rw [if_pos hj])
  · rw [LE_3] at h
    rw [Ent_aP ho]
    exact at_aq h (fun j hj => by unfold rowsK; rw [if_pos hj])
  · obtain ⟨k, rfl⟩ : ∃ k, i = o + 4 + k := ⟨i - (o + 4), by omega⟩
    obtain ⟨e0, e1, e2⟩ := g00_S ho (k := k) (by omega)
    rw [LE_S (by omega)] at h
    rw [Ent_S (isS_of ho (by omega)), e0, e1, e2]
    exact h
  · obtain ⟨k, rfl⟩ : ∃ k, i = o + 14 + k := ⟨i - (o + 14), by omega⟩
    obtain ⟨e0, e1⟩ := g00_B ho (k := k) (by omega)
    rw [LE_B (by omega)] at h
    rw [Ent_B (isB_of ho (by omega)), e0, e1 _ (by decide), e1 _ (by decide), e1 _ (by decide), e1 _ (by decide), e1 _ (by decide), e1 _ (by decide)]
    exact h
  · obtain ⟨k, rfl⟩ : ∃ k, i = o + 20 + k := ⟨i - (o + 20), by omega⟩
    have e := g00_P ho (k := k) (by omega)
    rw [LE_P] at h
    rw [Ent_P (isP_of ho (by omega)), e, e, e, e, e, e, e, e]
    exact h
theorem wd_born {X : CX} {b : Nat} {E E1 E2 : Nat → va_E} {w : Int64} {H : Heap} (h : cw X b 141 E H) (h0 : E 0 = .inr (4, [.ref (b + 1), .ref (b + 71)])) (h1 : ∀ i, 1 ≤ i → i < 71 → E i = LE X b E1 1 10 6 50 i) (h2 : ∀ i, 71 ≤ i → i < 141 → E i = LE X b E2 71 10 6 50 i) : wd X b g00 w H := by
  refine ⟨Nat.le_of_eq h.1.symm, fun i hi => ?_⟩
  have ha := h.2 i hi
  rcases (by omega : i = 0 ∨ (1 ≤ i ∧ i < 71) ∨ (71 ≤ i ∧ i < 141)) with rfl | q | q
  · rw [h0] at ha; rw [Ent_0]; exact ha
  · rw [h1 i q.1 q.2] at ha; exact line_at (Or.inl rfl) q.1 (by omega) ha
  · rw [h2 i q.1 q.2] at ha; exact line_at (Or.inr rfl) q.1 (by omega) ha
