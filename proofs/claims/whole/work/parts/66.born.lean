/-! the world behind the law's making -/
theorem g00_S {o k : Nat} (ho : isL o) (hk : k < 10) : g00 (o + 4 + k) 0 = 2 ∧ g00 (o + 4 + k) 1 = nI (k / 2) ∧ g00 (o + 4 + k) 2 = -1 := by
  unfold isL at ho
  refine ⟨?_, ?_, ?_⟩
  · unfold g00; rw [if_pos (by omega), if_pos rfl]
  · unfold g00; rw [if_pos (by omega), if_neg (by decide), if_pos rfl]
    rcases ho with rfl | rfl
    · rw [if_pos (by omega), show 1 + 4 + k - 5 = k by omega]
    · rw [if_neg (by omega), show 71 + 4 + k - 75 = k by omega]
  · unfold g00; rw [if_pos (by omega), if_neg (by decide), if_neg (by decide), if_pos rfl]
theorem g00_B {o k : Nat} (ho : isL o) (hk : k < 6) : g00 (o + 14 + k) 0 = nI k ∧ ∀ j, j ≠ 0 → g00 (o + 14 + k) j = 0 := by
  unfold isL at ho
  refine ⟨?_, fun j hj => ?_⟩
  · unfold g00; rw [if_neg (by omega), if_pos (by omega), if_pos rfl]
    rcases ho with rfl | rfl
    · rw [if_pos (by omega), show 1 + 14 + k - 15 = k by omega]
    · rw [if_neg (by omega), show 71 + 14 + k - 85 = k by omega]
  · unfold g00; rw [if_neg (by omega), if_pos (by omega), if_neg hj]
theorem g00_P {o k : Nat} (ho : isL o) (hk : k < 50) : ∀ j, g00 (o + 20 + k) j = if j = 3 ∨ j = 6 then -1 else 0 := by
  unfold isL at ho
  intro j
  unfold g00; rw [if_neg (by omega), if_neg (by omega), if_pos (by omega)]
theorem g00_L {o k : Nat} (ho : isL o) : g00 o k = 0 := by
  unfold isL at ho
  unfold g00; rw [if_neg (by omega), if_neg (by omega), if_neg (by omega), if_neg (by omega), if_neg (by omega), if_neg (by omega)]
theorem g00_142 {k : Nat} : g00 142 k = if k < 10 then 2 else 0 := rfl
theorem g00_143 {k : Nat} : g00 143 k = if k < 10 then nI (k / 2) else 0 := rfl
theorem g00_146 {k : Nat} : g00 146 k = if k < 10 then -1 else 0 := rfl
theorem g00_z {a k : Nat} (h : a = 141 ∨ a = 144 ∨ a = 145 ∨ 147 ≤ a) : g00 a k = 0 := by
  unfold g00; rw [if_neg (by omega), if_neg (by omega), if_neg (by omega), if_neg (by omega), if_neg (by omega), if_neg (by omega)]
theorem g00_zf {a : Nat} (h : a = 144 ∨ 147 ≤ a) : g00 a = fun _ => 0 := by funext k; exact g00_z (by omega)
theorem ofFn_congr {N : Nat} {f f' : Nat → Value} (h : ∀ j, j < N → f j = f' j) (cA : ClassId) : arrV cA N f = arrV cA N f' := by
  unfold arrV
  have : (fun j : Fin N => f j.val) = (fun j : Fin N => f' j.val) := by funext j; exact h j.val j.isLt
  rw [this]
theorem at_aq {X : CX} {a t N : Nat} {f f' : Nat → Option Nat} {H : Heap} (h : va_at X.1 vwCl (a, aq X t N f) H) (hf : ∀ j, j < N → f j = f' j) : va_at X.1 vwCl (a, .inl (X.2 t, N, .inr (.inr (.inr (.inr f'))))) H := by
  have h1 : H[a]? = some (vp_cell (X.2 t) (N, .inr (.inr (.inr (.inr f))))) := h
  show H[a]? = some (vp_cell (X.2 t) (N, .inr (.inr (.inr (.inr f')))))
  rw [h1, vp_cell_q, vp_cell_q, ofFn_congr (fun j hj => by rw [hf j hj])]
theorem line_at {X : CX} {b o : Nat} {E : Nat → va_E} {w : Int64} {H : Heap} (ho : isL o) {i : Nat} (h1 : o ≤ i) (h2 : i < o + 70) (h : va_at X.1 vwCl (b + i, LE X b E o 10 6 50 i) H) : va_at X.1 vwCl (b + i, Ent X b g00 w i) H := by
  rcases (by omega : i = o ∨ i = o + 1 ∨ i = o + 2 ∨ i = o + 3 ∨ (o + 4 ≤ i ∧ i < o + 14) ∨ (o + 14 ≤ i ∧ i < o + 20) ∨ o + 20 ≤ i) with rfl | rfl | rfl | rfl | q | q | q
  · rw [LE_o] at h
    rw [Ent_L ho, g00_L ho, g00_L ho, g00_L ho, g00_L ho]
    exact h
  · rw [LE_1] at h
    rw [Ent_aS ho]
    exact at_aq h (fun j hj => by unfold rowsK; rw [if_pos hj])
  · rw [LE_2] at h
    rw [Ent_aB ho]
    exact at_aq h (fun j hj => by unfold rowsK; rw [if_pos hj])
  · rw [LE_3] at h
    rw [Ent_aP ho]
    exact at_aq h (fun j hj => by unfold rowsK; rw [if_pos hj])
  · obtain ⟨k, rfl⟩ : ∃ k, i = o + 4 + k := ⟨i - (o + 4), by omega⟩
    obtain ⟨e0, e1, e2⟩ := g00_S ho (k := k) (by omega)
    rw [LE_S (by omega)] at h
    rw [Ent_S (isS_of ho (by omega)), e0, e1, e2]
    exact h
  · obtain ⟨k, rfl⟩ : ∃ k, i = o + 14 + k := ⟨i - (o + 14), by omega⟩
    obtain ⟨e0, e1⟩ := g00_B ho (k := k) (by omega)
    rw [LE_B (by omega)] at h
    rw [Ent_B (isB_of ho (by omega)), e0, e1 _ (by decide), e1 _ (by decide), e1 _ (by decide), e1 _ (by decide), e1 _ (by decide), e1 _ (by decide)]
    exact h
  · obtain ⟨k, rfl⟩ : ∃ k, i = o + 20 + k := ⟨i - (o + 20), by omega⟩
    have e := g00_P ho (k := k) (by omega)
    rw [LE_P] at h
    rw [Ent_P (isP_of ho (by omega)), e, e, e, e, e, e, e, e]
    exact h
theorem slen_a {t r : Nat} (ht : isT t) (h1 : 1 ≤ r) (h2 : r < 14) : alen (t + r) = slen r := by
  unfold slen
  by_cases e : r = 1
  · subst e; rw [if_pos rfl]; exact alen_1 ht
  · rw [if_neg e]
    by_cases e2 : r < 6
    · rw [if_pos e2]; exact alen_6 ht (by omega) e2
    · rw [if_neg e2]; exact alen_50 ht (by omega) h2
theorem wd_born {X : CX} {b : Nat} {E E1 E2 E3 : Nat → va_E} {H : Heap} (h : cw X b 174 E H) (h0 : E 0 = .inr (4, [.ref (b + 1), .ref (b + 71)])) (h1 : ∀ i, 1 ≤ i → i < 71 → E i = LE X b E1 1 10 6 50 i) (h2 : ∀ i, 71 ≤ i → i < 141 → E i = LE X b E2 71 10 6 50 i)
    (h3 : ∀ i, 141 ≤ i → i < 173 → E i = ME X b E3 10 i) (h4 : E 173 = .inl (X.2 1, 1, .inr (.inl (fun _ => 0)))) : wd X b g00 0 H := by
  refine ⟨Nat.le_of_eq h.1.symm, fun i hi => ?_⟩
  have ha := h.2 i hi
  rcases (by omega : i = 0 ∨ (1 ≤ i ∧ i < 71) ∨ (71 ≤ i ∧ i < 141) ∨ (141 ≤ i ∧ i < 173) ∨ i = 173) with rfl | q | q | q | rfl
  · rw [h0] at ha; rw [Ent_0]; exact ha
  · rw [h1 i q.1 q.2] at ha; exact line_at (Or.inl rfl) q.1 (by omega) ha
  · rw [h2 i q.1 q.2] at ha; exact line_at (Or.inr rfl) q.1 (by omega) ha
  · rw [h3 i q.1 q.2] at ha
    rcases (by omega : i = 141 ∨ i = 142 ∨ i = 143 ∨ i = 144 ∨ i = 145 ∨ i = 146 ∨ i = 159 ∨ (147 ≤ i ∧ i < 159) ∨ 160 ≤ i) with rfl | rfl | rfl | rfl | rfl | rfl | rfl | z | z
    · rw [ME_141] at ha; rw [Ent_M, g00_z (Or.inl rfl), g00_z (Or.inl rfl), g00_z (Or.inl rfl)]; exact ha
    · rw [ME_142] at ha; rw [Ent_A (by unfold isA; omega)]; exact ha
    · rw [ME_143] at ha; rw [Ent_A (by unfold isA; omega)]; exact ha
    · rw [ME_144] at ha; rw [Ent_A (by unfold isA; omega), g00_zf (by omega)]; exact ha
    · rw [ME_145] at ha; rw [Ent_T (Or.inl rfl), g00_z (by omega), g00_z (by omega)]; exact ha
    · rw [ME_146] at ha; rw [Ent_A (by unfold isA; omega)]; exact ha
    · rw [ME_159] at ha; rw [Ent_T (Or.inr rfl), g00_z (by omega), g00_z (by omega)]; exact ha
    · rw [ME_s z.1 z.2] at ha
      rw [Ent_A (by unfold isA; omega), g00_zf (by omega)]
      obtain ⟨r, rfl⟩ : ∃ r, i = 145 + r := ⟨i - 145, by omega⟩
      rw [show 145 + r - 145 = r by omega] at ha
      rw [slen_a (Or.inl rfl) (by omega) (by omega)]
      exact ha
    · rw [ME_a z] at ha
      rw [Ent_A (by unfold isA; omega), g00_zf (by omega)]
      obtain ⟨r, rfl⟩ : ∃ r, i = 159 + r := ⟨i - 159, by omega⟩
      rw [show 159 + r - 159 = r by omega] at ha
      rw [slen_a (Or.inr rfl) (by omega) (by omega)]
      exact ha
  · rw [h4] at ha; rw [Ent_O]; exact ha
theorem inv_born : Inv 0 0 g00 := by
  have hL : isL 1 := Or.inl rfl
  refine ⟨⟨⟨⟨fun i hi => ?_, fun j hj => absurd hj (Nat.not_lt_zero _), fun p k hp => absurd hp (Nat.not_lt_zero _), ?_, ?_⟩, fun j hj => absurd hj (Nat.not_lt_zero _), ⟨⟨⟨g00_L hL, by omega⟩, ⟨g00_L hL, by omega⟩, fun j hj => (g00_B hL hj).1, fun j hj => absurd hj (Nat.not_lt_zero _), fun p hp => absurd hp (Nat.not_lt_zero _)⟩,
    ⟨⟨g00_z (by omega), by omega⟩, ⟨g00_z (by omega), by omega⟩, fun j hj => absurd hj (Nat.not_lt_zero _), fun p hp => absurd hp (Nat.not_lt_zero _)⟩⟩, ⟨fun j hj => absurd hj (Nat.not_lt_zero _), fun i hi => ?_, ?_⟩, fun p hp => absurd hp (Nat.not_lt_zero _)⟩, fun j hj => absurd hj (Nat.not_lt_zero _), ⟨fun j _ hj => ?_, fun p _ hp => ?_⟩, ⟨fun j _ hj => ?_, fun p _ hp => ?_⟩⟩, fun j hj => (g00_B (Or.inr rfl) hj).1⟩
  · obtain ⟨e0, e1, e2⟩ := g00_S hL hi
    rw [e0, e1, e2, g00_142, g00_143, show (145 + 1 : Nat) = 146 from rfl, g00_146, if_pos hi, if_pos hi, if_pos hi]
    exact ⟨rfl, rfl, rfl⟩
  · rw [g00_L hL, g00_z (by omega)]
  · rw [g00_L hL, g00_z (by omega)]
  · rw [g00_142, if_pos hi]; exact NN.of (m := 2) (by decide)
  · rw [g00_z (by omega)]; exact NN.of (m := 0) (by decide)
  · have e := (g00_B hL hj).2
    exact ⟨e _ (by decide), e _ (by decide), e _ (by decide)⟩
  · have e := g00_P hL hp
    rw [e, e, e, e, e, e]
    exact ⟨rfl, rfl, rfl, rfl, rfl, rfl⟩
  · exact ⟨g00_z (by omega), g00_z (by omega)⟩
  · exact ⟨g00_z (by omega), g00_z (by omega), g00_z (by omega), g00_z (by omega)⟩
