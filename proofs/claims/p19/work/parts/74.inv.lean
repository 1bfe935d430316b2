/-! what is true of the line between two calls; a minute keeps it -/
def Ou (o nb np a : Nat) : Prop := (o + 14 + nb ≤ a ∧ a < o + 20) ∨ o + 20 + np ≤ a
section FX
variable {o nb np : Nat} {g : S2} {a : Nat}
theorem fx_offs (ha : Ou o nb np a) {B : Nat} : ∀ {n : Nat}, n ≤ np → (f_offs g o B n).1 a = g a
  | 0, _ => rfl
  | n + 1, h => by
    unfold f_offs f_offs1
    split
    · exact (off_ne (by unfold Ou at ha; omega)).trans (fx_offs ha (by omega))
    · exact fx_offs ha (by omega)
theorem fx_letOff (ha : Ou o nb np a) {j : Nat} (hj : j < nb) (h6 : nb ≤ 6) : f_letOff g o (o + 14 + j) np a = g a := by
  unfold f_letOff
  rw [u2_ne (by unfold Ou at ha; omega)]
  exact fx_offs ha (Nat.le_refl _)
theorem fx_ons (ha : Ou o nb np a) {j : Nat} (hj : j < nb) (h6 : nb ≤ 6) : ∀ {n : Nat}, n ≤ np → (f_ons g o (o + 14 + j) n).1 a = g a
  | 0, _ => rfl
  | n + 1, h => by
    unfold f_ons f_ons1
    split
    · exact (board_ne (by unfold Ou at ha; omega) (by unfold Ou at ha; omega)).trans (fx_ons ha hj h6 (by omega))
    · exact fx_ons ha hj h6 (by omega)
theorem fx_bus1 (ha : Ou o nb np a) (h : OkL o nb np g) {j : Nat} (hj : j < nb) : f_bus1 g o np j a = g a := by
  have h6 := h.1.2
  have hne : a ≠ o + 14 + j := by unfold Ou at ha; omega
  unfold f_bus1 f_stand
  split
  · have hc := ((okl_std1 h hj).2.2.2.1 j hj).1.cl.1
    have h1 : f_std1 g (o + 14 + j) a = g a := by
      unfold f_std1
      split
      · rw [u2_ne hne]
      · rfl
    unfold f_std2
    split
    · rw [u2_ne hne, u2_ne hne, u2_ne (by unfold Ou at ha; omega), h1]
    · exact h1
  · unfold f_drive
    split
    · rw [u2_ne hne]
    · rw [u2_ne hne, fx_ons ha hj h6 (Nat.le_refl _), fx_letOff ha hj h6]
      unfold f_arr
      rw [u2_ne hne, u2_ne hne, u2_ne hne]
theorem fx_buses (ha : Ou o nb np a) (h : OkL o nb np g) : ∀ {n : Nat}, n ≤ nb → f_buses g o np n a = g a
  | 0, _ => rfl
  | n + 1, hn => by
    unfold f_buses
    rw [fx_bus1 ha (okl_buses h n (by omega)) (by omega)]
    exact fx_buses ha h (by omega)
theorem fx_min (ha : Ou o nb np a) (h : OkL o nb np g) : f_min g o nb np a = g a := by
  unfold f_min f_tick
  have h6 := h.1.2
  rw [u2_ne (by unfold Ou at ha; omega), waitN_at h.2.1.2, if_neg (by unfold Ou at ha; omega)]
  exact fx_buses ha h (Nat.le_refl _)
end FX
def PasS (t : Int32) (A : Nat → Int32) (nb : Nat) (pr : Int32) (u v : Nat → Int32) : Prop :=
  v 2 = u 2 ∧ v 5 = u 5 + (if v 0 = 0 then 1 else 0) ∧ ((∀ k, k < 8 → k ≠ 5 → v k = u k) ∨
   (u 0 = 0 ∧ v 0 = 1 ∧ v 1 = u 1 ∧ (∃ j, j < nb ∧ v 3 = nI j ∧ A j = u 1) ∧ v 4 = u 4 + pr ∧ v 6 = u 6 ∧ v 7 = 0) ∨
   (u 0 = 1 ∧ v 0 = 2 ∧ v 1 = u 2 ∧ (∃ j, j < nb ∧ u 3 = nI j ∧ A j = u 2) ∧ v 3 = -1 ∧ v 4 = u 4 ∧ v 6 = t ∧ v 7 = u 7))
/-- what a minute does -/
def StepM (o nb np : Nat) (tv hv : Nat) (g0 g : S2) : Prop :=
  OkL o nb np g ∧ (g o 5 = nI (tv + 1) ∧ g o 6 = nI hv) ∧ (∀ i, i < 10 → StopR (nI tv) (g0 (o + 4 + i)) (g (o + 4 + i))) ∧
  (∀ j, j < nb → (∃ r0, r0 ≤ 40 ∧ g0 (o + 14 + j) 3 = nI r0 ∧ BusG (nI tv) (nI hv) (fun i => g0 (o + 4 + i)) (fun i => g (o + 4 + i)) (g0 (o + 14 + j)) (g (o + 14 + j)) r0) ∧ Tak 600 (g0 (o + 14 + j)) (g (o + 14 + j))) ∧
  (∀ p, p < np → PasS (nI tv) (fun j => g (o + 14 + j) 1) nb (prc g0 o p) (g0 (o + 20 + p)) (g (o + 20 + p))) ∧
  (∀ j, j < nb → RidOk g0 g o np (fun _ => 0) j) ∧
  sumF (fun q => g (o + 20 + q) 4) np = sumF (fun q => g (o + 14 + q) 6) nb ∧ (∀ a, Ou o nb np a → g a = g0 a)
/-- the start of a minute -/
def Bal (o nb np : Nat) (g : S2) : Prop := (∀ j, j < nb → ∃ z, z ≤ 20 ∧ g (o + 14 + j) 4 = nI z ∧ rid g o np j ≤ z ∧ g (o + 14 + j) 5 = nI (rid g o np j)) ∧ sumF (fun q => g (o + 20 + q) 4) np = sumF (fun q => g (o + 14 + q) 6) nb
theorem step_min {o nb np tv hv : Nat} {g0 : S2} (K0 : OkL o nb np g0) (hhv : hv ≤ 15) (htv : tv < 2 ^ 29) (h5 : g0 o 5 = nI tv) (h6 : g0 o 6 = nI hv) (B0 : Beg o nb g0) (hB : Bal o nb np g0) : StepM o nb np tv hv g0 (f_min g0 o nb np) := by
  have M0 : Mid o nb np (nI tv) (nI hv) g0 g0 0 0 0 0 (fun _ => 0) := by
    refine ⟨K0, ⟨h5, h6⟩, fun i _ => ⟨rfl, rfl, Or.inl rfl⟩, fun j hj => absurd hj (Nat.not_lt_zero j), fun _ _ _ _ _ => rfl, fun p _ => ⟨rfl, rfl, Or.inl (fun _ _ => rfl)⟩, fun j hj => ?_, hB.2⟩
    obtain ⟨z, z1, z2, z3, z4⟩ := hB.1 j hj
    exact ⟨z4, rfl, z, z1, z2, z3⟩
  have hfr : ∀ a, Ou o nb np a → f_min g0 o nb np a = g0 a := fun a ha => fx_min ha K0
  obtain ⟨a, ⟨b1, b2⟩, c, d, f, i, j, s⟩ := mid_buses K0 hhv htv B0 M0 nb (Nat.le_refl _)
  have hok : OkL o nb np (f_min g0 o nb np) := okl_min K0
  have hn6 := K0.1.2
  have h50 := K0.2.1.2
  have hrow : ∀ q, q ≠ o → f_min g0 o nb np q = if o + 20 ≤ q ∧ q < o + 20 + np ∧ f_buses g0 o np nb q 0 = 0 then upd (f_buses g0 o np nb q) 5 (f_buses g0 o np nb q 5 + 1) else f_buses g0 o np nb q := fun q hq => by
    unfold f_min f_tick
    rw [u2_ne hq, waitN_at h50]
  have hlow : ∀ q, q ≠ o → q < o + 20 → f_min g0 o nb np q = f_buses g0 o np nb q := fun q h1 h2 => by rw [hrow q h1, if_neg (by omega)]
  have hL : ∀ k, f_min g0 o nb np o k = if k = 5 then nI (tv + 1) else f_buses g0 o np nb o k := fun k => by
    unfold f_min f_tick
    have hw : f_waitN (f_buses g0 o np nb) o np o = f_buses g0 o np nb o := by rw [waitN_at h50, if_neg (by omega)]
    rw [u2_app, hw, b1, nI_1]
    by_cases e9 : k = 5
    · rw [if_pos ⟨rfl, e9⟩, if_pos e9]
    · rw [if_neg (fun z => e9 z.2), if_neg e9]
  have hP : ∀ p, p < np → ∀ k, f_min g0 o nb np (o + 20 + p) k = if k = 5 then f_buses g0 o np nb (o + 20 + p) 5 + (if f_buses g0 o np nb (o + 20 + p) 0 = 0 then 1 else 0) else f_buses g0 o np nb (o + 20 + p) k := fun p hp k => by
    rw [hrow _ (by omega)]
    by_cases q : f_buses g0 o np nb (o + 20 + p) 0 = 0
    · rw [if_pos ⟨by omega, by omega, q⟩, if_pos q]
      by_cases e9 : k = 5
      · subst e9; rw [if_pos rfl]; simp [upd]
      · rw [if_neg e9]; simp [upd, e9]
    · rw [if_neg (fun z => q z.2.2), if_neg q]
      by_cases e9 : k = 5
      · subst e9; rw [if_pos rfl, Int32.add_zero]
      · rw [if_neg e9]
  generalize f_min g0 o nb np = g at hfr hok hrow hlow hL hP ⊢
  generalize f_buses g0 o np nb = G at a b1 b2 c d f i j s hrow hlow hL hP
  refine ⟨hok, ⟨by rw [hL, if_pos rfl], by rw [hL, if_neg (by decide)]; exact b2⟩, fun z hz => by rw [hlow _ (by omega) (by omega)]; exact c z hz, fun z hz => ?_, fun p hp => ?_, fun z hz => ?_, ?_, hfr⟩
  · obtain ⟨⟨r0, d1, d2, d3⟩, d4⟩ := d z hz
    have hc := cl0 K0 hz
    rw [hlow _ (by omega) (by omega)]
    exact ⟨⟨r0, d1, d2, d3.mono hhv (Or.inl (by show g (o + 4 + cl (g0 (o + 14 + z) 1)) 2 = _; rw [hlow _ (by omega) (by omega)]))⟩, d4⟩
  · have hA : (fun j => g (o + 14 + j) 1) = fun j => if j < 6 then G (o + 14 + j) 1 else g (o + 14 + j) 1 := by
      funext j
      by_cases q : j < 6
      · rw [if_pos q, hlow _ (by omega) (by omega)]
      · rw [if_neg q]
    obtain ⟨p1, p2, p3⟩ := i p hp
    have hp0 := hP p hp
    refine ⟨by rw [hp0, if_neg (by decide)]; exact p1, by rw [hp0 5, if_pos rfl, hp0 0, if_neg (show ¬ (0 : Nat) = 5 by decide), p2], ?_⟩
    rcases p3 with h | ⟨c1, c2, c3, ⟨j, j1, j2, j3⟩, c4, c5, c6⟩ | ⟨c1, c2, c3, ⟨j, j1, j2, j3⟩, c4, c5, c6, c7⟩
    · exact Or.inl (fun k hk h5 => by rw [hp0, if_neg h5]; exact h k hk)
    · refine Or.inr (Or.inl ⟨c1, by rw [hp0, if_neg (by decide)]; exact c2, by rw [hp0, if_neg (by decide)]; exact c3, ⟨j, j1, by rw [hp0, if_neg (by decide)]; exact j2, ?_⟩, by rw [hp0, if_neg (by decide)]; exact c4, by rw [hp0, if_neg (by decide)]; exact c5, by rw [hp0, if_neg (by decide)]; exact c6⟩)
      show g (o + 14 + j) 1 = _
      rw [hlow _ (by omega) (by omega)]; exact j3
    · refine Or.inr (Or.inr ⟨c1, by rw [hp0, if_neg (by decide)]; exact c2, by rw [hp0, if_neg (by decide)]; exact c3, ⟨j, j1, j2, ?_⟩, by rw [hp0, if_neg (by decide)]; exact c4, by rw [hp0, if_neg (by decide)]; exact c5, by rw [hp0, if_neg (by decide)]; exact c6, by rw [hp0, if_neg (by decide)]; exact c7⟩)
      show g (o + 14 + j) 1 = _
      rw [hlow _ (by omega) (by omega)]; exact j3
  · have := j z hz
    unfold RidOk at this ⊢
    rw [rid_congr (g := G) (fun q hq => by rw [hP q hq, hP q hq, if_neg (by decide), if_neg (by decide)]; exact ⟨rfl, rfl⟩), hlow _ (by omega) (by omega)]
    exact this
  · exact (sumF_congr (fun z hz => by rw [hP z hz, if_neg (by decide)])).trans (s.trans (sumF_congr (fun z hz => by rw [hlow _ (by omega) (by omega)])).symm)
def PasI (nb : Nat) (v : Nat → Int32) : Prop := (v 0 = 0 ∨ v 0 = 1 ∨ v 0 = 2) ∧ (v 0 = 1 → ∃ j, j < nb ∧ v 3 = nI j) ∧ (¬ v 0 = 1 → v 3 = -1) ∧ ((v 0 = 2 ∨ ¬ v 7 = 0) → ¬ v 6 < 0)
/-- between two calls, tv minutes on -/
def Inv (o nb np tv : Nat) (g : S2) : Prop :=
  OkL o nb np g ∧ (g o 5 = nI tv ∧ ∃ hv, hv ≤ 15 ∧ g o 6 = nI hv) ∧
  (∀ i, i < 10 → (∃ m, 1 ≤ m ∧ m ≤ 9 ∧ g (o + 4 + i) 0 = nI m) ∧ (∃ z, z ≤ 9 ∧ g (o + 4 + i) 1 = nI z) ∧ (g (o + 4 + i) 2 = -1 ∨ ∃ a, a < tv ∧ g (o + 4 + i) 2 = nI a)) ∧
  (∀ j, j < nb → (∃ r, r ≤ 40 ∧ g (o + 14 + j) 3 = nI r ∧ (g (o + 14 + j) 2 = 1 → 1 ≤ r)) ∧ ∃ a, a ≤ 600 * tv ∧ g (o + 14 + j) 6 = nI a) ∧
  Bal o nb np g ∧ (∀ p, p < np → PasI nb (g (o + 20 + p))) ∧
  ((∀ j, nb ≤ j → j < 6 → g (o + 14 + j) 2 = 0 ∧ g (o + 14 + j) 5 = 0 ∧ g (o + 14 + j) 6 = 0) ∧ ∀ p, np ≤ p → p < 50 → g (o + 20 + p) 0 = 0 ∧ g (o + 20 + p) 3 = -1 ∧ g (o + 20 + p) 4 = 0 ∧ g (o + 20 + p) 7 = 0)
theorem Inv.beg {o nb np tv : Nat} {g : S2} (I : Inv o nb np tv g) (ht : tv ≤ 1000) : Beg o nb g := fun j hj => by
  obtain ⟨⟨r, r1, r2, r3⟩, a, a1, a2⟩ := I.2.2.2.1 j hj
  exact ⟨⟨r, r1, r2, r3⟩, a, by omega, a2⟩
theorem Inv.step {o nb np tv : Nat} {g : S2} (I : Inv o nb np tv g) (ht : tv ≤ 1000) : ∃ hv, hv ≤ 15 ∧ g o 6 = nI hv ∧ StepM o nb np tv hv g (f_min g o nb np) := by
  obtain ⟨hv, h1, h2⟩ := I.2.1.2
  exact ⟨hv, h1, h2, step_min I.1 h1 (by omega) I.2.1.1 h2 (I.beg ht) I.2.2.2.2.1⟩
theorem Inv.min {o nb np tv : Nat} {g : S2} (I : Inv o nb np tv g) (ht : tv ≤ 1000) : Inv o nb np (tv + 1) (f_min g o nb np) := by
  obtain ⟨hv, hh, h6, ⟨a, ⟨b1, b2⟩, c, d, i, j, s, fr⟩⟩ := I.step ht
  obtain ⟨K0, -, iS, iB, iBal, iP, iF⟩ := I
  have hn6 := K0.1.2
  have h50 := K0.2.1.2
  generalize f_min g o nb np = g1 at a b1 b2 c d i j s fr ⊢
  refine ⟨a, ⟨b1, hv, hh, b2⟩, fun z hz => ?_, fun z hz => ?_, ⟨fun z hz => ?_, s⟩, fun p hp => ?_, fun z h1 h2 => ?_, fun p h1 h2 => ?_⟩
  · obtain ⟨c1, c2, c3⟩ := c z hz
    obtain ⟨s1, s2, s3⟩ := iS z hz
    rw [c1, c2]
    refine ⟨s1, s2, ?_⟩
    rcases c3 with q | q
    · rw [q]
      rcases s3 with y | ⟨y, y1, y2⟩
      · exact Or.inl y
      · exact Or.inr ⟨y, by omega, y2⟩
    · exact Or.inr ⟨tv, by omega, q⟩
  · obtain ⟨⟨r0, d1, d2, d3⟩, u, w, w1, w2, w3, w4⟩ := d z hz
    obtain ⟨⟨r, r1, r2, r3⟩, x, x1, x2⟩ := iB z hz
    refine ⟨?_, u + w, ?_, w4⟩
    · rcases d3 with q | ⟨q1, q2, q3, q4, y, y1, y2, y3⟩ | q | q
      · exact ⟨r0 - 1, by omega, q.2.2.2.2, fun _ => by omega⟩
      · exact ⟨y, y2, y3, fun _ => y1⟩
      · exact ⟨r0 - 1, by omega, q.2.2.2.1, fun z => absurd (q.2.1.symm.trans z) (by decide)⟩
      · obtain ⟨m, m1, m2, m3⟩ := (iS _ (cl0 K0 hz)).1
        exact ⟨m, by omega, q.2.2.2.2.1.trans m3, fun _ => m1⟩
    · have : u = x := (nI_eq (by omega) (by omega)).mp (w3.symm.trans x2)
      omega
  · obtain ⟨r1, r2, y, y1, y2, y3⟩ := j z hz
    exact ⟨y, y1, r2.trans y2, y3, r1⟩
  · obtain ⟨s1, s2, s3, s4⟩ := iP p hp
    obtain ⟨p1, p2, h | ⟨c1, c2, c3, ⟨q, q1, q2, q3⟩, c4, c5, c6⟩ | ⟨c1, c2, c3, c8, c4, c5, c6, c7⟩⟩ := i p hp
    · unfold PasI
      rw [h 0 (by decide) (by decide), h 3 (by decide) (by decide), h 6 (by decide) (by decide), h 7 (by decide) (by decide)]
      exact ⟨s1, s2, s3, s4⟩
    · refine ⟨Or.inr (Or.inl c2), fun _ => ⟨q, q1, q2⟩, fun z => absurd c2 z, fun z => ?_⟩
      rcases z with z | z
      · exact absurd (c2.symm.trans z) (by decide)
      · exact absurd c6 z
    · refine ⟨Or.inr (Or.inr c2), fun z => absurd (c2.symm.trans z) (by decide), fun _ => c4, fun _ => ?_⟩
      rw [c6]; exact nI_pos (by omega)
  · rw [fr _ (Or.inl (by omega))]; exact iF.1 z h1 h2
  · rw [fr _ (Or.inr (by omega))]; exact iF.2 p h1 h2
theorem Inv.mins {o nb np : Nat} {g : S2} : ∀ (n : Nat) {tv : Nat}, tv + n ≤ 1000 → Inv o nb np tv g → Inv o nb np (tv + n) (f_mins g o nb np n)
  | 0, _, _, I => I
  | n + 1, tv, h, I => by
    have h9 := Inv.min (tv := tv + n) (Inv.mins n (by omega) I) (by omega)
    exact h9
