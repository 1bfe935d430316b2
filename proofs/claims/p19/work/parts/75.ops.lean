/-! what the calls do keeps what is true of the line -/
section OPS
variable {o nb np tv : Nat} {g : S2}
theorem Inv.eq {g' : S2} (I : Inv o nb np tv g) (h : ∀ a, o ≤ a → a < o + 70 → g' a = g a) : Inv o nb np tv g' := by
  obtain ⟨a, ⟨b1, hv, b2, b3⟩, c, d, ⟨f1, f2⟩, i, j1, j2⟩ := I
  have hn6 := a.1.2
  have h50 := a.2.1.2
  refine ⟨okl_eq a h, ⟨by rw [h o (by omega) (by omega)]; exact b1, hv, b2, by rw [h o (by omega) (by omega)]; exact b3⟩, fun z hz => by rw [h _ (by omega) (by omega)]; exact c z hz, fun z hz => by rw [h _ (by omega) (by omega)]; exact d z hz, ⟨fun z hz => ?_, ?_⟩, fun p hp => by rw [h _ (by omega) (by omega)]; exact i p hp, fun z h1 h2 => by rw [h _ (by omega) (by omega)]; exact j1 z h1 h2, fun z h1 h2 => by rw [h _ (by omega) (by omega)]; exact j2 z h1 h2⟩
  · rw [rid_congr (g := g) (fun q hq => by rw [h _ (by omega) (by omega)]; exact ⟨rfl, rfl⟩), h _ (by omega) (by omega)]
    exact f1 z hz
  · exact (sumF_congr (fun z hz => by rw [h _ (by omega) (by omega)])).trans (f2.trans (sumF_congr (fun z hz => by rw [h _ (by omega) (by omega)])).symm)
theorem Inv.hold (I : Inv o nb np tv g) {k : Nat} (hk : k ≤ 15) : Inv o nb np tv (u2 g o 6 (nI k)) := by
  obtain ⟨a, ⟨b1, hv, b2, b3⟩, c, d, ⟨f1, f2⟩, i, j1, j2⟩ := I
  have hn6 := a.1.2
  have h50 := a.2.1.2
  have h : ∀ q, q ≠ o → u2 g o 6 (nI k) q = g q := fun q hq => u2_ne hq
  refine ⟨OkL.L a (by decide), ⟨by rw [u2_k (by decide)]; exact b1, k, hk, u2_s⟩, fun z hz => by rw [h _ (by omega)]; exact c z hz, fun z hz => by rw [h _ (by omega)]; exact d z hz, ⟨fun z hz => ?_, ?_⟩, fun p hp => by rw [h _ (by omega)]; exact i p hp, fun z h1 h2 => by rw [h _ (by omega)]; exact j1 z h1 h2, fun z h1 h2 => by rw [h _ (by omega)]; exact j2 z h1 h2⟩
  · rw [rid_congr (g := g) (fun q hq => by rw [h _ (by omega)]; exact ⟨rfl, rfl⟩), h _ (by omega)]
    exact f1 z hz
  · exact (sumF_congr (fun z hz => by rw [h _ (by omega)])).trans (f2.trans (sumF_congr (fun z hz => by rw [h _ (by omega)])).symm)
theorem Inv.set (I : Inv o nb np tv g) {k m z : Nat} (hk : k < 10) (hm1 : 1 ≤ m) (hm : m ≤ 9) (hz : z ≤ 9) : Inv o nb np tv (u2 (u2 g (o + 4 + k) 0 (nI m)) (o + 4 + k) 1 (nI z)) := by
  obtain ⟨a, ⟨b1, hv, b2, b3⟩, c, d, ⟨f1, f2⟩, i, j1, j2⟩ := I
  have hn6 := a.1.2
  have h50 := a.2.1.2
  have h : ∀ q, q ≠ o + 4 + k → u2 (u2 g (o + 4 + k) 0 (nI m)) (o + 4 + k) 1 (nI z) q = g q := fun q hq => by rw [u2_ne hq, u2_ne hq]
  refine ⟨OkL.S (OkL.S a hk) hk, ⟨by rw [h _ (by omega)]; exact b1, hv, b2, by rw [h _ (by omega)]; exact b3⟩, fun y hy => ?_, fun z hz => by rw [h _ (by omega)]; exact d z hz, ⟨fun z hz => ?_, ?_⟩, fun p hp => by rw [h _ (by omega)]; exact i p hp, fun z h1 h2 => by rw [h _ (by omega)]; exact j1 z h1 h2, fun z h1 h2 => by rw [h _ (by omega)]; exact j2 z h1 h2⟩
  · by_cases e9 : y = k
    · subst e9
      exact ⟨⟨m, hm1, hm, by rw [u2_k (by decide), u2_s]⟩, ⟨z, hz, u2_s⟩, by rw [u2_k (by decide), u2_k (by decide)]; exact (c y hy).2.2⟩
    · rw [h _ (by omega)]; exact c y hy
  · rw [rid_congr (g := g) (fun q hq => by rw [h _ (by omega)]; exact ⟨rfl, rfl⟩), h _ (by omega)]
    exact f1 z hz
  · exact (sumF_congr (fun z hz => by rw [h _ (by omega)])).trans (f2.trans (sumF_congr (fun z hz => by rw [h _ (by omega)])).symm)
theorem Inv.again (I : Inv o nb np tv g) {p k : Nat} {t : Int32} (hp : p < np) (hk : k < 10) (h2 : g (o + 20 + p) 0 = 2) : Inv o nb np tv (f_again g (o + 20 + p) (nI k) t) := by
  obtain ⟨a, ⟨b1, hv, b2, b3⟩, c, d, ⟨f1, f2⟩, i, j1, j2⟩ := I
  have hn6 := a.1.2
  have h50 := a.2.1.2
  have h : ∀ q, q ≠ o + 20 + p → f_again g (o + 20 + p) (nI k) t q = g q := fun q hq => by unfold f_again; rw [u2_ne hq, u2_ne hq, u2_ne hq]
  have hr : ∀ j, f_again g (o + 20 + p) (nI k) t (o + 20 + p) j = if j = 2 then nI k else if j = 0 then 0 else if j = 7 then (if 20 < t - g (o + 20 + p) 6 then 0 else 1) else g (o + 20 + p) j := fun j => by
    unfold f_again
    simp only [u2_app]
    simp
  refine ⟨?_, ⟨by rw [h _ (by omega)]; exact b1, hv, b2, by rw [h _ (by omega)]; exact b3⟩, fun z hz => by rw [h _ (by omega)]; exact c z hz, fun z hz => by rw [h _ (by omega)]; exact d z hz, ⟨fun z hz => ?_, ?_⟩, fun q hq => ?_, fun z h1 h2 => by rw [h _ (by omega)]; exact j1 z h1 h2, fun z h1 h2 => by rw [h _ (by omega)]; exact j2 z h1 h2⟩
  · unfold f_again
    exact OkL.P (OkL.P (OkL.P a (by omega) (by omega) (fun _ => by split; exact Or.inl rfl; exact Or.inr rfl)) (by omega) (by omega) (by omega)) (by omega) (fun _ => ⟨k, hk, rfl⟩) (by omega)
  · have e : rid (f_again g (o + 20 + p) (nI k) t) o np z = rid g o np z := cnB_congr (fun q hq => by
      by_cases e9 : q = p
      · subst e9
        rw [hr, if_neg (by decide), if_pos rfl, h2]
        simp
      · rw [h _ (by omega)])
    rw [e, h _ (by omega)]
    exact f1 z hz
  · exact (sumF_congr (fun z hz => by
      by_cases e9 : z = p
      · subst e9; rw [hr]; rfl
      · rw [h _ (by omega)])).trans (f2.trans (sumF_congr (fun z hz => by rw [h _ (by omega)])).symm)
  · by_cases e9 : q = p
    · subst e9
      obtain ⟨s1, s2, s3, s4⟩ := i q hq
      have h00 : f_again g (o + 20 + q) (nI k) t (o + 20 + q) 0 = 0 := hr 0
      exact ⟨Or.inl h00, fun z => absurd (h00.symm.trans z) (by decide), fun _ => (hr 3).trans (s3 (by rw [h2]; decide)), fun _ => by rw [hr 6]; exact s4 (Or.inl h2)⟩
    · rw [h _ (by omega)]; exact i q hq
theorem Inv.addBus (I : Inv o nb np tv g) {x y : Nat} (hlt : nb < 6) (hx : x < 10) (hy : y ≤ 20) : Inv o (nb + 1) np tv (f_addBus g o nb (nI x) (nI y)) := by
  obtain ⟨a, ⟨b1, hv, b2, b3⟩, c, d, ⟨f1, f2⟩, i, j1, j2⟩ := I
  have h50 := a.2.1.2
  obtain ⟨n1, n2, n3⟩ := j1 nb (Nat.le_refl _) hlt
  have h : ∀ q, q ≠ o + 14 + nb → q ≠ o → f_addBus g o nb (nI x) (nI y) q = g q := fun q hq hq2 => by unfold f_addBus; rw [u2_ne hq2, u2_ne hq, u2_ne hq, u2_ne hq]
  have hr : ∀ j, f_addBus g o nb (nI x) (nI y) (o + 14 + nb) j = if j = 4 then nI y else if j = 3 then 1 else if j = 1 then nI x else g (o + 14 + nb) j := fun j => by
    unfold f_addBus
    rw [u2_ne (by omega)]
    simp only [u2_app]
    simp
  have hl : ∀ j, f_addBus g o nb (nI x) (nI y) o j = if j = 3 then nI (nb + 1) else g o j := fun j => by
    unfold f_addBus
    rw [u2_app, u2_ne (by omega), u2_ne (by omega), u2_ne (by omega)]
    simp
  have hrid : ∀ z, rid (f_addBus g o nb (nI x) (nI y)) o np z = rid g o np z := fun z => rid_congr (fun q hq => by rw [h _ (by omega) (by omega)]; exact ⟨rfl, rfl⟩)
  have hnew : rid g o np nb = 0 := by
    have h0 : ∀ m, cnB (fun _ => false) m = 0 := fun m => by
      induction m with
      | zero => rfl
      | succ m ih => unfold cnB; rw [ih]; rfl
    refine Eq.trans (cnB_congr (r := fun _ => false) (fun q hq => ?_)) (h0 np)
    obtain ⟨s1, s2, s3, s4⟩ := i q hq
    refine decide_eq_false (fun z => ?_)
    obtain ⟨k, k1, k2⟩ := s2 z.1
    exact absurd (k2.symm.trans z.2) (nI_ne (by omega) (by omega) (by omega))
  obtain ⟨⟨l1, l2⟩, ⟨l3, l4⟩, l5, l6, l7⟩ := a
  refine ⟨⟨⟨by rw [hl]; rfl, by omega⟩, ⟨by rw [hl]; exact l3, l4⟩, fun z hz => ?_, fun z hz => ?_, fun z hz => by rw [h _ (by omega) (by omega)]; exact l7 z hz⟩, ⟨by rw [hl]; exact b1, hv, b2, by rw [hl]; exact b3⟩, fun z hz => by rw [h _ (by omega) (by omega)]; exact c z hz, fun z hz => ?_, ⟨fun z hz => ?_, ?_⟩, fun q hq => ?_, fun z h1 h2 => by rw [h _ (by omega) (by omega)]; exact j1 z (by omega) h2, fun z h1 h2 => by rw [h _ (by omega) (by omega)]; exact j2 z h1 h2⟩
  · by_cases e9 : z = nb
    · subst e9; rw [hr]; exact l5 z hz
    · rw [h _ (by omega) (by omega)]; exact l5 z hz
  · by_cases e9 : z = nb
    · subst e9
      exact ⟨⟨x, hx, hr 1⟩, Or.inl ((hr 2).trans n1)⟩
    · rw [h _ (by omega) (by omega)]; exact l6 z (by omega)
  · by_cases e9 : z = nb
    · subst e9
      exact ⟨⟨1, by decide, hr 3, fun _ => by omega⟩, 0, by omega, (hr 6).trans n3⟩
    · rw [h _ (by omega) (by omega)]; exact d z (by omega)
  · rw [hrid]
    by_cases e9 : z = nb
    · subst e9
      exact ⟨y, hy, hr 4, by omega, by rw [hnew]; exact (hr 5).trans n2⟩
    · rw [h _ (by omega) (by omega)]; exact f1 z (by omega)
  · have e1 : sumF (fun q => f_addBus g o nb (nI x) (nI y) (o + 20 + q) 4) np = sumF (fun q => g (o + 20 + q) 4) np := sumF_congr (fun z hz => by rw [h _ (by omega) (by omega)])
    have e2 : sumF (fun q => f_addBus g o nb (nI x) (nI y) (o + 14 + q) 6) nb = sumF (fun q => g (o + 14 + q) 6) nb := sumF_congr (fun z hz => by rw [h _ (by omega) (by omega)])
    show _ = sumF _ nb + f_addBus g o nb (nI x) (nI y) (o + 14 + nb) 6
    rw [e1, e2, hr, f2, show (if (6 : Nat) = 4 then nI y else if (6 : Nat) = 3 then 1 else if (6 : Nat) = 1 then nI x else g (o + 14 + nb) 6) = 0 from n3, Int32.add_zero]
  · obtain ⟨s1, s2, s3, s4⟩ := i q hq
    rw [h _ (by omega) (by omega)]
    exact ⟨s1, fun z => by obtain ⟨k, k1, k2⟩ := s2 z; exact ⟨k, by omega, k2⟩, s3, s4⟩
theorem Inv.addPas (I : Inv o nb np tv g) {x y : Nat} (hlt : np < 50) (hx : x < 10) (hy : y < 10) : Inv o nb (np + 1) tv (f_addPas g o np (nI x) (nI y)) := by
  obtain ⟨a, ⟨b1, hv, b2, b3⟩, c, d, ⟨f1, f2⟩, i, j1, j2⟩ := I
  have hn6 := a.1.2
  obtain ⟨n1, n2, n3, n4⟩ := j2 np (Nat.le_refl _) hlt
  have h : ∀ q, q ≠ o + 20 + np → q ≠ o → f_addPas g o np (nI x) (nI y) q = g q := fun q hq hq2 => by unfold f_addPas; rw [u2_ne hq2, u2_ne hq, u2_ne hq]
  have hr : ∀ j, f_addPas g o np (nI x) (nI y) (o + 20 + np) j = if j = 2 then nI y else if j = 1 then nI x else g (o + 20 + np) j := fun j => by
    unfold f_addPas
    rw [u2_ne (by omega)]
    simp only [u2_app]
    simp
  have hl : ∀ j, f_addPas g o np (nI x) (nI y) o j = if j = 4 then nI (np + 1) else g o j := fun j => by
    unfold f_addPas
    rw [u2_app, u2_ne (by omega), u2_ne (by omega)]
    simp
  have hrid : ∀ z, rid (f_addPas g o np (nI x) (nI y)) o (np + 1) z = rid g o np z := fun z => by
    show rid (f_addPas g o np (nI x) (nI y)) o np z + _ = _
    rw [rid_congr (g := g) (fun q hq => by rw [h _ (by omega) (by omega)]; exact ⟨rfl, rfl⟩), if_neg (by
      dsimp only
      rw [hr, if_neg (by decide), if_neg (by decide), n1]; simp)]
    rfl
  obtain ⟨⟨l1, l2⟩, ⟨l3, l4⟩, l5, l6, l7⟩ := a
  refine ⟨⟨⟨by rw [hl]; exact l1, l2⟩, ⟨by rw [hl]; rfl, by omega⟩, fun z hz => by rw [h _ (by omega) (by omega)]; exact l5 z hz, fun z hz => by rw [h _ (by omega) (by omega)]; exact l6 z hz, fun z hz => ?_⟩, ⟨by rw [hl]; exact b1, hv, b2, by rw [hl]; exact b3⟩, fun z hz => by rw [h _ (by omega) (by omega)]; exact c z hz, fun z hz => by rw [h _ (by omega) (by omega)]; exact d z hz, ⟨fun z hz => ?_, ?_⟩, fun q hq => ?_, fun z h1 h2 => by rw [h _ (by omega) (by omega)]; exact j1 z h1 h2, fun z h1 h2 => by rw [h _ (by omega) (by omega)]; exact j2 z (by omega) h2⟩
  · by_cases e9 : z = np
    · subst e9
      exact ⟨⟨x, hx, hr 1⟩, ⟨y, hy, hr 2⟩, Or.inl ((hr 7).trans n4)⟩
    · rw [h _ (by omega) (by omega)]; exact l7 z (by omega)
  · rw [hrid, h _ (by omega) (by omega)]; exact f1 z hz
  · have e1 : sumF (fun q => f_addPas g o np (nI x) (nI y) (o + 20 + q) 4) np = sumF (fun q => g (o + 20 + q) 4) np := sumF_congr (fun z hz => by rw [h _ (by omega) (by omega)])
    have e2 : sumF (fun q => f_addPas g o np (nI x) (nI y) (o + 14 + q) 6) nb = sumF (fun q => g (o + 14 + q) 6) nb := sumF_congr (fun z hz => by rw [h _ (by omega) (by omega)])
    show sumF _ np + f_addPas g o np (nI x) (nI y) (o + 20 + np) 4 = _
    rw [e1, e2, hr, f2, show (if (4 : Nat) = 2 then nI y else if (4 : Nat) = 1 then nI x else g (o + 20 + np) 4) = 0 from n3, Int32.add_zero]
  · by_cases e9 : q = np
    · subst e9
      exact ⟨Or.inl ((hr 0).trans n1), fun z => absurd (((hr 0).trans n1).symm.trans z) (by decide), fun _ => (hr 3).trans n2, fun z => by
        rcases z with z | z
        · exact absurd (((hr 0).trans n1).symm.trans z) (by decide)
        · exact absurd ((hr 7).trans n4) z⟩
    · rw [h _ (by omega) (by omega)]; exact i q (by omega)
end OPS
theorem NumT.kp {g g1 : S2} (h : NumT g) (he : ∀ a, 85 ≤ a → a < 91 → g1 a = g a) : NumT g1 := fun j hj => by rw [he _ (by omega) (by omega)]; exact h j hj
theorem inv_born : Inv 1 0 0 0 g00 := by
  have hL : isL 1 := Or.inl rfl
  refine ⟨⟨⟨g00_L hL, by omega⟩, ⟨g00_L hL, by omega⟩, fun j hj => (g00_B hL hj).1, fun j hj => absurd hj (Nat.not_lt_zero j), fun j hj => absurd hj (Nat.not_lt_zero j)⟩, ⟨g00_L hL, 0, by omega, g00_L hL⟩, fun i hi => ?_, fun j hj => absurd hj (Nat.not_lt_zero j), ⟨fun j hj => absurd hj (Nat.not_lt_zero j), rfl⟩, fun j hj => absurd hj (Nat.not_lt_zero j), fun j _ hj => ?_, fun p _ hp => ?_⟩
  · obtain ⟨e0, e1, e2⟩ := g00_S hL hi
    exact ⟨⟨2, by omega, by omega, e0⟩, ⟨i / 2, by omega, e1⟩, Or.inl e2⟩
  · have e := (g00_B hL hj).2
    exact ⟨e _ (by decide), e _ (by decide), e _ (by decide)⟩
  · have e := g00_P hL hp
    rw [e, e, e, e]
    exact ⟨rfl, rfl, rfl, rfl⟩
theorem numT_born : NumT g00 := fun j hj => (g00_B (Or.inr rfl) hj).1
