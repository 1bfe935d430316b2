/-! what is true between two calls: the class's line (1) beside the reference's state (145) -/
def Inv2 (nb np : Nat) (g d : S2) : Prop := SimK 1 145 nb np e0 g d ∧ NNL 145 nb d ∧ FreshC 1 nb np g ∧ FreshR 145 nb np d
def Inv (nb np : Nat) (g : S2) : Prop := Inv2 nb np g g ∧ NumT g
def EqC (g g' : S2) : Prop := ∀ a, a < 71 → g' a = g a
def EqD (d d' : S2) : Prop := (∀ a, 142 ≤ a → a < 159 → d' a = d a) ∧ d' 141 1 = d 141 1 ∧ d' 141 2 = d 141 2
theorem EqC.rf {g : S2} : EqC g g := fun _ _ => rfl
theorem EqD.rf {g : S2} : EqD g g := ⟨fun _ _ _ => rfl, rfl, rfl⟩
theorem EqC.tr {g g1 g2 : S2} (h : EqC g g1) (k : EqC g1 g2) : EqC g g2 := fun a ha => (k a ha).trans (h a ha)
theorem EqD.tr {g g1 g2 : S2} (h : EqD g g1) (k : EqD g1 g2) : EqD g g2 := ⟨fun a h1 h2 => (k.1 a h1 h2).trans (h.1 a h1 h2), k.2.1.trans h.2.1, k.2.2.trans h.2.2⟩
theorem FreshC.eq2 {nb np : Nat} {g g' : S2} (h : FreshC 1 nb np g) (e : EqC g g') : FreshC 1 nb np g' :=
  ⟨fun j h1 h2 => by rw [e _ (by omega)]; exact h.1 j h1 h2, fun p h1 h2 => by rw [e _ (by omega)]; exact h.2 p h1 h2⟩
theorem inv2_eq {nb np : Nat} {g d g' d' : S2} (h : Inv2 nb np g d) (hc : EqC g g') (hd : EqD d d') : Inv2 nb np g' d' := by
  obtain ⟨⟨⟨c1, c2, c3, c4, c5⟩, hr, ⟨hl, hk⟩, hv, hi⟩, hn, fc, fr⟩ := h
  have h6 := hl.1.2
  have h50 := hl.2.1.2
  obtain ⟨hd, hd1, hd2⟩ := hd
  refine ⟨⟨⟨fun i hi => ?_, fun j hj => ?_, fun p k hp hk => ?_, ?_, ?_⟩, fun j hj => ?_, ⟨okl_eq hl (fun a h1 h2 => hc a (by omega)), ?_⟩, nnv_eq hv (hd _ (by omega) (by omega)) (hd _ (by omega) (by omega)) (by rw [hd _ (by omega) (by omega)]), fun p hp => ?_⟩, fun j hj => ?_, fc.eq2 (nb := nb) hc, ?_⟩
  · rw [hc _ (by omega), hd _ (by omega) (by omega), hd _ (by omega) (by omega), hd _ (by omega) (by omega)]; exact c1 i hi
  · rw [hc _ (by omega), hd _ (by omega) (by omega), hd _ (by omega) (by omega), hd _ (by omega) (by omega), hd _ (by omega) (by omega), hd _ (by omega) (by omega)]; exact c2 j hj
  · rw [hc _ (by omega), hd _ (by omega) (by omega)]; exact c3 p k hp hk
  · rw [hc _ (by omega), hd _ (by omega) (by omega)]; exact c4
  · rw [hc _ (by omega), hd _ (by omega) (by omega)]; exact c5
  · rw [hc _ (by omega), rid_eq (hd _ (by omega) (by omega)) (hd _ (by omega) (by omega))]; exact hr j hj
  · obtain ⟨⟨a1, a2⟩, ⟨b1, b2⟩, c, d⟩ := hk
    exact ⟨⟨by rw [hd1]; exact a1, a2⟩, ⟨by rw [hd2]; exact b1, b2⟩, fun j hj => by rw [hd _ (by omega) (by omega)]; exact c j hj, fun p hp => by rw [hd _ (by omega) (by omega)]; exact d p hp⟩
  · rw [hd _ (by omega) (by omega), hd _ (by omega) (by omega)]; exact hi p hp
  · rw [hd _ (by omega) (by omega)]; exact hn j hj
  · refine ⟨fun j h1 h2 => ?_, fun p h1 h2 => ?_⟩
    · rw [hd _ (by omega) (by omega), hd _ (by omega) (by omega)]; exact fr.1 j h1 h2
    · rw [hd _ (by omega) (by omega), hd _ (by omega) (by omega), hd _ (by omega) (by omega), hd _ (by omega) (by omega)]; exact fr.2 p h1 h2
theorem inv_join {nb np : Nat} {g d g2 : S2} (h : Inv2 nb np g d) (hc : EqC g g2) (hd : EqD d g2) (hN : NumT g2) : Inv nb np g2 := ⟨inv2_eq h hc hd, hN⟩
theorem eqd_thr {g : S2} {x : Int32} : EqD g (u2 g 141 0 x) := ⟨fun a h1 h2 => u2_ne (by omega), u2_k (by decide), u2_k (by decide)⟩
theorem eqc_thr {g : S2} {x : Int32} : EqC g (u2 g 141 0 x) := fun a h1 => u2_ne (by omega)
theorem num_thr {g : S2} {x : Int32} (h : NumT g) : NumT (u2 g 141 0 x) := fun j hj => by rw [u2_n (by omega)]; exact h j hj
theorem inv_thr {nb np : Nat} {g : S2} {x : Int32} (h : Inv nb np g) : Inv nb np (u2 g 141 0 x) := inv_join h.1 eqc_thr eqd_thr (num_thr h.2)
-- the calls that change a state
theorem i2_set {nb np i : Nat} {g d : S2} {x y : Int32} (h : Inv2 nb np g d) (hi : i < 10) (hx : NN x) : Inv2 nb np (u2 (u2 g (1 + 4 + i) 0 x) (1 + 4 + i) 1 y) (u2 (u2 d 142 i x) 143 i y) := by
  obtain ⟨⟨⟨c1, c2, c3, c4, c5⟩, hr, ⟨hl, hk⟩, hv, hi2⟩, hn, fc, fr⟩ := h
  have h6 := hl.1.2
  have h50 := hl.2.1.2
  refine ⟨⟨⟨fun q hq => ?_, fun j hj => ?_, fun p k hp hk => ?_, ?_, ?_⟩, fun j hj => ?_, ⟨OkL.S (OkL.S hl hi) hi, OkR.u (OkR.u hk (by omega) (by omega) (by omega)) (by omega) (by omega) (by omega)⟩, ⟨fun j hj => ?_, fun q hq => ?_, ?_⟩, (hi2.u (by omega) (by omega)).u (by omega) (by omega)⟩, nnl_u (nnl_u hn (by omega)) (by omega), fc.eq (fun a ha => by unfold OutN at ha; rw [u2_ne (by omega), u2_ne (by omega)]), fr.eq (fun a k ha => by unfold OutM at ha; rw [u2_n (by omega), u2_n (by omega)])⟩
  · obtain ⟨a1, a2, a3⟩ := c1 q hq
    by_cases z : q = i
    · subst z
      refine ⟨?_, ?_, ?_⟩
      · rw [u2_app, if_neg (by omega), u2_s, u2_n (by omega), u2_s]
      · rw [u2_s, u2_s]
      · rw [u2_app, if_neg (by omega), u2_app, if_neg (by omega), u2_n (by omega), u2_n (by omega)]; exact a3
    · refine ⟨?_, ?_, ?_⟩
      · (repeat rw [u2_app, if_neg (by omega)]); exact a1
      · (repeat rw [u2_app, if_neg (by omega)]); exact a2
      · (repeat rw [u2_app, if_neg (by omega)]); exact a3
  · (repeat rw [u2_n (by omega)]); exact c2 j hj
  · (repeat rw [u2_n (by omega)]); exact c3 p k hp hk
  · (repeat rw [u2_n (by omega)]); exact c4
  · (repeat rw [u2_n (by omega)]); exact c5
  · rw [u2_n (by omega), u2_n (by omega), rid_eq (d := d) (by rw [u2_ne (by omega), u2_ne (by omega)]) (by rw [u2_ne (by omega), u2_ne (by omega)])]; exact hr j hj
  · (repeat rw [u2_n (by omega)]); exact hv.1 j hj
  · rw [u2_n (by omega)]
    exact u2_if (C := NN) (hv.2.1 q hq) (fun _ _ => hx)
  · (repeat rw [u2_n (by omega)]); exact hv.2.2
theorem i2_hold {nb np : Nat} {g d : S2} {x : Int32} (h : Inv2 nb np g d) (hx : NN x) : Inv2 nb np (u2 g 1 6 x) (u2 d 145 1 x) := by
  obtain ⟨⟨hc, hr, ⟨hl, hk⟩, hv, hi2⟩, hn, fc, fr⟩ := h
  have h6 := hl.1.2
  refine ⟨⟨simc_T (k := 1) (Or.inl rfl) hc (by omega), fun i hi => ?_, ⟨OkL.L hl (by decide), OkR.u hk (by omega) (by omega) (by omega)⟩, ⟨fun j hj => by rw [u2_n (by omega)]; exact hv.1 j hj, fun i hi => by rw [u2_n (by omega)]; exact hv.2.1 i hi, by rw [u2_s]; exact hx⟩, hi2.u (by omega) (by omega)⟩, nnl_u hn (by omega), fc.eq (fun a ha => by unfold OutN at ha; rw [u2_ne (by omega)]), fr.eq (fun a k ha => by unfold OutM at ha; rw [u2_n (by omega)])⟩
  rw [u2_n (by omega), hr i hi, rid_eq (u2_ne (by omega)) (u2_ne (by omega))]
theorem i2_go {nb np n : Nat} {g d : S2} (h : Inv2 nb np g d) : Inv2 nb np (f_mins g 1 nb np n) (r_gos d 145 nb np n).1 := by
  obtain ⟨a, b⟩ := sim_gos (Or.inl rfl) h.1 h.2.1 n
  exact ⟨a, b, h.2.2.1.eq (fun q hq => fn_mins hq h.1.2.2.1.1), h.2.2.2.eq (fun q k hq => fm_gos hq n)⟩
theorem i2_change {nb np p : Nat} {g d : S2} {y : Int32} (h : Inv2 nb np g d) (hp : p < np) (hy : D10 y) (h2 : d (145 + 6) p = 2) : f_again g (1 + 20 + p) y (g 1 5) (1 + 20 + p) 7 = r_soon d p ∧ Inv2 nb np (f_again g (1 + 20 + p) y (g 1 5)) (r_change d p y) := by
  obtain ⟨⟨hc, hr, ⟨hl, hk⟩, hv, hi2⟩, hn, fc, fr⟩ := h
  have h6 := hl.1.2
  have h50 := hl.2.1.2
  have hT : isT 145 := Or.inl rfl
  have e : (if 20 < g 1 5 - g (1 + 20 + p) 6 then (0 : Int32) else 1) = r_soon d p := by
    rw [hc.2.2.2.1, hc.2.2.1 p 6 hp (by omega)]; rfl
  have e01 : r_soon d p = 0 ∨ r_soon d p = 1 := by
    unfold r_soon; split
    · exact Or.inl rfl
    · exact Or.inr rfl
  have hm : r_change d p y = u2 (u2 (u2 d (145 + 13) p (r_soon d p)) (145 + 6) p 0) (145 + 8) p y := by
    unfold r_change
    rw [u2_comm (i := 145 + 8) (i' := 145 + 13) (by omega), u2_comm (i := 145 + 6) (i' := 145 + 13) (by omega)]
  refine ⟨?_, ⟨?_, fun i hi => ?_, ⟨?_, ?_⟩, ?_, ?_⟩, ?_, ?_, ?_⟩
  · unfold f_again
    rw [u2_k (by decide), u2_k (by decide), u2_s]; exact e
  · rw [hm]
    unfold f_again
    rw [e]
    exact simc_P (k := 2) hT h6 (simc_P (k := 0) hT h6 (simc_P (k := 7) hT h6 hc hp (by omega) h50) hp (by omega) h50) hp (by omega) h50
  · unfold f_again
    rw [u2_n (by omega), u2_n (by omega), u2_n (by omega), hr i hi]
    congr 2
    unfold r_rid
    have hu := cnB_upd (A := fun q => decide (d (145 + 6) q = 1 ∧ d (145 + 9) q = nI i)) (B := fun q => decide (r_change d p y (145 + 6) q = 1 ∧ r_change d p y (145 + 9) q = nI i)) (p := p) (fun q hq => by
      have q1 : r_change d p y (145 + 6) q = d (145 + 6) q := by unfold r_change; (repeat rw [u2_app, if_neg (by omega)])
      have q2 : r_change d p y (145 + 9) q = d (145 + 9) q := by unfold r_change; (repeat rw [u2_app, if_neg (by omega)])
      show decide (_ ∧ _) = decide (_ ∧ _)
      rw [q1, q2]) (n := np) hp
    have s6 : r_change d p y (145 + 6) p = 0 := by unfold r_change; rw [u2_n (by omega), u2_n (by omega), u2_s]
    have w1 : decide (r_change d p y (145 + 6) p = 1 ∧ r_change d p y (145 + 9) p = nI i) = false := decide_eq_false (fun q => absurd (s6.symm.trans q.1) (by decide))
    have w2 : decide (d (145 + 6) p = 1 ∧ d (145 + 9) p = nI i) = false := decide_eq_false (fun q => absurd (h2.symm.trans q.1) (by decide))
    rw [w1, w2] at hu
    exact hu
  · unfold f_again
    rw [e]
    exact OkL.P (OkL.P (OkL.P hl (by omega) (by omega) (fun _ => e01)) (by omega) (by omega) (by omega)) (by omega) (fun _ => hy) (by omega)
  · unfold r_change
    exact OkR.u (OkR.u (OkR.u hk (by omega) (by omega) (by omega)) (by omega) (by omega) (fun _ => hy)) (by omega) (by omega) (by omega)
  · unfold r_change
    exact ((hv.u (by omega) (by omega) (by omega)).u (by omega) (by omega) (by omega)).u (by omega) (by omega) (by omega)
  · intro q hq
    by_cases hpq : q = p
    · subst hpq
      have s6 : r_change d q y (145 + 6) q = 0 := by unfold r_change; rw [u2_n (by omega), u2_n (by omega), u2_s]
      exact fun z => absurd (s6.symm.trans z) (by decide)
    · have q1 : r_change d p y (145 + 6) q = d (145 + 6) q := by unfold r_change; (repeat rw [u2_app, if_neg (by omega)])
      have q2 : r_change d p y (145 + 9) q = d (145 + 9) q := by unfold r_change; (repeat rw [u2_app, if_neg (by omega)])
      rw [q1, q2]; exact hi2 q hq
  · unfold r_change
    exact nnl_u (nnl_u (nnl_u hn (by omega)) (by omega)) (by omega)
  · refine fc.eq (fun a ha => ?_)
    unfold OutN at ha; unfold f_again
    rw [u2_ne (by omega), u2_ne (by omega), u2_ne (by omega)]
  · refine fr.eq (fun a k ha => ?_)
    unfold OutM at ha; unfold r_change
    (repeat rw [u2_app, if_neg (by omega)])
theorem i2_start {nb np : Nat} {g d : S2} {x y : Int32} (h : Inv2 nb np g d) (hb : nb < 6) (hx : D10 x) (hy : NN y) : Inv2 (nb + 1) np (f_addBus g 1 nb x y) (r_start d nb x y) := by
  obtain ⟨⟨⟨c1, c2, c3, c4, c5⟩, hr, ⟨hl, hk⟩, hv, hi2⟩, hn, fc, fr⟩ := h
  have h50 := hl.2.1.2
  obtain ⟨⟨a1, a2⟩, ⟨b1, b2⟩, lc, ld, le⟩ := hl
  obtain ⟨⟨r1, r2⟩, ⟨r3, r4⟩, rc, rd⟩ := hk
  obtain ⟨f1, f2, f3⟩ := fc.1 nb (Nat.le_refl _) hb
  obtain ⟨f4, f5⟩ := fr.1 nb (Nat.le_refl _) hb
  have n0 : r_rid d 145 nb np = 0 := by
    unfold r_rid
    have hz : ∀ n, n ≤ np → cnB (fun q => decide (d (145 + 6) q = 1 ∧ d (145 + 9) q = nI nb)) n = 0 := by
      intro n
      induction n with
      | zero => exact fun _ => rfl
      | succ n ih =>
        intro hn
        have hf : decide (d (145 + 6) n = 1 ∧ d (145 + 9) n = nI nb) = false := decide_eq_false (fun q => by
          obtain ⟨j, hj, e⟩ := hi2 n (by omega) q.1
          exact nI_ne (show nb ≠ j by omega) (by omega) (by omega) (q.2.symm.trans e))
        rw [cnB_0 (q := fun q => decide (d (145 + 6) q = 1 ∧ d (145 + 9) q = nI nb)) hf]
        exact ih (by omega)
    exact hz np (Nat.le_refl _)
  have gB : ∀ j k, j < nb → f_addBus g 1 nb x y (1 + 14 + j) k = g (1 + 14 + j) k := fun j k hj => by unfold f_addBus; (repeat rw [u2_n (by omega)])
  have gO : ∀ a k, a ≠ 1 → (a < 15 ∨ 21 ≤ a) → f_addBus g 1 nb x y a k = g a k := fun a k h1 h2 => by unfold f_addBus; (repeat rw [u2_n (by omega)])
  have g1' : ∀ k, k ≠ 3 → f_addBus g 1 nb x y 1 k = g 1 k := fun k hk => by unfold f_addBus; rw [u2_k hk]; (repeat rw [u2_n (by omega)])
  have gN1 : f_addBus g 1 nb x y (1 + 14 + nb) 1 = x := by unfold f_addBus; rw [u2_n (by omega), u2_k (by decide), u2_k (by decide), u2_s]
  have gN3 : f_addBus g 1 nb x y (1 + 14 + nb) 3 = 1 := by unfold f_addBus; rw [u2_n (by omega), u2_k (by decide), u2_s]
  have gN4 : f_addBus g 1 nb x y (1 + 14 + nb) 4 = y := by unfold f_addBus; rw [u2_n (by omega), u2_s]
  have gNk : ∀ k, k ≠ 1 → k ≠ 3 → k ≠ 4 → f_addBus g 1 nb x y (1 + 14 + nb) k = g (1 + 14 + nb) k := fun k h1 h3 h4 => by unfold f_addBus; rw [u2_n (by omega), u2_k h4, u2_k h3, u2_k h1]
  have dO : ∀ a k, a ≠ 141 → a ≠ 144 → a ≠ 147 → a ≠ 149 → r_start d nb x y a k = d a k := fun a k h1 h2 h3 h4 => by unfold r_start; (repeat rw [u2_n (by omega)])
  have dK : ∀ a k, a ≠ 141 → k ≠ nb → r_start d nb x y a k = d a k := fun a k h1 h2 => by unfold r_start; rw [u2_n (by omega)]; (repeat rw [u2_app, if_neg (by omega)])
  have d144 : r_start d nb x y 144 nb = y := by unfold r_start; rw [u2_n (by omega), u2_n (by omega), u2_n (by omega), u2_s]
  have d147 : r_start d nb x y (145 + 2) nb = x := by unfold r_start; rw [u2_n (by omega), u2_n (by omega), u2_s]
  have d149 : r_start d nb x y (145 + 4) nb = 1 := by unfold r_start; rw [u2_n (by omega), u2_s]
  have d1 : r_start d nb x y 141 1 = nI (nb + 1) := by unfold r_start; rw [u2_s]
  have d2 : r_start d nb x y 141 2 = nI np := by unfold r_start; rw [u2_k (by decide), u2_n (by omega), u2_n (by omega), u2_n (by omega)]; exact r3
  refine ⟨⟨⟨fun i hi => ?_, fun j hj => ?_, fun p k hp hk => ?_, ?_, ?_⟩, fun j hj => ?_, ⟨⟨⟨?_, by omega⟩, ⟨?_, b2⟩, fun j hj => ?_, fun j hj => ?_, fun p hp => ?_⟩, ⟨⟨d1, by omega⟩, ⟨d2, b2⟩, fun j hj => ?_, fun p hp => ?_⟩⟩, ⟨fun j hj => ?_, fun i hi => ?_, ?_⟩, fun p hp => ?_⟩, fun j hj => ?_, ⟨fun j h1 h2 => ?_, fun p h1 h2 => ?_⟩, ⟨fun j h1 h2 => ?_, fun p h1 h2 => ?_⟩⟩
  · rw [gO _ _ (by omega) (by omega), gO _ _ (by omega) (by omega), gO _ _ (by omega) (by omega), dO _ _ (by omega) (by omega) (by omega) (by omega), dO _ _ (by omega) (by omega) (by omega) (by omega), dO _ _ (by omega) (by omega) (by omega) (by omega)]; exact c1 i hi
  · rcases Nat.lt_or_ge j nb with q | q
    · rw [gB j _ q, gB j _ q, gB j _ q, gB j _ q, gB j _ q, dK _ j (by omega) (by omega), dK _ j (by omega) (by omega), dK _ j (by omega) (by omega), dK _ j (by omega) (by omega), dK _ j (by omega) (by omega)]; exact c2 j q
    · have e : j = nb := by omega
      subst e
      rw [gN1, gN3, gN4, gNk 2 (by decide) (by decide) (by decide), gNk 6 (by decide) (by decide) (by decide), d144, d147, d149, dO (145 + 3) _ (by omega) (by omega) (by omega) (by omega), dO (145 + 5) _ (by omega) (by omega) (by omega) (by omega), f1, f3, f4, f5]
      exact ⟨rfl, rfl, rfl, rfl, rfl⟩
  · rw [gO _ _ (by omega) (by omega), dO _ _ (by omega) (by omega) (by omega) (by omega)]; exact c3 p k hp hk
  · rw [g1' 5 (by decide), dO _ _ (by omega) (by omega) (by omega) (by omega)]; exact c4
  · rw [g1' 6 (by decide), dO _ _ (by omega) (by omega) (by omega) (by omega)]; exact c5
  · have er : r_rid (r_start d nb x y) 145 j np = r_rid d 145 j np := rid_same (fun q hq => ⟨dO _ _ (by omega) (by omega) (by omega) (by omega), dO _ _ (by omega) (by omega) (by omega) (by omega)⟩)
    rw [er]
    rcases Nat.lt_or_ge j nb with q | q
    · rw [gB j _ q]; exact hr j q
    · have e : j = nb := by omega
      subst e
      rw [gNk 5 (by decide) (by decide) (by decide), f2, n0]; rfl
  · unfold f_addBus; rw [u2_s]
  · rw [g1' 4 (by decide)]; exact b1
  · rcases Nat.lt_trichotomy j nb with q | q | q
    · rw [gB j _ q]; exact lc j hj
    · subst q; rw [gNk 0 (by decide) (by decide) (by decide)]; exact lc j hj
    · unfold f_addBus; (repeat rw [u2_n (by omega)]); exact lc j hj
  · rcases Nat.lt_or_ge j nb with q | q
    · rw [gB j _ q, gB j _ q]; exact ld j q
    · have e : j = nb := by omega
      subst e
      rw [gN1, gNk 2 (by decide) (by decide) (by decide), f1]
      exact ⟨hx, Or.inl rfl⟩
  · rw [gO _ _ (by omega) (by omega), gO _ _ (by omega) (by omega), gO _ _ (by omega) (by omega)]; exact le p hp
  · rcases Nat.lt_or_ge j nb with q | q
    · rw [dK _ j (by omega) (by omega)]; exact rc j q
    · have e : j = nb := by omega
      subst e
      rw [d147]; exact hx
  · rw [dO _ _ (by omega) (by omega) (by omega) (by omega)]; exact rd p hp
  · rcases Nat.lt_or_ge j nb with q | q
    · rw [dK _ j (by omega) (by omega)]; exact hv.1 j q
    · have e : j = nb := by omega
      subst e
      rw [d144]; exact hy
  · rw [dO _ _ (by omega) (by omega) (by omega) (by omega)]; exact hv.2.1 i hi
  · rw [dO _ _ (by omega) (by omega) (by omega) (by omega)]; exact hv.2.2
  · rw [dO _ _ (by omega) (by omega) (by omega) (by omega), dO _ _ (by omega) (by omega) (by omega) (by omega)]
    intro z
    obtain ⟨j, hj, e⟩ := hi2 p hp z
    exact ⟨j, by omega, e⟩
  · rcases Nat.lt_or_ge j nb with q | q
    · rw [dK _ j (by omega) (by omega)]; exact hn j q
    · have e : j = nb := by omega
      subst e
      rw [d149]; exact NN.of (m := 1) (by decide)
  · unfold f_addBus; (repeat rw [u2_n (by omega)]); exact fc.1 j (by omega) h2
  · rw [gO _ _ (by omega) (by omega), gO _ _ (by omega) (by omega), gO _ _ (by omega) (by omega), gO _ _ (by omega) (by omega), gO _ _ (by omega) (by omega), gO _ _ (by omega) (by omega)]; exact fc.2 p h1 h2
  · rw [dO _ _ (by omega) (by omega) (by omega) (by omega), dO _ _ (by omega) (by omega) (by omega) (by omega)]; exact fr.1 j (by omega) h2
  · rw [dO _ _ (by omega) (by omega) (by omega) (by omega), dO _ _ (by omega) (by omega) (by omega) (by omega), dO _ _ (by omega) (by omega) (by omega) (by omega), dO _ _ (by omega) (by omega) (by omega) (by omega)]; exact fr.2 p h1 h2
theorem i2_queue {nb np : Nat} {g d : S2} {x y : Int32} (h : Inv2 nb np g d) (hp : np < 50) (hx : D10 x) (hy : D10 y) : Inv2 nb (np + 1) (f_addPas g 1 np x y) (r_queue d np x y) := by
  obtain ⟨⟨⟨c1, c2, c3, c4, c5⟩, hr, ⟨hl, hk⟩, hv, hi2⟩, hn, fc, fr⟩ := h
  have h6 := hl.1.2
  obtain ⟨⟨a1, a2⟩, ⟨b1, b2⟩, lc, ld, le⟩ := hl
  obtain ⟨⟨r1, r2⟩, ⟨r3, r4⟩, rc, rd⟩ := hk
  obtain ⟨f0, f3, f4, f5, f6, f7⟩ := fc.2 np (Nat.le_refl _) hp
  obtain ⟨q6, q10, q11, q13⟩ := fr.2 np (Nat.le_refl _) hp
  have gO : ∀ a k, a ≠ 1 → a ≠ 1 + 20 + np → f_addPas g 1 np x y a k = g a k := fun a k h1 h2 => by unfold f_addPas; (repeat rw [u2_n (by omega)])
  have g1' : ∀ k, k ≠ 4 → f_addPas g 1 np x y 1 k = g 1 k := fun k hk => by unfold f_addPas; rw [u2_k hk]; (repeat rw [u2_n (by omega)])
  have gN1 : f_addPas g 1 np x y (1 + 20 + np) 1 = x := by unfold f_addPas; rw [u2_n (by omega), u2_k (by decide), u2_s]
  have gN2 : f_addPas g 1 np x y (1 + 20 + np) 2 = y := by unfold f_addPas; rw [u2_n (by omega), u2_s]
  have gNk : ∀ k, k ≠ 1 → k ≠ 2 → f_addPas g 1 np x y (1 + 20 + np) k = g (1 + 20 + np) k := fun k h1 h2 => by unfold f_addPas; rw [u2_n (by omega), u2_k h2, u2_k h1]
  have dO : ∀ a k, a ≠ 141 → a ≠ 152 → a ≠ 153 → a ≠ 154 → a ≠ 157 → r_queue d np x y a k = d a k := fun a k h1 h2 h3 h4 h5 => by unfold r_queue; (repeat rw [u2_n (by omega)])
  have dK : ∀ a k, a ≠ 141 → k ≠ np → r_queue d np x y a k = d a k := fun a k h1 h2 => by unfold r_queue; rw [u2_n (by omega)]; (repeat rw [u2_app, if_neg (by omega)])
  have d7 : r_queue d np x y (145 + 7) np = x := by unfold r_queue; rw [u2_n (by omega), u2_n (by omega), u2_n (by omega), u2_n (by omega), u2_s]
  have d8 : r_queue d np x y (145 + 8) np = y := by unfold r_queue; rw [u2_n (by omega), u2_n (by omega), u2_n (by omega), u2_s]
  have d9 : r_queue d np x y (145 + 9) np = -1 := by unfold r_queue; rw [u2_n (by omega), u2_n (by omega), u2_s]
  have d12 : r_queue d np x y (145 + 12) np = -1 := by unfold r_queue; rw [u2_n (by omega), u2_s]
  have d2 : r_queue d np x y 141 2 = nI (np + 1) := by unfold r_queue; rw [u2_s]
  have d1 : r_queue d np x y 141 1 = nI nb := by unfold r_queue; rw [u2_k (by decide)]; (repeat rw [u2_n (by omega)]); exact r1
  refine ⟨⟨⟨fun i hi => ?_, fun j hj => ?_, fun p k hp hk => ?_, ?_, ?_⟩, fun j hj => ?_, ⟨⟨⟨?_, a2⟩, ⟨?_, by omega⟩, fun j hj => ?_, fun j hj => ?_, fun p hp => ?_⟩, ⟨⟨d1, a2⟩, ⟨d2, by omega⟩, fun j hj => ?_, fun p hp => ?_⟩⟩, ⟨fun j hj => ?_, fun i hi => ?_, ?_⟩, fun p hp => ?_⟩, fun j hj => ?_, ⟨fun j h1 h2 => ?_, fun p h1 h2 => ?_⟩, ⟨fun j h1 h2 => ?_, fun p h1 h2 => ?_⟩⟩
  · rw [gO _ _ (by omega) (by omega), gO _ _ (by omega) (by omega), gO _ _ (by omega) (by omega), dO _ _ (by omega) (by omega) (by omega) (by omega) (by omega), dO _ _ (by omega) (by omega) (by omega) (by omega) (by omega), dO _ _ (by omega) (by omega) (by omega) (by omega) (by omega)]; exact c1 i hi
  · rw [gO _ _ (by omega) (by omega), gO _ _ (by omega) (by omega), gO _ _ (by omega) (by omega), gO _ _ (by omega) (by omega), gO _ _ (by omega) (by omega), dO _ _ (by omega) (by omega) (by omega) (by omega) (by omega), dO _ _ (by omega) (by omega) (by omega) (by omega) (by omega), dO _ _ (by omega) (by omega) (by omega) (by omega) (by omega), dO _ _ (by omega) (by omega) (by omega) (by omega) (by omega), dO _ _ (by omega) (by omega) (by omega) (by omega) (by omega)]; exact c2 j hj
  · rcases Nat.lt_or_ge p np with q | q
    · rw [gO _ _ (by omega) (by omega), dK _ p (by omega) (by omega)]; exact c3 p k q hk
    · have e : p = np := by omega
      subst e
      rcases (by omega : k = 0 ∨ k = 1 ∨ k = 2 ∨ k = 3 ∨ k = 4 ∨ k = 5 ∨ k = 6 ∨ k = 7) with rfl | rfl | rfl | rfl | rfl | rfl | rfl | rfl
      · rw [gNk _ (by decide) (by decide), dO (145 + 6) _ (by omega) (by omega) (by omega) (by omega) (by omega), f0, q6]
      · rw [gN1]; exact d7.symm
      · rw [gN2]; exact d8.symm
      · rw [gNk _ (by decide) (by decide), f3]; exact d9.symm
      · rw [gNk _ (by decide) (by decide), dO _ _ (by omega) (by omega) (by omega) (by omega) (by omega), f4]; exact q10.symm
      · rw [gNk _ (by decide) (by decide), dO _ _ (by omega) (by omega) (by omega) (by omega) (by omega), f5]; exact q11.symm
      · rw [gNk _ (by decide) (by decide), f6]; exact d12.symm
      · rw [gNk _ (by decide) (by decide), dO _ _ (by omega) (by omega) (by omega) (by omega) (by omega), f7]; exact q13.symm
  · rw [g1' 5 (by decide), dO _ _ (by omega) (by omega) (by omega) (by omega) (by omega)]; exact c4
  · rw [g1' 6 (by decide), dO _ _ (by omega) (by omega) (by omega) (by omega) (by omega)]; exact c5
  · rw [gO _ _ (by omega) (by omega), hr j hj]
    congr 2
    unfold r_rid
    have hf : decide (r_queue d np x y (145 + 6) np = 1 ∧ r_queue d np x y (145 + 9) np = nI j) = false := decide_eq_false (fun q => by
      rw [dO (145 + 6) _ (by omega) (by omega) (by omega) (by omega) (by omega), q6] at q
      exact absurd q.1 (by decide))
    rw [cnB_0 (q := fun q => decide (r_queue d np x y (145 + 6) q = 1 ∧ r_queue d np x y (145 + 9) q = nI j)) hf]
    exact cnB_congr (fun q hq => by rw [dK _ q (by omega) (by omega), dK _ q (by omega) (by omega)])
  · rw [g1' 3 (by decide)]; exact a1
  · unfold f_addPas; rw [u2_s]
  · rw [gO _ _ (by omega) (by omega)]; exact lc j hj
  · rw [gO _ _ (by omega) (by omega), gO _ _ (by omega) (by omega)]; exact ld j hj
  · rcases Nat.lt_or_ge p np with q | q
    · rw [gO _ _ (by omega) (by omega), gO _ _ (by omega) (by omega), gO _ _ (by omega) (by omega)]; exact le p q
    · have e : p = np := by omega
      subst e
      rw [gN1, gN2, gNk 7 (by decide) (by decide), f7]
      exact ⟨hx, hy, Or.inl rfl⟩
  · rw [dO _ _ (by omega) (by omega) (by omega) (by omega) (by omega)]; exact rc j hj
  · rcases Nat.lt_or_ge p np with q | q
    · rw [dK _ p (by omega) (by omega)]; exact rd p q
    · have e : p = np := by omega
      subst e
      rw [d8]; exact hy
  · rw [dO _ _ (by omega) (by omega) (by omega) (by omega) (by omega)]; exact hv.1 j hj
  · rw [dO _ _ (by omega) (by omega) (by omega) (by omega) (by omega)]; exact hv.2.1 i hi
  · rw [dO _ _ (by omega) (by omega) (by omega) (by omega) (by omega)]; exact hv.2.2
  · rcases Nat.lt_or_ge p np with q | q
    · rw [dK _ p (by omega) (by omega), dK _ p (by omega) (by omega)]; exact hi2 p q
    · have e : p = np := by omega
      subst e
      rw [dO (145 + 6) _ (by omega) (by omega) (by omega) (by omega) (by omega), q6]
      exact fun z => absurd z (by decide)
  · rw [dO _ _ (by omega) (by omega) (by omega) (by omega) (by omega)]; exact hn j hj
  · rw [gO _ _ (by omega) (by omega), gO _ _ (by omega) (by omega), gO _ _ (by omega) (by omega)]; exact fc.1 j h1 h2
  · rw [gO _ _ (by omega) (by omega), gO _ _ (by omega) (by omega), gO _ _ (by omega) (by omega), gO _ _ (by omega) (by omega), gO _ _ (by omega) (by omega), gO _ _ (by omega) (by omega)]; exact fc.2 p (by omega) h2
  · rw [dO _ _ (by omega) (by omega) (by omega) (by omega) (by omega), dO _ _ (by omega) (by omega) (by omega) (by omega) (by omega)]; exact fr.1 j h1 h2
  · rw [dO _ _ (by omega) (by omega) (by omega) (by omega) (by omega), dO _ _ (by omega) (by omega) (by omega) (by omega) (by omega), dO _ _ (by omega) (by omega) (by omega) (by omega) (by omega), dO _ _ (by omega) (by omega) (by omega) (by omega) (by omega)]; exact fr.2 p (by omega) h2
