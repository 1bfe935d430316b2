/-! the answers of the two sides are the same -/
theorem nI_np {nb np : Nat} {g d : S2} (h : Inv2 nb np g d) : g 1 3 = nI nb ∧ g 1 4 = nI np ∧ d 141 1 = nI nb ∧ d 141 2 = nI np ∧ nb ≤ 6 ∧ np ≤ 50 := ⟨h.1.2.2.1.1.1.1, h.1.2.2.1.1.2.1.1, h.1.2.2.1.2.1.1, h.1.2.2.1.2.2.1.1, h.1.2.2.1.1.1.2, h.1.2.2.1.1.2.1.2⟩
theorem a_fare {nb np : Nat} {g d : S2} {x y : Int32} (h : Inv2 nb np g d) : f_fareI (stg g 1) x y = f_fareI (d 143) x y := f_fareI_congr (fun i hi => (h.1.1.1 i hi).2.1)
theorem a_bus {nb np j k : Nat} {g d : S2} (h : Inv2 nb np g d) (hj : j < nb) (hk : k < 6) : g (1 + 14 + j) (k + 1) = rt_bus d j np k := by
  obtain ⟨b1, b2, b3, b4, b5⟩ := h.1.1.2.1 j hj
  rcases (by omega : k = 0 ∨ k = 1 ∨ k = 2 ∨ k = 3 ∨ k = 4 ∨ k = 5) with rfl | rfl | rfl | rfl | rfl | rfl
  · exact b1
  · exact b2
  · exact b3
  · exact b4
  · exact h.1.2.1 j hj
  · exact b5
theorem a_pas {nb np p k : Nat} {g d : S2} (h : Inv2 nb np g d) (hp : p < np) (hk : k < 7) : g (1 + 20 + p) k = rt_pas d p k := by
  have c := h.1.1.2.2.1 p k hp (by omega)
  rcases (by omega : k = 0 ∨ k = 1 ∨ k = 2 ∨ k = 3 ∨ k = 4 ∨ k = 5 ∨ k = 6) with rfl | rfl | rfl | rfl | rfl | rfl | rfl
  all_goals exact c
theorem a_stop {nb np i k : Nat} {g d : S2} (h : Inv2 nb np g d) (hi : i < 10) (hk : k < 5) : f_tellS g 1 nb np i k = rt_stop d nb np i k := by
  obtain ⟨a1, a2, a3⟩ := h.1.1.1 i hi
  rcases (by omega : k = 0 ∨ k = 1 ∨ k = 2 ∨ k = 3 ∨ k = 4) with rfl | rfl | rfl | rfl | rfl
  · exact a1
  · exact a2
  · refine congrArg nI (cnB_congr (fun q hq => ?_))
    unfold q_wa rq_wa
    rw [h.1.1.2.2.1 q 0 hq (by omega), h.1.1.2.2.1 q 1 hq (by omega)]
  · refine congrArg nI (cnB_congr (fun q hq => ?_))
    unfold q_st rq_st
    rw [(h.1.1.2.1 q hq).1, (h.1.1.2.1 q hq).2.1]
  · exact a3
theorem a_in {o t nb np : Nat} {g d : S2} {x : Int32} (h : SimC o t nb np g d) : cnB (q_in g o x) np = cnB (rq_in d t x) np :=
  cnB_congr (fun q hq => by unfold q_in rq_in; rw [h.2.2.1 q 0 hq (by omega)])
theorem a_sum {o t nb np k : Nat} {g d : S2} (h : SimC o t nb np g d) (h50 : np ≤ 50) (hk : k < 8) (hz : ∀ q, np ≤ q → q < 50 → d (t + (6 + k)) q = 0) : sumF (fun q => g (o + 20 + q) k) np = sumF (d (t + (6 + k))) 50 := by
  rw [sum_50 h50 hz]
  exact sumF_congr (fun q hq => h.2.2.1 q k hq hk)
theorem a_bun {o t nb np : Nat} {g d : S2} (h : SimC o t nb np g d) (h6 : nb ≤ 6) : cnP (q_bu g o) nb nb = cnQ (rq_bu d t) nb := by
  refine cnP_eq h6 (fun a c ha hc => ?_)
  unfold q_bu rq_bu
  rw [(h.2.1 a ha).1, (h.2.1 a ha).2.1, (h.2.1 c hc).1, (h.2.1 c hc).2.1]
  exact decide_eq_decide.mpr ⟨fun q => ⟨q.1.symm, q.2.symm⟩, fun q => ⟨q.1.symm, q.2.symm⟩⟩
theorem a_cnt {nb np k : Nat} {g d : S2} (h : Inv2 nb np g d) (hk : k < 10) : f_tellC g 1 nb np k = rt_cnt d nb np k := by
  obtain ⟨n1, n2, n3, n4, h6, h50⟩ := nI_np h
  rcases (by omega : k = 0 ∨ k = 1 ∨ k = 2 ∨ k = 3 ∨ k = 4 ∨ k = 5 ∨ k = 6 ∨ k = 7 ∨ k = 8 ∨ k = 9) with rfl | rfl | rfl | rfl | rfl | rfl | rfl | rfl | rfl | rfl
  · exact h.1.1.2.2.2.1
  · exact h.1.1.2.2.2.2
  · exact n1.trans n3.symm
  · exact n2.trans n4.symm
  · exact congrArg nI (a_in h.1.1)
  · exact congrArg nI (a_in h.1.1)
  · exact congrArg nI (a_in h.1.1)
  · exact a_sum (k := 4) h.1.1 h50 (by omega) (fun q h1 h2 => (h.2.2.2.2 q h1 h2).2.1)
  · exact a_sum (k := 5) h.1.1 h50 (by omega) (fun q h1 h2 => (h.2.2.2.2 q h1 h2).2.2.1)
  · exact congrArg nI (a_bun h.1.1 h6)
theorem a_dig {nb np : Nat} {g d : S2} (h : Inv2 nb np g d) : f_dig g nb np = r_dig d nb np := by
  unfold f_dig r_dig
  exact dig2_congr (dig2_congr (dig2_congr (dig1_congr rfl (fun k hk => a_cnt h hk)) (fun j k hj hk => a_stop h hj hk)) (fun j k hj hk => a_bus h hj hk)) (fun p k hp hk => a_pas h hp hk)
-- what the law's helpers answer, and what they leave
def CP (g : S2) (er : Nat) (ok : Int32 → S2 → Prop) (r : Int32) (g1 : S2) : Prop := (er = 0 ∧ ok r g1) ∨ (¬ er = 0 ∧ g1 = g)
def Agr (er : Nat) (r r' : Int32) (g2 : S2) : Prop := g2 141 0 = nI er ∧ (er = 0 → r = r') ∧ ∃ nb np, Inv nb np g2
theorem ca_gen {nb np er : Nat} {er' : S2 → Nat} {ok : Int32 → S2 → Prop} {ok' : S2 → Int32 → S2 → Prop} {g g1 g2 : S2} {r r' : Int32} (I : Inv nb np g) (hC : CP g er ok r g1) (hP : PR g1 (er' (thr0 g1)) (ok' (thr0 g1)) r' g2)
    (hd : ∀ r g1, er = 0 → ok r g1 → EqD g g1) (he : ∀ d, Inv2 nb np g d → er' d = er) (hk : ∀ d r' g2, er = 0 → Inv2 nb np g d → ok r g1 → d = thr0 g1 → ok' d r' g2 → g2 141 0 = 0 ∧ r = r' ∧ ∃ nb np, Inv nb np g2) : Agr er r r' g2 := by
  rcases hC with ⟨e0, hok⟩ | ⟨e0, rfl⟩
  · have h2 : Inv2 nb np g (thr0 g1) := inv2_eq I.1 EqC.rf (EqD.tr (hd _ _ e0 hok) eqd_thr)
    have h3 := he _ h2
    rcases hP with ⟨f0, hok'⟩ | ⟨f0, -⟩
    · obtain ⟨a, b, c⟩ := hk _ _ _ e0 h2 hok rfl hok'
      subst e0
      exact ⟨a, fun _ => b, c⟩
    · exact absurd (h3.trans e0) f0
  · have h2 : Inv2 nb np g1 (thr0 g1) := inv2_eq I.1 EqC.rf eqd_thr
    have h3 := he _ h2
    rcases hP with ⟨f0, -⟩ | ⟨f0, rfl⟩
    · exact absurd (h3.symm.trans f0) e0
    · rw [h3]
      refine ⟨?_, fun q => absurd q e0, nb, np, inv_thr (inv_thr I)⟩
      unfold thr; exact u2_s
theorem thr0_0 {g : S2} : thr0 g 141 0 = 0 := u2_s
theorem eqc_u {g : S2} {i k : Nat} {x : Int32} (h : 71 ≤ i) : EqC g (u2 g i k x) := fun a ha => u2_ne (by omega)
theorem eqd_u {g : S2} {i k : Nat} {x : Int32} (h : i < 141) : EqD g (u2 g i k x) := ⟨fun a h1 h2 => u2_ne (by omega), u2_n (by omega), u2_n (by omega)⟩
theorem num_u {g : S2} {i k : Nat} {x : Int32} (h : NumT g) (hi : i < 85 ∨ 91 ≤ i) : NumT (u2 g i k x) := fun j hj => by rw [u2_n (by omega)]; exact h j hj
theorem er_set0 {x y z : Int32} (h : er_set x y z = 0) : (cl x < 10 ∧ x = nI (cl x)) ∧ NN y := by
  unfold er_set at h
  split at h
  · cases h
  · rename_i q
    split at h
    · cases h
    · rename_i q2
      have k1 := in_nI q (k := 9) rfl (by omega)
      have k2 := in_1 (v := y) (k := 9) (fun z => q2 (Or.inl z)) rfl (by omega)
      exact ⟨⟨by omega, k1.2⟩, k2.2.2 ▸ NN.of (by omega)⟩
theorem ca_set {nb np : Nat} {g g1 g2 : S2} {r r' a1 a2 a3 : Int32} (I : Inv nb np g) (hC : CP g (er_set a1 a2 a3) (fun r g1 => r = 10 * g (1 + 4 + cl a1) 0 + g (1 + 4 + cl a1) 1 ∧ g1 = u2 (u2 g (1 + 4 + cl a1) 0 a2) (1 + 4 + cl a1) 1 a3) r g1)
    (hP : PR g1 (er_set a1 a2 a3) (fun r g2 => r = 10 * (thr0 g1) 142 (cl a1) + (thr0 g1) 143 (cl a1) ∧ g2 = u2 (u2 (thr0 g1) 142 (cl a1) a2) 143 (cl a1) a3) r' g2) : Agr (er_set a1 a2 a3) r r' g2 := by
  refine ca_gen (er' := fun _ => er_set a1 a2 a3) (ok' := fun d r g2 => r = 10 * d 142 (cl a1) + d 143 (cl a1) ∧ g2 = u2 (u2 d 142 (cl a1) a2) 143 (cl a1) a3) I hC hP ?_ (fun _ _ => rfl) ?_
  · rintro r g1 e ⟨-, rfl⟩
    obtain ⟨⟨h1, -⟩, -⟩ := er_set0 e
    exact EqD.tr (eqd_u (by omega)) (eqd_u (by omega))
  · rintro d r' g2 e h2 ⟨rfl, h1⟩ hd ⟨rfl, rfl⟩
    obtain ⟨⟨k1, -⟩, k2⟩ := er_set0 e
    have h3 := i2_set (y := a3) h2 k1 k2
    rw [← h1] at h3
    refine ⟨?_, ?_, nb, np, inv_join h3 ?_ EqD.rf ?_⟩
    · rw [u2_n (by decide), u2_n (by decide), hd]; exact thr0_0
    · obtain ⟨a1, a2, -⟩ := h2.1.1.1 _ k1
      rw [a1, a2]
    · rw [hd]; exact EqC.tr eqc_thr (EqC.tr (eqc_u (by omega)) (eqc_u (by omega)))
    · rw [hd, h1]; exact num_u (num_u (num_thr (num_u (num_u I.2 (by omega)) (by omega))) (by omega)) (by omega)
theorem ca_hold {nb np : Nat} {g g1 g2 : S2} {r r' a1 : Int32} (I : Inv nb np g) (hC : CP g (er_hold a1) (fun r g1 => r = g 1 6 ∧ g1 = u2 g 1 6 a1) r g1)
    (hP : PR g1 (er_hold a1) (fun r g2 => r = (thr0 g1) 145 1 ∧ g2 = u2 (thr0 g1) 145 1 a1) r' g2) : Agr (er_hold a1) r r' g2 := by
  refine ca_gen (er' := fun _ => er_hold a1) (ok' := fun d r g2 => r = d 145 1 ∧ g2 = u2 d 145 1 a1) I hC hP ?_ (fun _ _ => rfl) ?_
  · rintro r g1 e ⟨-, rfl⟩
    exact eqd_u (by omega)
  · rintro d r' g2 e h2 ⟨rfl, h1⟩ hd ⟨rfl, rfl⟩
    have k2 : NN a1 := by
      unfold er_hold at e
      split at e
      · cases e
      · rename_i q
        have := in_nI q (k := 15) rfl (by omega)
        exact this.2 ▸ NN.of (by omega)
    have h3 := i2_hold h2 k2
    rw [← h1] at h3
    refine ⟨?_, h2.1.1.2.2.2.2, nb, np, inv_join h3 ?_ EqD.rf ?_⟩
    · rw [u2_n (by decide), hd]; exact thr0_0
    · rw [hd]; exact EqC.tr eqc_thr (eqc_u (by omega))
    · rw [hd, h1]; exact num_u (num_thr (num_u I.2 (by omega))) (by omega)
theorem D10_of {x : Int32} (h : ¬ f_in x 0 9 = 0) : D10 x := by
  have := in_nI h (k := 9) rfl (by omega)
  exact ⟨cl x, by omega, this.2⟩
theorem er_start0 {nb : Nat} {x y : Int32} (h : er_start (nI nb) x y = 0) (hb : nb ≤ 6) : nb < 6 ∧ D10 x ∧ NN y := by
  unfold er_start at h
  split at h
  · cases h
  · rename_i q
    split at h
    · cases h
    · rename_i q2
      split at h
      · cases h
      · rename_i q3
        have k2 := in_1 (v := y) (k := 20) q2 rfl (by omega)
        refine ⟨?_, D10_of q, k2.2.2 ▸ NN.of (by omega)⟩
        rcases Nat.lt_or_ge nb 6 with z | z
        · exact z
        · rw [show nb = 6 by omega] at q3
          exact absurd (fun z => absurd z (by decide)) q3
theorem ca_start {nb np : Nat} {g g1 g2 : S2} {r r' a1 a2 : Int32} (I : Inv nb np g) (hC : CP g (er_start (g 1 3) a1 a2) (fun r g1 => r = nI nb ∧ g1 = f_addBus g 1 nb a1 a2) r g1)
    (hP : PR g1 (er_start ((thr0 g1) 141 1) a1 a2) (fun r g2 => r = nI nb ∧ g2 = r_start (thr0 g1) nb a1 a2) r' g2) : Agr (er_start (g 1 3) a1 a2) r r' g2 := by
  obtain ⟨n1, n2, n3, n4, h6, h50⟩ := nI_np I.1
  refine ca_gen (er' := fun d => er_start (d 141 1) a1 a2) (ok' := fun d r g2 => r = nI nb ∧ g2 = r_start d nb a1 a2) I hC hP ?_ (fun d h => by show er_start (d 141 1) a1 a2 = _; rw [(nI_np h).2.2.1, n1]) ?_
  · rintro r g1 e ⟨-, rfl⟩
    exact EqD.tr (EqD.tr (EqD.tr (eqd_u (by omega)) (eqd_u (by omega))) (eqd_u (by omega))) (eqd_u (by omega))
  · rintro d r' g2 e h2 ⟨rfl, h1⟩ hd ⟨rfl, rfl⟩
    rw [n1] at e
    obtain ⟨k1, k2, k3⟩ := er_start0 e h6
    have h3 := i2_start h2 k1 k2 k3
    rw [← h1] at h3
    refine ⟨?_, rfl, nb + 1, np, inv_join h3 ?_ EqD.rf ?_⟩
    · unfold r_start
      rw [u2_k (by decide), u2_n (by decide), u2_n (by decide), u2_n (by decide), hd]; exact thr0_0
    · rw [hd]; unfold r_start
      exact EqC.tr eqc_thr (EqC.tr (EqC.tr (EqC.tr (eqc_u (by omega)) (eqc_u (by omega))) (eqc_u (by omega))) (eqc_u (by omega)))
    · rw [hd, h1]; unfold r_start f_addBus
      exact num_u (num_u (num_u (num_u (num_thr (num_u (num_u (num_u (num_u I.2 (by omega)) (by omega)) (by omega)) (by omega))) (by omega)) (by omega)) (by omega)) (by omega)
theorem er_queue0 {np : Nat} {x y : Int32} (h : er_queue (nI np) x y = 0) (hb : np ≤ 50) : np < 50 ∧ D10 x ∧ D10 y := by
  unfold er_queue at h
  split at h
  · cases h
  · rename_i q
    split at h
    · cases h
    · split at h
      · cases h
      · rename_i q3
        refine ⟨?_, D10_of (fun z => q (Or.inl z)), D10_of (fun z => q (Or.inr z))⟩
        rcases Nat.lt_or_ge np 50 with z | z
        · exact z
        · rw [show np = 50 by omega] at q3
          exact absurd (fun z => absurd z (by decide)) q3
theorem ca_queue {nb np : Nat} {g g1 g2 : S2} {r r' a1 a2 : Int32} (I : Inv nb np g) (hC : CP g (er_queue (g 1 4) a1 a2) (fun r g1 => r = nI np ∧ g1 = f_addPas g 1 np a1 a2) r g1)
    (hP : PR g1 (er_queue ((thr0 g1) 141 2) a1 a2) (fun r g2 => r = nI np ∧ g2 = r_queue (thr0 g1) np a1 a2) r' g2) : Agr (er_queue (g 1 4) a1 a2) r r' g2 := by
  obtain ⟨n1, n2, n3, n4, h6, h50⟩ := nI_np I.1
  refine ca_gen (er' := fun d => er_queue (d 141 2) a1 a2) (ok' := fun d r g2 => r = nI np ∧ g2 = r_queue d np a1 a2) I hC hP ?_ (fun d h => by show er_queue (d 141 2) a1 a2 = _; rw [(nI_np h).2.2.2.1, n2]) ?_
  · rintro r g1 e ⟨-, rfl⟩
    exact EqD.tr (EqD.tr (eqd_u (by omega)) (eqd_u (by omega))) (eqd_u (by omega))
  · rintro d r' g2 e h2 ⟨rfl, h1⟩ hd ⟨rfl, rfl⟩
    rw [n2] at e
    obtain ⟨k1, k2, k3⟩ := er_queue0 e h50
    have h3 := i2_queue h2 k1 k2 k3
    rw [← h1] at h3
    refine ⟨?_, rfl, nb, np + 1, inv_join h3 ?_ EqD.rf ?_⟩
    · unfold r_queue
      rw [u2_k (by decide), u2_n (by decide), u2_n (by decide), u2_n (by decide), u2_n (by decide), hd]; exact thr0_0
    · rw [hd]; unfold r_queue
      exact EqC.tr eqc_thr (EqC.tr (EqC.tr (EqC.tr (EqC.tr (eqc_u (by omega)) (eqc_u (by omega))) (eqc_u (by omega))) (eqc_u (by omega))) (eqc_u (by omega)))
    · rw [hd, h1]; unfold r_queue f_addPas
      exact num_u (num_u (num_u (num_u (num_u (num_thr (num_u (num_u (num_u I.2 (by omega)) (by omega)) (by omega))) (by omega)) (by omega)) (by omega)) (by omega)) (by omega)
theorem er_change_eq {nb np : Nat} {g d : S2} {a1 a2 : Int32} (h : Inv2 nb np g d) : er_change (d 141 2) (d (145 + 6) (cl a1)) (d (145 + 7) (cl a1)) a1 a2 = er_change (g 1 4) (g (1 + 20 + cl a1) 0) (g (1 + 20 + cl a1) 1) a1 a2 := by
  obtain ⟨n1, n2, n3, n4, h6, h50⟩ := nI_np h
  unfold er_change
  rw [n2, n4]
  by_cases z : f_in a1 0 (nI np - 1) = 0 ∨ f_in a2 0 9 = 0
  · rw [if_pos z, if_pos z]
  · rw [if_neg z, if_neg z]
    have k := in_lt (fun q => z (Or.inl q)) (by omega)
    rw [h.1.1.2.2.1 _ 0 k.1 (by omega), h.1.1.2.2.1 _ 1 k.1 (by omega)]
theorem ca_change {nb np : Nat} {g g1 g2 : S2} {r r' a1 a2 : Int32} (I : Inv nb np g) (hC : CP g (er_change (g 1 4) (g (1 + 20 + cl a1) 0) (g (1 + 20 + cl a1) 1) a1 a2) (fun r g1 => r = f_again g (1 + 20 + cl a1) a2 (g 1 5) (1 + 20 + cl a1) 7 ∧ g1 = f_again g (1 + 20 + cl a1) a2 (g 1 5)) r g1)
    (hP : PR g1 (er_change ((thr0 g1) 141 2) ((thr0 g1) (145 + 6) (cl a1)) ((thr0 g1) (145 + 7) (cl a1)) a1 a2) (fun r g2 => r = r_soon (thr0 g1) (cl a1) ∧ g2 = r_change (thr0 g1) (cl a1) a2) r' g2) : Agr (er_change (g 1 4) (g (1 + 20 + cl a1) 0) (g (1 + 20 + cl a1) 1) a1 a2) r r' g2 := by
  obtain ⟨n1, n2, n3, n4, h6, h50⟩ := nI_np I.1
  have e0 : er_change (g 1 4) (g (1 + 20 + cl a1) 0) (g (1 + 20 + cl a1) 1) a1 a2 = 0 → cl a1 < np ∧ D10 a2 ∧ g (1 + 20 + cl a1) 0 = 2 := by
    intro e
    unfold er_change at e
    split at e
    · cases e
    · rename_i q
      split at e
      · cases e
      · rename_i q2
        rw [n2] at q
        refine ⟨(in_lt (fun z => q (Or.inl z)) (by omega)).1, D10_of (fun z => q (Or.inr z)), Classical.byContradiction (fun z => q2 (Or.inl z))⟩
  refine ca_gen (er' := fun d => er_change (d 141 2) (d (145 + 6) (cl a1)) (d (145 + 7) (cl a1)) a1 a2) (ok' := fun d r g2 => r = r_soon d (cl a1) ∧ g2 = r_change d (cl a1) a2) I hC hP ?_ (fun d h => er_change_eq h) ?_
  · rintro r g1 e ⟨-, rfl⟩
    have := e0 e
    exact EqD.tr (EqD.tr (eqd_u (by omega)) (eqd_u (by omega))) (eqd_u (by omega))
  · rintro d r' g2 e h2 ⟨h0, h1⟩ hd ⟨rfl, rfl⟩
    obtain ⟨k1, k2, k3⟩ := e0 e
    have k4 : d (145 + 6) (cl a1) = 2 := (h2.1.1.2.2.1 _ 0 k1 (by omega)).symm.trans k3
    obtain ⟨h4, h3⟩ := i2_change h2 k1 k2 k4
    rw [← h1] at h3
    refine ⟨?_, h0.trans h4, nb, np, inv_join h3 ?_ EqD.rf ?_⟩
    · unfold r_change
      rw [u2_n (by decide), u2_n (by decide), u2_n (by decide), hd]; exact thr0_0
    · rw [hd]; unfold r_change
      exact EqC.tr eqc_thr (EqC.tr (EqC.tr (eqc_u (by omega)) (eqc_u (by omega))) (eqc_u (by omega)))
    · rw [hd, h1]; unfold r_change f_again
      exact num_u (num_u (num_u (num_thr (num_u (num_u (num_u I.2 (by omega)) (by omega)) (by omega))) (by omega)) (by omega)) (by omega)
/-- a reading call -/
theorem ca_read {nb np er : Nat} {er' : S2 → Nat} {va : Int32} {vb : S2 → Int32} {g g1 g2 : S2} {r r' : Int32} (I : Inv nb np g) (hC : CP g er (fun r g1 => r = va ∧ g1 = g) r g1)
    (hP : PR g1 (er' (thr0 g1)) (fun r g2 => r = vb (thr0 g1) ∧ g2 = thr0 g1) r' g2) (he : ∀ d, Inv2 nb np g d → er' d = er) (hv : ∀ d, er = 0 → Inv2 nb np g d → va = vb d) : Agr er r r' g2 := by
  refine ca_gen (er' := er') (ok' := fun d r g2 => r = vb d ∧ g2 = d) I hC hP ?_ he ?_
  · rintro r g1 e ⟨-, rfl⟩; exact EqD.rf
  · rintro d r' g2 e h2 ⟨rfl, h1⟩ hd ⟨rfl, rfl⟩
    refine ⟨by rw [hd]; exact thr0_0, hv _ e h2, nb, np, ?_⟩
    rw [hd, h1]; exact inv_thr I
theorem er_20 {m1 m2 x y : Int32} (h : er_2 m1 m2 x y = 0) : ¬ f_in x 0 m1 = 0 ∧ ¬ f_in y 0 m2 = 0 := by
  unfold er_2 at h
  split at h
  · cases h
  · rename_i q; exact ⟨fun z => q (Or.inl z), fun z => q (Or.inr z)⟩
theorem er_10 {m1 m2 x : Int32} (h : er_1 m1 m2 x = 0) : ¬ f_in x m1 m2 = 0 := by
  unfold er_1 at h
  split at h
  · cases h
  · rename_i q; exact q
theorem ca_fare {nb np : Nat} {g g1 g2 : S2} {r r' a1 a2 : Int32} (I : Inv nb np g) (hC : CP g (er_2 9 9 a1 a2) (fun r g1 => r = f_fareI (stg g 1) a1 a2 ∧ g1 = g) r g1)
    (hP : PR g1 (er_2 9 9 a1 a2) (fun r g2 => r = f_fareI ((thr0 g1) 143) a1 a2 ∧ g2 = (thr0 g1)) r' g2) : Agr (er_2 9 9 a1 a2) r r' g2 :=
  ca_read (er' := fun _ => er_2 9 9 a1 a2) (vb := fun d => f_fareI (d 143) a1 a2) I hC hP (fun _ _ => rfl) (fun d _ h => a_fare h)
theorem ca_bus {nb np : Nat} {g g1 g2 : S2} {r r' a1 a2 : Int32} (I : Inv nb np g) (hC : CP g (er_2 (g 1 3 - 1) 5 a1 a2) (fun r g1 => r = g (1 + 14 + cl a1) (cl a2 + 1) ∧ g1 = g) r g1)
    (hP : PR g1 (er_2 ((thr0 g1) 141 1 - 1) 5 a1 a2) (fun r g2 => r = rt_bus (thr0 g1) (cl a1) np (cl a2) ∧ g2 = (thr0 g1)) r' g2) : Agr (er_2 (g 1 3 - 1) 5 a1 a2) r r' g2 := by
  obtain ⟨n1, n2, n3, n4, h6, h50⟩ := nI_np I.1
  refine ca_read (er' := fun d => er_2 (d 141 1 - 1) 5 a1 a2) (vb := fun d => rt_bus d (cl a1) np (cl a2)) I hC hP (fun d h => by show er_2 (d 141 1 - 1) 5 a1 a2 = _; rw [(nI_np h).2.2.1, n1]) (fun d e h => ?_)
  obtain ⟨k1, k2⟩ := er_20 e
  rw [n1] at k1
  have k3 := in_nI k2 (k := 5) rfl (by omega)
  exact a_bus h (in_lt k1 (by omega)).1 (by omega)
theorem ca_passenger {nb np : Nat} {g g1 g2 : S2} {r r' a1 a2 : Int32} (I : Inv nb np g) (hC : CP g (er_2 (g 1 4 - 1) 6 a1 a2) (fun r g1 => r = g (1 + 20 + cl a1) (cl a2) ∧ g1 = g) r g1)
    (hP : PR g1 (er_2 ((thr0 g1) 141 2 - 1) 6 a1 a2) (fun r g2 => r = rt_pas (thr0 g1) (cl a1) (cl a2) ∧ g2 = (thr0 g1)) r' g2) : Agr (er_2 (g 1 4 - 1) 6 a1 a2) r r' g2 := by
  obtain ⟨n1, n2, n3, n4, h6, h50⟩ := nI_np I.1
  refine ca_read (er' := fun d => er_2 (d 141 2 - 1) 6 a1 a2) (vb := fun d => rt_pas d (cl a1) (cl a2)) I hC hP (fun d h => by show er_2 (d 141 2 - 1) 6 a1 a2 = _; rw [(nI_np h).2.2.2.1, n2]) (fun d e h => ?_)
  obtain ⟨k1, k2⟩ := er_20 e
  rw [n2] at k1
  have k3 := in_nI k2 (k := 6) rfl (by omega)
  exact a_pas h (in_lt k1 (by omega)).1 (by omega)
theorem ca_stop {nb np : Nat} {g g1 g2 : S2} {r r' a1 a2 : Int32} (I : Inv nb np g) (hC : CP g (er_2 9 4 a1 a2) (fun r g1 => r = f_tellS g 1 nb np (cl a1) (cl a2) ∧ g1 = g) r g1)
    (hP : PR g1 (er_2 9 4 a1 a2) (fun r g2 => r = rt_stop (thr0 g1) nb np (cl a1) (cl a2) ∧ g2 = (thr0 g1)) r' g2) : Agr (er_2 9 4 a1 a2) r r' g2 := by
  refine ca_read (er' := fun _ => er_2 9 4 a1 a2) (vb := fun d => rt_stop d nb np (cl a1) (cl a2)) I hC hP (fun _ _ => rfl) (fun d e h => ?_)
  obtain ⟨k1, k2⟩ := er_20 e
  have k3 := in_nI k1 (k := 9) rfl (by omega)
  have k4 := in_nI k2 (k := 4) rfl (by omega)
  exact a_stop h (by omega) (by omega)
theorem ca_count {nb np : Nat} {g g1 g2 : S2} {r r' a1 : Int32} (I : Inv nb np g) (hC : CP g (er_1 0 9 a1) (fun r g1 => r = f_tellC g 1 nb np (cl a1) ∧ g1 = g) r g1)
    (hP : PR g1 (er_1 0 9 a1) (fun r g2 => r = rt_cnt (thr0 g1) nb np (cl a1) ∧ g2 = (thr0 g1)) r' g2) : Agr (er_1 0 9 a1) r r' g2 := by
  refine ca_read (er' := fun _ => er_1 0 9 a1) (vb := fun d => rt_cnt d nb np (cl a1)) I hC hP (fun _ _ => rfl) (fun d e h => ?_)
  have k3 := in_nI (er_10 e) (k := 9) rfl (by omega)
  exact a_cnt h (by omega)
theorem ca_go {nb np : Nat} {g g1 g2 : S2} {r r' a1 : Int32} (I : Inv nb np g) (hC : CP g (er_1 1 120 a1) (fun r g1 => r = nI (cnB (q_in g1 1 2) np) - nI (cnB (q_in g 1 2) np) ∧ g1 = f_mins g 1 nb np (cl a1)) r g1)
    (hP : PR g1 (er_1 1 120 a1) (fun r g2 => r = nI (r_gos (thr0 g1) 145 nb np (cl a1)).2 ∧ g2 = (r_gos (thr0 g1) 145 nb np (cl a1)).1) r' g2) : Agr (er_1 1 120 a1) r r' g2 := by
  obtain ⟨n1, n2, n3, n4, h6, h50⟩ := nI_np I.1
  have hl := I.1.1.2.2.1.1
  have hO : ∀ a, Out 1 a → f_mins g 1 nb np (cl a1) a = g a := fun a ha => fr_mins ha hl
  refine ca_gen (er' := fun _ => er_1 1 120 a1) (ok' := fun d r g2 => r = nI (r_gos d 145 nb np (cl a1)).2 ∧ g2 = (r_gos d 145 nb np (cl a1)).1) I hC hP ?_ (fun _ _ => rfl) ?_
  · rintro r g1 e ⟨-, rfl⟩
    exact ⟨fun a h1 h2 => hO a (Or.inr (by omega)), by rw [hO 141 (Or.inr (by omega))], by rw [hO 141 (Or.inr (by omega))]⟩
  · rintro d r' g2 e h2 ⟨rfl, h1⟩ hd ⟨rfl, rfl⟩
    have h3 := i2_go (n := cl a1) h2
    have h4 : cnB (q_in g1 1 2) np = ar (r_gos d 145 nb np (cl a1)).1 145 np := by rw [h1]; exact ar_same h3.1.1
    rw [← h1] at h3
    have hF : ∀ a, OutR 145 a → (r_gos d 145 nb np (cl a1)).1 a = d a := fun a ha => frr_gos ha _
    refine ⟨?_, ?_, nb, np, inv_join h3 ?_ EqD.rf ?_⟩
    · rw [hF 141 (Or.inl (by omega)), hd]; exact thr0_0
    · rw [h4, ar_same h2.1.1, ar_gos (by omega), pk_sub (by omega)]
      congr 1; omega
    · intro a ha
      rw [hF a (Or.inl (by omega)), hd]; exact u2_ne (by omega)
    · intro j hj
      rw [hF _ (Or.inl (by omega)), hd]
      show u2 g1 141 0 0 _ 0 = _
      rw [u2_n (by omega), h1, hO _ (Or.inr (by omega))]
      exact I.2 j hj
