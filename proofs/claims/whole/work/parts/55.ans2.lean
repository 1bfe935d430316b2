/-! the answers of what would be -/
theorem i2_rows {nb np : Nat} {g d g1 : S2} (h : Inv2 nb np g d) (k : ∀ a, OutR 159 a → g1 a = d a) : Inv2 nb np g g1 :=
  inv2_eq h EqC.rf ⟨fun a h1 h2 => k a (Or.inl (by omega)), by rw [k 141 (Or.inl (by omega))], by rw [k 141 (Or.inl (by omega))]⟩
/-- the store behind a look ahead on both sides -/
theorem see_inv {nb np : Nat} {g g1 d g2 : S2} (h : Inv2 nb np g d) (k : Kp g g1) (hN : NumT g1) (hd : d = thr0 g1) (k2 : KpR d g2) : g2 141 0 = 0 ∧ Inv nb np g2 := by
  have e1 : ∀ a, a < 141 → g2 a = g1 a := fun a ha => by rw [k2 a (Or.inl (by omega)), hd]; exact u2_ne (by omega)
  refine ⟨by rw [k2 141 (Or.inl (by omega)), hd]; exact thr0_0, inv_join (i2_rows h k2) (fun a ha => ?_) EqD.rf (fun j hj => ?_)⟩
  · rw [e1 a (by omega)]; exact k a (Or.inl (by omega))
  · rw [e1 _ (by omega)]; exact hN j hj
theorem a_see {nb np arr k : Nat} {g g1 d g2 : S2} (h : Inv2 nb np g d) (h1 : Kp g g1) (h2 : KpR d g2) (hS : SimK 71 159 nb np e0 g1 g2) (hF : FreshR 159 nb np g2) (ha : ar g2 159 np = ar d 145 np + arr) (hk : k < 4) : f_see g1 nb np k = r_see g2 nb arr k := by
  obtain ⟨n1, n2, n3, n4, h6, h50⟩ := nI_np h
  have e1 : ∀ a, a < 71 → g1 a = g a := fun a ha => h1 a (Or.inl (by omega))
  have e2 : ∀ a, a < 159 → g2 a = d a := fun a ha => h2 a (Or.inl (by omega))
  have hin : cnB (q_in g1 1 2) np = ar d 145 np := by
    rw [← ar_same h.1.1]
    exact cnB_congr (fun q hq => by unfold q_in; rw [e1 _ (by omega)])
  have hs : ∀ k, k = 4 ∨ k = 5 → sumF (fun q => g1 (1 + 20 + q) k) np = sumF (g2 (145 + (6 + k))) 50 := by
    intro k hk
    rw [e2 _ (by omega), ← a_sum (k := k) h.1.1 h50 (by omega) (fun q z1 z2 => ?_)]
    · exact sumF_congr (fun q hq => by rw [e1 _ (by omega)])
    · have := h.2.2.2.2 q z1 z2
      rcases hk with rfl | rfl
      · exact this.2.1
      · exact this.2.2.1
  rcases (by omega : k = 0 ∨ k = 1 ∨ k = 2 ∨ k = 3) with rfl | rfl | rfl | rfl
  · show nI (cnB (q_in g1 71 2) np) - nI (cnB (q_in g1 1 2) np) = nI arr
    rw [hin, ar_same hS.1, ha, pk_sub (by omega)]
    congr 1; omega
  · show sumF (fun q => g1 (71 + 20 + q) 4) np - sumF (fun q => g1 (1 + 20 + q) 4) np = sumF (g2 (159 + 10)) 50 - sumF (g2 (145 + 10)) 50
    rw [hs 4 (Or.inl rfl), a_sum (k := 4) hS.1 h50 (by omega) (fun q z1 z2 => (hF.2 q z1 z2).2.1)]
  · show sumF (fun q => g1 (71 + 20 + q) 5) np - sumF (fun q => g1 (1 + 20 + q) 5) np = sumF (g2 (159 + 11)) 50 - sumF (g2 (145 + 11)) 50
    rw [hs 5 (Or.inr rfl), a_sum (k := 5) hS.1 h50 (by omega) (fun q z1 z2 => (hF.2 q z1 z2).2.2.1)]
  · exact congrArg nI (a_bun hS.1 h6)
theorem ar_becs {nb np : Nat} {g d : S2} (h : Inv2 nb np g d) (hN : NumT g) : ar (r_becs d 159 145 13) 159 np = ar d 145 np := by
  obtain ⟨n1, n2, n3, n4, h6, h50⟩ := nI_np h
  refine cnB_congr (fun q hq => ?_)
  unfold rq_in
  rw [show (159 + 6 : Nat) = 159 + 6 from rfl, becs_at TT1 (Nat.le_refl _) 6 q (by omega) (by omega) (by rw [alen_50 (Or.inr rfl) (by omega) (by omega)]; omega)]
theorem er_see0 {x y : Int32} (h : er_see x y = 0) : cl y < 4 := by
  unfold er_see at h
  split at h
  · cases h
  · split at h
    · cases h
    · rename_i q
      have := in_nI q (k := 3) rfl (by omega)
      omega
theorem ca_foresee {nb np : Nat} {g g1 g2 : S2} {r r' a1 a2 : Int32} (I : Inv nb np g) (hC : CP g (er_see a1 a2) (fun r g1 => r = f_see g1 nb np (cl a2) ∧ g1 = f_mins (f_copy g 71 1 nb np) 71 nb np (cl a1)) r g1)
    (hP : PR g1 (er_see a1 a2) (fun r g2 => r = r_see g2 nb (r_gos (r_becs (thr0 g1) 159 145 13) 159 nb np (cl a1)).2 (cl a2) ∧ g2 = (r_gos (r_becs (thr0 g1) 159 145 13) 159 nb np (cl a1)).1) r' g2) : Agr (er_see a1 a2) r r' g2 := by
  obtain ⟨n1, n2, n3, n4, h6, h50⟩ := nI_np I.1
  have hl := I.1.1.2.2.1.1
  have hl2 := okl_copy LL71 hl I.2
  have hKp : Kp g (f_mins (f_copy g 71 1 nb np) 71 nb np (cl a1)) := kp_mins (kp_copy (fun _ _ => rfl) h6 h50) hl2
  refine ca_gen (er' := fun _ => er_see a1 a2) (ok' := fun d r g2 => r = r_see g2 nb (r_gos (r_becs d 159 145 13) 159 nb np (cl a1)).2 (cl a2) ∧ g2 = (r_gos (r_becs d 159 145 13) 159 nb np (cl a1)).1) I hC hP ?_ (fun _ _ => rfl) ?_
  · rintro r g1 e ⟨-, rfl⟩
    exact ⟨fun a h1 h2 => hKp a (Or.inr (by omega)), by rw [hKp 141 (Or.inr (by omega))], by rw [hKp 141 (Or.inr (by omega))]⟩
  · rintro d r' g2 e h2 ⟨rfl, h1⟩ hd ⟨rfl, h3⟩
    have hkr : KpR d g2 := by rw [h3]; exact kpr_gos (kpr_becs (fun _ _ => rfl))
    obtain ⟨s1, s2⟩ := sim_copy h2.1 h2.2.1 I.2
    obtain ⟨s3, -⟩ := sim_gos (Or.inr rfl) s1 s2 (cl a1)
    rw [← h1, ← h3] at s3
    rw [← h1] at hKp
    obtain ⟨k1, k2⟩ := see_inv h2 hKp s3.2.2.1.1.2.2.1 hd hkr
    refine ⟨k1, ?_, nb, np, k2⟩
    refine a_see h2 hKp hkr s3 ?_ ?_ (er_see0 e)
    · rw [h3]; exact (fresh_becs h2.2.2.2).eq (fun q k hq => fm_gos hq _)
    · rw [h3, ar_gos (by omega), ar_becs h2 I.2]
theorem ca_arrives {nb np : Nat} {g g1 g2 : S2} {r r' a1 : Int32} (I : Inv nb np g) (hC : CP g (er_1 0 (g 1 4 - 1) a1) (fun r g1 => f_arrP (f_copy g 71 1 nb np) g1 nb np (cl a1) r) r g1)
    (hP : PR g1 (er_1 0 ((thr0 g1) 141 2 - 1) a1) (fun r g2 => r_arrP (r_becs (thr0 g1) 159 145 13) g2 nb np (cl a1) r) r' g2) : Agr (er_1 0 (g 1 4 - 1) a1) r r' g2 := by
  obtain ⟨n1, n2, n3, n4, h6, h50⟩ := nI_np I.1
  have hl := I.1.1.2.2.1.1
  have hl2 := okl_copy LL71 hl I.2
  have hKp : ∀ k, Kp g (f_mins (f_copy g 71 1 nb np) 71 nb np k) := fun k => kp_mins (kp_copy (fun _ _ => rfl) h6 h50) hl2
  refine ca_gen (er' := fun d => er_1 0 (d 141 2 - 1) a1) (ok' := fun d r g2 => r_arrP (r_becs d 159 145 13) g2 nb np (cl a1) r) I hC hP ?_ (fun d h => by show er_1 0 (d 141 2 - 1) a1 = _; rw [(nI_np h).2.2.2.1, n2]) ?_
  · rintro r g1 e ⟨k, -, -, rfl, -⟩
    exact ⟨fun a h1 h2 => hKp k a (Or.inr (by omega)), by rw [hKp k 141 (Or.inr (by omega))], by rw [hKp k 141 (Or.inr (by omega))]⟩
  · rintro d r' g2 e h2 ⟨k, hk, hj, h1, hr⟩ hd ⟨k', hk', hj', h3, hr'⟩
    have hkr : KpR d g2 := by rw [h3]; exact kpr_gos (kpr_becs (fun _ _ => rfl))
    obtain ⟨s1, s2⟩ := sim_copy h2.1 h2.2.1 I.2
    have s3 := fun n => (sim_gos (Or.inr rfl) s1 s2 n).1
    have hn := hl2
    have k0 : Kp g g1 := by rw [h1]; exact hKp k
    have hnum : NumT g1 := by rw [h1]; exact (s3 k).2.2.1.1.2.2.1
    obtain ⟨k1, k2⟩ := see_inv h2 k0 hnum hd hkr
    rw [n2] at e
    have hp := (in_lt (er_10 e) (by omega)).1
    have hst : ∀ n, f_mins (f_copy g 71 1 nb np) 71 nb np n (71 + 20 + cl a1) 0 = (r_gos (r_becs d 159 145 13) 159 nb np n).1 (159 + 6) (cl a1) := fun n => (s3 n).1.2.2.1 (cl a1) 0 hp (by omega)
    refine ⟨k1, ?_, nb, np, k2⟩
    rcases hr with ⟨e1, rfl⟩ | ⟨rfl, e1, rfl⟩
    · rw [hst] at e1
      rcases hr' with ⟨e2, e3, rfl⟩ | ⟨rfl, -⟩
      · rcases Nat.lt_trichotomy k k' with q | q | q
        · exact absurd e1 (hj' k q)
        · rw [q]
        · exact absurd ((hst k').trans e3) (hj k' q)
      · exact absurd e1 (hj' k (by omega))
    · rcases hr' with ⟨e2, e3, rfl⟩ | ⟨-, rfl⟩
      · rcases Nat.lt_or_ge k' 200 with q | q
        · exact absurd ((hst k').trans e3) (hj k' q)
        · have : k' = 200 := by omega
          subst this
          exact absurd ((hst 200).trans e3) e1
      · rfl
theorem adv_sim {nb np mm : Nat} {g d : S2} (h : Inv2 nb np g d) (hN : NumT g) : ∀ n, n ≤ 16 → (n = 0 → (r_adv d nb np mm n).2.1 = none) ∧ (0 < n → (r_adv d nb np mm n).2.1 = some (f_adv g nb np mm n).2.1 ∧ (r_adv d nb np mm n).2.2 = (f_adv g nb np mm n).2.2)
  | 0, _ => ⟨fun _ => rfl, fun q => absurd q (by decide)⟩
  | n + 1, hn => by
    obtain ⟨h0, h1⟩ := adv_sim (mm := mm) h hN n (by omega)
    obtain ⟨n1, n2, n3, n4, h6, h50⟩ := nI_np h
    obtain ⟨kp, hnum⟩ := adv_ok (mm := mm) h.1.2.2.1.1 hN n
    have kr := r_adv_kp (g := d) (nb := nb) (np := np) (mm := mm) n
    have h2 : Inv2 nb np (f_adv g nb np mm n).1 (r_adv d nb np mm n).1 := i2_rows (inv2_eq h (fun a ha => kp a (Or.inl (by omega))) EqD.rf) kr
    refine ⟨fun q => absurd q (by omega), fun _ => ?_⟩
    unfold f_adv r_adv
    show (r_adv1 nb np mm n (r_adv d nb np mm n)).2.1 = some (f_adv1 nb np mm n (f_adv g nb np mm n)).2.1 ∧ (r_adv1 nb np mm n (r_adv d nb np mm n)).2.2 = (f_adv1 nb np mm n (f_adv g nb np mm n)).2.2
    unfold f_adv1 r_adv1
    generalize f_adv g nb np mm n = A at *
    generalize r_adv d nb np mm n = B at *
    obtain ⟨s1, s2⟩ := sim_copy h2.1 h2.2.1 hnum
    obtain ⟨s3, s4⟩ := sim_hold (n := n) s1 s2 (by omega)
    obtain ⟨s5, -⟩ := sim_gos (Or.inr rfl) s3 s4 mm
    have hF : FreshR 159 nb np (r_gos (u2 (r_becs B.1 159 145 13) 159 1 (nI n)) 159 nb np mm).1 :=
      ((fresh_becs h2.2.2.2).eq (fun q k hq => by unfold OutM at hq; exact u2_n (by omega))).eq (fun q k hq => fm_gos hq _)
    have hsum : sumF (fun q => f_mins (u2 (f_copy A.1 71 1 nb np) 71 6 (nI n)) 71 nb np mm (71 + 20 + q) 5) np = sumF ((r_gos (u2 (r_becs B.1 159 145 13) 159 1 (nI n)) 159 nb np mm).1 (159 + 11)) 50 :=
      a_sum (k := 5) s5.1 h50 (by omega) (fun q z1 z2 => (hF.2 q z1 z2).2.2.1)
    rw [hsum]
    have hc : (n = 0 ∨ sumF ((r_gos (u2 (r_becs B.1 159 145 13) 159 1 (nI n)) 159 nb np mm).1 (159 + 11)) 50 < A.2.2) ↔ (B.2.1 = none ∨ sumF ((r_gos (u2 (r_becs B.1 159 145 13) 159 1 (nI n)) 159 nb np mm).1 (159 + 11)) 50 < B.2.2) := by
      rcases Nat.eq_zero_or_pos n with z | z
      · exact ⟨fun _ => Or.inl (h0 z), fun _ => Or.inl z⟩
      · obtain ⟨z1, z2⟩ := h1 z
        rw [z1, z2]
        exact ⟨fun q => q.elim (fun q => absurd q (by omega)) Or.inr, fun q => q.elim (fun q => by cases q) Or.inr⟩
    by_cases z : n = 0 ∨ sumF ((r_gos (u2 (r_becs B.1 159 145 13) 159 1 (nI n)) 159 nb np mm).1 (159 + 11)) 50 < A.2.2
    · rw [if_pos z, if_pos (hc.mp z)]
      exact ⟨rfl, rfl⟩
    · rw [if_neg z, if_neg (fun q => z (hc.mpr q))]
      exact h1 (by omega)
theorem eqd_kp {g g1 : S2} (h : Kp g g1) : EqD g g1 := ⟨fun a h1 h2 => h a (Or.inr (by omega)), by rw [h 141 (Or.inr (by omega))], by rw [h 141 (Or.inr (by omega))]⟩
theorem ca_advise {nb np : Nat} {g g1 g2 : S2} {r r' a1 : Int32} (I : Inv nb np g) (hC : CP g (er_1 1 120 a1) (fun r g1 => r = nI (f_adv g nb np (cl a1) 16).2.1 ∧ g1 = (f_adv g nb np (cl a1) 16).1) r g1)
    (hP : PR g1 (er_1 1 120 a1) (fun r g2 => r = oN (r_adv (thr0 g1) nb np (cl a1) 16).2.1 ∧ g2 = (r_adv (thr0 g1) nb np (cl a1) 16).1) r' g2) : Agr (er_1 1 120 a1) r r' g2 := by
  obtain ⟨hKp, hnum⟩ := adv_ok (mm := cl a1) I.1.1.2.2.1.1 I.2 16
  refine ca_gen (er' := fun _ => er_1 1 120 a1) (ok' := fun d r g2 => r = oN (r_adv d nb np (cl a1) 16).2.1 ∧ g2 = (r_adv d nb np (cl a1) 16).1) I hC hP ?_ (fun _ _ => rfl) ?_
  · rintro r g1 e ⟨-, q⟩
    rw [q]
    exact eqd_kp hKp
  · rintro d r' g2 e h2 ⟨rfl, h1⟩ hd ⟨rfl, h3⟩
    have hkr : KpR d g2 := by rw [h3]; exact r_adv_kp 16
    rw [← h1] at hKp hnum
    obtain ⟨k1, k2⟩ := see_inv h2 hKp hnum hd hkr
    refine ⟨k1, ?_, nb, np, k2⟩
    rw [((adv_sim h2 I.2 16 (Nat.le_refl _)).2 (by decide)).1]
    rfl
