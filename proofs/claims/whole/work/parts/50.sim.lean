/-! the class's line o (store g) beside the reference's state t (store d) -/
theorem u2_comm {g : S2} {i k i' k' : Nat} {x y : Int32} (h : i ≠ i' ∨ k ≠ k') : u2 (u2 g i k x) i' k' y = u2 (u2 g i' k' y) i k x := by
  funext a j
  simp only [u2_app]
  by_cases h1 : a = i ∧ j = k
  · rw [if_pos h1, if_neg (by omega), if_pos h1]
  · rw [if_neg h1]
    by_cases h2 : a = i' ∧ j = k'
    · rw [if_pos h2, if_neg h1]
    · rw [if_neg h2, if_neg h1]
theorem u2_same {g : S2} {i k : Nat} {x : Int32} (h : x = g i k) : u2 g i k x = g := by
  funext a j
  rw [u2_app]
  split
  · rename_i q; rw [q.1, q.2]; exact h
  · rfl
theorem cnB_upd {A B : Nat → Bool} {p : Nat} (h : ∀ q, q ≠ p → A q = B q) : ∀ {n : Nat}, p < n → cnB A n + (if B p = true then 1 else 0) = cnB B n + (if A p = true then 1 else 0)
  | 0, hp => by omega
  | n + 1, hp => by
    show cnB A n + (if A n = true then 1 else 0) + _ = cnB B n + (if B n = true then 1 else 0) + _
    by_cases e : p = n
    · subst e
      rw [cnB_congr (q := A) (r := B) (fun k hk => h k (by omega))]
      omega
    · have ih := cnB_upd h (n := n) (by omega)
      rw [h n (Ne.symm e)]
      omega
def NN (x : Int32) : Prop := ∃ m, m < 2 ^ 30 ∧ x = nI m
theorem NN.z {x : Int32} (h : NN x) : ¬ 0 < x ↔ x = 0 := by
  obtain ⟨m, hm, rfl⟩ := h
  constructor
  · intro q
    rcases Nat.eq_zero_or_pos m with e | e
    · rw [e]; rfl
    · exact absurd (show nI 0 < nI m from nI_lt e (by omega)) q
  · intro q; rw [q]; decide
theorem NN.of {m : Nat} (h : m < 2 ^ 30) : NN (nI m) := ⟨m, h, rfl⟩
theorem NN.dec {x : Int32} (h : NN x) (h0 : 0 < x) : NN (x - 1) := by
  obtain ⟨m, hm, rfl⟩ := h
  rcases Nat.eq_zero_or_pos m with e | e
  · rw [e] at h0; exact absurd h0 (by decide)
  · refine ⟨m - 1, by omega, ?_⟩
    rw [show (1 : Int32) = nI 1 from rfl, pk_sub e]
def SimC (o t nb np : Nat) (g d : S2) : Prop :=
  (∀ i, i < 10 → g (o + 4 + i) 0 = d 142 i ∧ g (o + 4 + i) 1 = d 143 i ∧ g (o + 4 + i) 2 = d (t + 1) i) ∧
  (∀ j, j < nb → g (o + 14 + j) 1 = d (t + 2) j ∧ g (o + 14 + j) 2 = d (t + 3) j ∧ g (o + 14 + j) 3 = d (t + 4) j ∧ g (o + 14 + j) 4 = d 144 j ∧ g (o + 14 + j) 6 = d (t + 5) j) ∧
  (∀ p k, p < np → k < 8 → g (o + 20 + p) k = d (t + (6 + k)) p) ∧ g o 5 = d t 0 ∧ g o 6 = d t 1
def Rid (o t nb np : Nat) (e : Nat → Nat) (g d : S2) : Prop := ∀ j, j < nb → g (o + 14 + j) 5 = nI (r_rid d t j np + e j)
theorem simc_P {o t nb np p k : Nat} {g d : S2} {x : Int32} (ht : isT t) (h6 : nb ≤ 6) (h : SimC o t nb np g d) (hp : p < np) (hk : k < 8) (h50 : np ≤ 50) : SimC o t nb np (u2 g (o + 20 + p) k x) (u2 d (t + (6 + k)) p x) := by
  unfold isT at ht
  obtain ⟨a, b, c, e, f⟩ := h
  refine ⟨fun i hi => ?_, fun j hj => ?_, fun q r hq hr => ?_, ?_, ?_⟩
  · rw [u2_n (by omega), u2_n (by omega), u2_n (by omega), u2_n (by omega), u2_n (by omega), u2_n (by omega)]; exact a i hi
  · rw [u2_n (by omega), u2_n (by omega), u2_n (by omega), u2_n (by omega), u2_n (by omega), u2_n (by omega), u2_n (by omega), u2_n (by omega), u2_n (by omega), u2_n (by omega)]; exact b j hj
  · rw [u2_app, u2_app]
    by_cases z : q = p ∧ r = k
    · rw [if_pos (by omega), if_pos (by omega)]
    · rw [if_neg (by omega), if_neg (by omega)]; exact c q r hq hr
  · rw [u2_n (by omega), u2_n (by omega)]; exact e
  · rw [u2_n (by omega), u2_n (by omega)]; exact f
theorem simc_B {o t nb np j k r : Nat} {g d : S2} {x : Int32} (ht : isT t) (h6 : nb ≤ 6) (h : SimC o t nb np g d) (hj : j < nb) (hk : (k = 1 ∧ r = 2) ∨ (k = 2 ∧ r = 3) ∨ (k = 3 ∧ r = 4) ∨ (k = 6 ∧ r = 5)) : SimC o t nb np (u2 g (o + 14 + j) k x) (u2 d (t + r) j x) := by
  unfold isT at ht
  obtain ⟨a, b, c, e, f⟩ := h
  refine ⟨fun i hi => ?_, fun i hi => ?_, fun q s hq hs => ?_, ?_, ?_⟩
  · rw [u2_n (by omega), u2_n (by omega), u2_n (by omega), u2_n (by omega), u2_n (by omega), u2_n (by omega)]; exact a i hi
  · obtain ⟨b1, b2, b3, b4, b5⟩ := b i hi
    refine ⟨?_, ?_, ?_, ?_, ?_⟩
    · rw [u2_app, u2_app]; by_cases z : i = j ∧ k = 1
      · rw [if_pos (by omega), if_pos (by omega)]
      · rw [if_neg (by omega), if_neg (by omega)]; exact b1
    · rw [u2_app, u2_app]; by_cases z : i = j ∧ k = 2
      · rw [if_pos (by omega), if_pos (by omega)]
      · rw [if_neg (by omega), if_neg (by omega)]; exact b2
    · rw [u2_app, u2_app]; by_cases z : i = j ∧ k = 3
      · rw [if_pos (by omega), if_pos (by omega)]
      · rw [if_neg (by omega), if_neg (by omega)]; exact b3
    · rw [u2_app, u2_app, if_neg (by omega), if_neg (by omega)]; exact b4
    · rw [u2_app, u2_app]; by_cases z : i = j ∧ k = 6
      · rw [if_pos (by omega), if_pos (by omega)]
      · rw [if_neg (by omega), if_neg (by omega)]; exact b5
  · rw [u2_n (by omega), u2_n (by omega)]; exact c q s hq hs
  · rw [u2_n (by omega), u2_n (by omega)]; exact e
  · rw [u2_n (by omega), u2_n (by omega)]; exact f
theorem simc_S {o t nb np i : Nat} {g d : S2} {x : Int32} (ht : isT t) (h : SimC o t nb np g d) (hi : i < 10) : SimC o t nb np (u2 g (o + 4 + i) 2 x) (u2 d (t + 1) i x) := by
  unfold isT at ht
  obtain ⟨a, b, c, e, f⟩ := h
  refine ⟨fun q hq => ?_, fun j hj => ?_, fun q s hq hs => ?_, ?_, ?_⟩
  · obtain ⟨a1, a2, a3⟩ := a q hq
    refine ⟨?_, ?_, ?_⟩
    · rw [u2_app, if_neg (by omega), u2_n (by omega)]; exact a1
    · rw [u2_app, if_neg (by omega), u2_n (by omega)]; exact a2
    · rw [u2_app, u2_app]; by_cases z : q = i
      · rw [if_pos (by omega), if_pos (by omega)]
      · rw [if_neg (by omega), if_neg (by omega)]; exact a3
  · rw [u2_n (by omega), u2_n (by omega), u2_n (by omega), u2_n (by omega), u2_n (by omega), u2_n (by omega), u2_n (by omega), u2_n (by omega), u2_n (by omega), u2_n (by omega)]; exact b j hj
  · rw [u2_n (by omega), u2_n (by omega)]; exact c q s hq hs
  · rw [u2_n (by omega), u2_n (by omega)]; exact e
  · rw [u2_n (by omega), u2_n (by omega)]; exact f
theorem simc_T {o t nb np k : Nat} {g d : S2} {x : Int32} (ht : isT t) (h : SimC o t nb np g d) (hk : k < 2) : SimC o t nb np (u2 g o (5 + k) x) (u2 d t k x) := by
  unfold isT at ht
  obtain ⟨a, b, c, e, f⟩ := h
  refine ⟨fun q hq => ?_, fun j hj => ?_, fun q s hq hs => ?_, ?_, ?_⟩
  · rw [u2_n (by omega), u2_n (by omega), u2_n (by omega), u2_n (by omega), u2_n (by omega), u2_n (by omega)]; exact a q hq
  · rw [u2_n (by omega), u2_n (by omega), u2_n (by omega), u2_n (by omega), u2_n (by omega), u2_n (by omega), u2_n (by omega), u2_n (by omega), u2_n (by omega), u2_n (by omega)]; exact b j hj
  · rw [u2_n (by omega), u2_n (by omega)]; exact c q s hq hs
  · rw [u2_app, u2_app]; by_cases z : k = 0
    · rw [if_pos (by omega), if_pos (by omega)]
    · rw [if_neg (by omega), if_neg (by omega)]; exact e
  · rw [u2_app, u2_app]; by_cases z : k = 1
    · rw [if_pos (by omega), if_pos (by omega)]
    · rw [if_neg (by omega), if_neg (by omega)]; exact f
theorem simc_R {o t nb np j : Nat} {g d : S2} {x : Int32} (h6 : nb ≤ 6) (h : SimC o t nb np g d) (hj : j < 6) : SimC o t nb np (u2 g (o + 14 + j) 5 x) d := by
  obtain ⟨a, b, c, e, f⟩ := h
  refine ⟨fun q hq => ?_, fun i hi => ?_, fun q s hq hs => ?_, ?_, ?_⟩
  · rw [u2_n (by omega), u2_n (by omega), u2_n (by omega)]; exact a q hq
  · rw [u2_app, if_neg (by omega), u2_app, if_neg (by omega), u2_app, if_neg (by omega), u2_app, if_neg (by omega), u2_app, if_neg (by omega)]; exact b i hi
  · rw [u2_n (by omega)]; exact c q s hq hs
  · rw [u2_n (by omega)]; exact e
  · rw [u2_n (by omega)]; exact f
theorem rid_same {d d' : S2} {t j np : Nat} (h : ∀ q, q < np → d' (t + 6) q = d (t + 6) q ∧ d' (t + 9) q = d (t + 9) q) : r_rid d' t j np = r_rid d t j np :=
  cnB_congr (fun q hq => by rw [(h q hq).1, (h q hq).2])
theorem f_cnt_congr {s s' : Nat → Int32} {a : Nat} (h : ∀ i, i < 10 → s i = s' i) : ∀ n, f_cnt s a n = f_cnt s' a n
  | 0 => rfl
  | n + 1 => by
    unfold f_cnt
    rw [f_cnt_congr h n, h _ (Nat.mod_lt _ (by decide)), h _ (Nat.mod_lt _ (by decide))]
theorem f_fareI_congr {s s' : Nat → Int32} {x y : Int32} (h : ∀ i, i < 10 → s i = s' i) : f_fareI s x y = f_fareI s' x y := by
  unfold f_fareI f_fare
  rw [f_cnt_congr h]
theorem nI_ne {a b : Nat} (h : a ≠ b) (ha : a < 2000) (hb : b < 2000) : nI a ≠ nI b := fun q => h ((nI_eq (by omega) (by omega)).mp q)
/-- seats, minutes, hold: no less than 0; who rides, rides in a bus that there is -/
def NNv (t nb : Nat) (d : S2) : Prop := (∀ j, j < nb → NN (d 144 j)) ∧ (∀ i, i < 10 → NN (d 142 i)) ∧ NN (d t 1)
def NNL (t nb : Nat) (d : S2) : Prop := ∀ j, j < nb → NN (d (t + 4) j)
theorem NNv.u {t nb i k : Nat} {d : S2} {x : Int32} (h : NNv t nb d) (h144 : i ≠ 144) (h142 : i ≠ 142) (h1 : i = t → k ≠ 1) : NNv t nb (u2 d i k x) := by
  obtain ⟨a, b, c⟩ := h
  refine ⟨fun j hj => by rw [u2_n (Ne.symm h144)]; exact a j hj, fun q hq => by rw [u2_n (Ne.symm h142)]; exact b q hq, ?_⟩
  rw [u2_app, if_neg (fun q => h1 q.1.symm q.2.symm)]; exact c
def InB (t nb np : Nat) (d : S2) : Prop := ∀ p, p < np → d (t + 6) p = 1 → ∃ j, j < nb ∧ d (t + 9) p = nI j
theorem InB.u {t nb np i k : Nat} {d : S2} {x : Int32} (h : InB t nb np d) (h6 : i = t + 6 → x ≠ 1) (h9 : i = t + 9 → ∃ j, j < nb ∧ x = nI j) : InB t nb np (u2 d i k x) := by
  intro p hp q
  rw [u2_app] at q
  rw [u2_app]
  split at q
  · rename_i z; exact absurd q (h6 z.1.symm)
  · split
    · rename_i z; exact h9 z.1.symm
    · exact h p hp q
/-- what both sides hold beside their equal columns -/
def SimK (o t nb np : Nat) (e : Nat → Nat) (g d : S2) : Prop := SimC o t nb np g d ∧ Rid o t nb np e g d ∧ (OkL o nb np g ∧ OkR t nb np d) ∧ NNv t nb d ∧ InB t nb np d
def e1 (j n : Nat) : Nat → Nat := fun i => if i = j then n else 0
def e0 : Nat → Nat := fun _ => 0
theorem e1_s {j n : Nat} : e1 j n j = n := by unfold e1; rw [if_pos rfl]
theorem e1_n {j n i : Nat} (h : i ≠ j) : e1 j n i = 0 := by unfold e1; rw [if_neg h]
theorem nI_inj {a b : Nat} (h : nI a = nI b) (ha : a < 2000) (hb : b < 2000) : a = b := (nI_eq (by omega) (by omega)).mp h
theorem sim_offs {o t nb np j : Nat} {g d : S2} (ht : isT t) (h : SimK o t nb np e0 g d) (hj : j < nb) : ∀ n, n ≤ np →
    (f_offs g o (o + 14 + j) n).2 = (r_offs d t j n).2 ∧ (r_offs d t j n).2 ≤ n ∧ SimK o t nb np (e1 j (r_offs d t j n).2) (f_offs g o (o + 14 + j) n).1 (r_offs d t j n).1
  | 0, _ => ⟨rfl, Nat.le_refl _, h.1, fun i hi => by
      have := h.2.1 i hi
      rw [show (f_offs g o (o + 14 + j) 0).1 = g from rfl, show (r_offs d t j 0).1 = d from rfl, this]
      unfold e0 e1; split <;> rfl, h.2.2.1, h.2.2.2⟩
  | n + 1, hn => by
    obtain ⟨h2, h2n, hc, hr, ⟨hl, hk⟩, hv, hi⟩ := sim_offs ht h hj n (by omega)
    have h6 := hl.1.2
    have h50 := hl.2.1.2
    have hT := ht
    unfold isT at hT
    have hs := hc.2.2.1
    have hcond : ((f_offs g o (o + 14 + j) n).1 (o + 20 + n) 0 = 1 ∧ (f_offs g o (o + 14 + j) n).1 (o + 20 + n) 3 = (f_offs g o (o + 14 + j) n).1 (o + 14 + j) 0 ∧ (f_offs g o (o + 14 + j) n).1 (o + 20 + n) 2 = (f_offs g o (o + 14 + j) n).1 (o + 14 + j) 1) ↔ ((r_offs d t j n).1 (t + 6) n = 1 ∧ (r_offs d t j n).1 (t + 9) n = nI j ∧ (r_offs d t j n).1 (t + 8) n = (r_offs d t j n).1 (t + 2) j) := by
      rw [hs n 0 (by omega) (by omega), hs n 3 (by omega) (by omega), hs n 2 (by omega) (by omega), hl.2.2.1 j (by omega), (hc.2.1 j hj).1]
    show (f_offs1 o (o + 14 + j) n (f_offs g o (o + 14 + j) n)).2 = (r_offs1 t j n (r_offs d t j n)).2 ∧ (r_offs1 t j n (r_offs d t j n)).2 ≤ n + 1 ∧ SimK o t nb np (e1 j (r_offs1 t j n (r_offs d t j n)).2) (f_offs1 o (o + 14 + j) n (f_offs g o (o + 14 + j) n)).1 (r_offs1 t j n (r_offs d t j n)).1
    unfold f_offs1 r_offs1
    generalize f_offs g o (o + 14 + j) n = A at *
    generalize r_offs d t j n = B at *
    by_cases z : B.1 (t + 6) n = 1 ∧ B.1 (t + 9) n = nI j ∧ B.1 (t + 8) n = B.1 (t + 2) j
    · rw [if_pos (hcond.mpr z), if_pos z]
      refine ⟨by show A.2 + 1 = B.2 + 1; omega, by show B.2 + 1 ≤ n + 1; omega, ?_, ?_, ⟨okl_off hl (by omega), okr_off ht hk⟩, ?_, ?_⟩
      · show SimC o t nb np (f_off A.1 (o + 20 + n) (A.1 o 5)) (r_off B.1 t j n)
        unfold f_off r_off
        rw [hc.2.2.2.1, show A.1 (o + 20 + n) 2 = B.1 (t + 2) j from (hs n 2 (by omega) (by omega)).trans z.2.2]
        exact simc_P (k := 6) ht h6 (simc_P (k := 3) ht h6 (simc_P (k := 1) ht h6 (simc_P (k := 0) ht h6 hc (by omega) (by omega) h50) (by omega) (by omega) h50) (by omega) (by omega) h50) (by omega) (by omega) h50
      · intro i hi
        show f_off A.1 (o + 20 + n) (A.1 o 5) (o + 14 + i) 5 = nI (r_rid (r_off B.1 t j n) t i np + e1 j (B.2 + 1) i)
        have hA : f_off A.1 (o + 20 + n) (A.1 o 5) (o + 14 + i) 5 = A.1 (o + 14 + i) 5 := by
          unfold f_off; (repeat rw [u2_app, if_neg (by omega)])
        rw [hA, hr i hi]
        have hu := cnB_upd (A := fun q => decide (B.1 (t + 6) q = 1 ∧ B.1 (t + 9) q = nI i)) (B := fun q => decide (r_off B.1 t j n (t + 6) q = 1 ∧ r_off B.1 t j n (t + 9) q = nI i)) (p := n) (fun q hq => by
          have q1 : r_off B.1 t j n (t + 6) q = B.1 (t + 6) q := by unfold r_off; (repeat rw [u2_app, if_neg (by omega)])
          have q2 : r_off B.1 t j n (t + 9) q = B.1 (t + 9) q := by unfold r_off; (repeat rw [u2_app, if_neg (by omega)])
          show decide (_ ∧ _) = decide (_ ∧ _)
          rw [q1, q2]) (n := np) (by omega)
        have hB : decide (r_off B.1 t j n (t + 6) n = 1 ∧ r_off B.1 t j n (t + 9) n = nI i) = false := by
          refine decide_eq_false (fun q => ?_)
          have q1 := q.1
          unfold r_off at q1
          rw [u2_n (by omega), u2_n (by omega), u2_n (by omega), u2_s] at q1
          exact absurd q1 (by decide)
        rw [if_neg (by rw [hB]; decide)] at hu
        show nI (cnB _ np + _) = nI (cnB _ np + _)
        by_cases hij : i = j
        · subst hij
          rw [if_pos (decide_eq_true ⟨z.1, z.2.1⟩)] at hu
          rw [e1_s, e1_s]
          congr 1
          omega
        · rw [if_neg (fun q => nI_ne (Ne.symm hij) (by omega) (by omega) (z.2.1.symm.trans (of_decide_eq_true q).2))] at hu
          rw [e1_n hij, e1_n hij]
          congr 1
      · unfold r_off
        exact (((hv.u (by omega) (by omega) (by omega)).u (by omega) (by omega) (by omega)).u (by omega) (by omega) (by omega)).u (by omega) (by omega) (by omega)
      · intro p hp
        show r_off B.1 t j n (t + 6) p = 1 → ∃ i, i < nb ∧ r_off B.1 t j n (t + 9) p = nI i
        by_cases hpn : p = n
        · subst hpn
          intro q
          unfold r_off at q
          rw [u2_n (by omega), u2_n (by omega), u2_n (by omega), u2_s] at q
          exact absurd q (by decide)
        · have q1 : r_off B.1 t j n (t + 6) p = B.1 (t + 6) p := by unfold r_off; (repeat rw [u2_app, if_neg (by omega)])
          have q2 : r_off B.1 t j n (t + 9) p = B.1 (t + 9) p := by unfold r_off; (repeat rw [u2_app, if_neg (by omega)])
          rw [q1, q2]
          exact hi p hp
    · rw [if_neg (fun q => z (hcond.mp q)), if_neg z]
      exact ⟨h2, by omega, hc, hr, ⟨hl, hk⟩, hv, hi⟩
theorem sim_letOff {o t nb np j : Nat} {g d : S2} (ht : isT t) (h : SimK o t nb np e0 g d) (hj : j < nb) :
    (f_offs g o (o + 14 + j) np).2 = (r_offs d t j np).2 ∧ (r_offs d t j np).2 ≤ np ∧ SimK o t nb np e0 (f_letOff g o (o + 14 + j) np) (r_offs d t j np).1 := by
  obtain ⟨h2, h2n, hc, hr, ⟨hl, hk⟩, hv, hi⟩ := sim_offs ht h hj np (Nat.le_refl _)
  have h6 := hl.1.2
  have h50 := hl.2.1.2
  refine ⟨h2, h2n, ?_, ?_, ⟨okl_letOff h.2.2.1.1 (by omega), hk⟩, hv, hi⟩
  · unfold f_letOff
    exact simc_R h6 hc (by omega)
  · intro i hi
    have hri := hr i hi
    unfold f_letOff
    by_cases hij : i = j
    · subst hij
      rw [u2_s, hri, e1_s, h2, pk_sub (by omega)]
      congr 1
      show _ = _ + 0
      omega
    · rw [u2_n (by omega), hri, e1_n hij]; rfl
