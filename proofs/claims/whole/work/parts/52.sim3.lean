/-! who arrived, what was copied, what is not in use -/
def ar (d : S2) (t np : Nat) : Nat := cnB (rq_in d t 2) np
theorem ar_eq {d d' : S2} {t np : Nat} (h : d' (t + 6) = d (t + 6)) : ar d' t np = ar d t np := by unfold ar rq_in; rw [h]
theorem ar_offs {d : S2} {t j np : Nat} : ∀ n, n ≤ np → ar (r_offs d t j n).1 t np = ar d t np + (r_offs d t j n).2
  | 0, _ => rfl
  | n + 1, hn => by
    have ih := ar_offs (d := d) (t := t) (j := j) (np := np) n (by omega)
    unfold r_offs r_offs1
    generalize r_offs d t j n = B at *
    split
    · rename_i z
      show ar (r_off B.1 t j n) t np = ar d t np + (B.2 + 1)
      have hu := cnB_upd (A := rq_in B.1 t 2) (B := rq_in (r_off B.1 t j n) t 2) (p := n) (fun q hq => by
        have q1 : r_off B.1 t j n (t + 6) q = B.1 (t + 6) q := by unfold r_off; (repeat rw [u2_app, if_neg (by omega)])
        unfold rq_in
        rw [q1]) (n := np) (by omega)
      have s6 : r_off B.1 t j n (t + 6) n = 2 := by unfold r_off; rw [u2_n (by omega), u2_n (by omega), u2_n (by omega)]; exact u2_s
      have w1 : rq_in (r_off B.1 t j n) t 2 n = true := decide_eq_true s6
      have w2 : rq_in B.1 t 2 n = false := decide_eq_false (fun q => absurd (z.1.symm.trans q) (by decide))
      rw [w1, w2, if_pos rfl, if_neg (by decide)] at hu
      unfold ar at *
      omega
    · exact ih
theorem ar_ons {d : S2} {t j np : Nat} {x : Int32} : ∀ n, n ≤ np → ar (r_ons d t j x n).1 t np = ar d t np
  | 0, _ => rfl
  | n + 1, hn => by
    have ih := ar_ons (d := d) (t := t) (j := j) (np := np) (x := x) n (by omega)
    unfold r_ons r_ons1
    generalize r_ons d t j x n = B at *
    split
    · rename_i z
      show ar (r_board B.1 t j n) t np = ar d t np
      have hu := cnB_upd (A := rq_in B.1 t 2) (B := rq_in (r_board B.1 t j n) t 2) (p := n) (fun q hq => by
        have q1 : r_board B.1 t j n (t + 6) q = B.1 (t + 6) q := by unfold r_board; (repeat rw [u2_app, if_neg (by omega)])
        unfold rq_in
        rw [q1]) (n := np) (by omega)
      have s6 : r_board B.1 t j n (t + 6) n = 1 := by unfold r_board; rw [u2_n (by omega), u2_n (by omega), u2_n (by omega), u2_n (by omega)]; exact u2_s
      have w1 : rq_in (r_board B.1 t j n) t 2 n = false := decide_eq_false (fun q => absurd (s6.symm.trans q) (by decide))
      have w2 : rq_in B.1 t 2 n = false := decide_eq_false (fun q => absurd (z.2.1.symm.trans q) (by decide))
      rw [w1, w2, if_neg (by decide)] at hu
      unfold ar at *
      omega
    · exact ih
theorem ar_act {d : S2} {t j np : Nat} (hj : j < 2000) : ar (r_act d t j np).1 t np = ar d t np + (r_act d t j np).2 := by
  unfold r_act
  split
  · show ar (r_stand d t j) t np = ar d t np
    refine ar_eq ?_
    unfold r_stand r_std2
    have h1 : r_std1 d t j (t + 6) = d (t + 6) := by
      unfold r_std1; split
      · rw [u2_ne (by omega)]
      · rfl
    split
    · exact h1
    · rw [u2_ne (by omega), u2_ne (by omega), u2_ne (by omega)]; exact h1
  · split
    · exact ar_eq (u2_ne (by omega))
    · show ar (u2 _ (t + 4) j _) t np = ar d t np + (r_offs (r_arr d t j) t j np).2
      rw [ar_eq (u2_ne (by omega)), ar_ons np (Nat.le_refl _), ar_offs np (Nat.le_refl _)]
      rw [ar_eq (d := d) (d' := r_arr d t j) (by unfold r_arr; rw [u2_ne (by omega), u2_ne (by omega), u2_ne (by omega)])]
theorem ar_acts {d : S2} {t np : Nat} : ∀ n, n ≤ 2000 → ar (r_acts d t np n).1 t np = ar d t np + (r_acts d t np n).2
  | 0, _ => rfl
  | n + 1, h => by
    have ih := ar_acts (d := d) (t := t) (np := np) n (by omega)
    show ar (r_act (r_acts d t np n).1 t n np).1 t np = ar d t np + ((r_acts d t np n).2 + (r_act (r_acts d t np n).1 t n np).2)
    rw [ar_act (by omega), ih]
    omega
theorem ar_go {d : S2} {t nb np : Nat} (hb : nb ≤ 2000) : ar (r_go d t nb np).1 t np = ar d t np + (r_go d t nb np).2 := by
  have h1 : ∀ n, r_waitN (r_acts d t np nb).1 t n (t + 6) = (r_acts d t np nb).1 (t + 6) := by
    intro n
    induction n with
    | zero => rfl
    | succ n ih => unfold r_waitN; rw [u2_ne (by omega)]; exact ih
  show ar (u2 _ t 0 _) t np = ar d t np + (r_acts d t np nb).2
  rw [ar_eq (u2_ne (by omega)), ar_eq (h1 np), ar_acts nb hb]
theorem ar_gos {d : S2} {t nb np : Nat} (hb : nb ≤ 2000) : ∀ n, ar (r_gos d t nb np n).1 t np = ar d t np + (r_gos d t nb np n).2
  | 0 => rfl
  | n + 1 => by
    have ih := ar_gos (d := d) (t := t) (np := np) hb n
    show ar (r_go (r_gos d t nb np n).1 t nb np).1 t np = ar d t np + ((r_gos d t nb np n).2 + (r_go (r_gos d t nb np n).1 t nb np).2)
    rw [ar_go hb, ih]
    omega
theorem ar_le {d : S2} {t np : Nat} : ar d t np ≤ np := cnB_le _ _
theorem ar_same {o t nb np : Nat} {g d : S2} (h : SimC o t nb np g d) : cnB (q_in g o 2) np = ar d t np :=
  cnB_congr (fun q hq => by unfold q_in rq_in; rw [h.2.2.1 q 0 hq (by omega)])
-- what is not in use
def FreshC (o nb np : Nat) (g : S2) : Prop := (∀ j, nb ≤ j → j < 6 → g (o + 14 + j) 2 = 0 ∧ g (o + 14 + j) 5 = 0 ∧ g (o + 14 + j) 6 = 0) ∧ (∀ p, np ≤ p → p < 50 → g (o + 20 + p) 0 = 0 ∧ g (o + 20 + p) 3 = -1 ∧ g (o + 20 + p) 4 = 0 ∧ g (o + 20 + p) 5 = 0 ∧ g (o + 20 + p) 6 = -1 ∧ g (o + 20 + p) 7 = 0)
def FreshR (t nb np : Nat) (d : S2) : Prop := (∀ j, nb ≤ j → j < 6 → d (t + 3) j = 0 ∧ d (t + 5) j = 0) ∧ (∀ p, np ≤ p → p < 50 → d (t + 6) p = 0 ∧ d (t + 10) p = 0 ∧ d (t + 11) p = 0 ∧ d (t + 13) p = 0)
def OutN (o nb np a : Nat) : Prop := (o + 14 + nb ≤ a ∧ a < o + 20) ∨ o + 20 + np ≤ a
def OutM (t nb np a k : Nat) : Prop := ((a = t + 3 ∨ a = t + 5) ∧ nb ≤ k) ∨ ((a = t + 6 ∨ a = t + 10 ∨ a = t + 11 ∨ a = t + 13) ∧ np ≤ k)
theorem FreshC.eq {o nb np : Nat} {g g' : S2} (h : FreshC o nb np g) (e : ∀ a, OutN o nb np a → g' a = g a) : FreshC o nb np g' :=
  ⟨fun j h1 h2 => by rw [e _ (Or.inl (by omega))]; exact h.1 j h1 h2, fun p h1 h2 => by rw [e _ (Or.inr (by omega))]; exact h.2 p h1 h2⟩
theorem FreshR.eq {t nb np : Nat} {g g' : S2} (h : FreshR t nb np g) (e : ∀ a k, OutM t nb np a k → g' a k = g a k) : FreshR t nb np g' :=
  ⟨fun j h1 h2 => by rw [e _ _ (Or.inl (by omega)), e _ _ (Or.inl (by omega))]; exact h.1 j h1 h2, fun p h1 h2 => by rw [e _ _ (Or.inr (by omega)), e _ _ (Or.inr (by omega)), e _ _ (Or.inr (by omega)), e _ _ (Or.inr (by omega))]; exact h.2 p h1 h2⟩
theorem fn_offs {g : S2} {o nb np B a : Nat} (ha : OutN o nb np a) (hb : nb ≤ 6) : ∀ {n : Nat}, n ≤ np → (f_offs g o B n).1 a = g a
  | 0, _ => rfl
  | n + 1, h => by
    have ih := fn_offs (g := g) (B := B) ha hb (n := n) (by omega)
    unfold f_offs f_offs1
    split
    · show f_off _ (o + 20 + n) _ a = g a
      unfold OutN at ha; unfold f_off
      rw [u2_ne (by omega), u2_ne (by omega), u2_ne (by omega), u2_ne (by omega)]; exact ih
    · exact ih
theorem fn_ons {g : S2} {o nb np j a : Nat} (ha : OutN o nb np a) (hb : nb ≤ 6) (hj : j < nb) : ∀ {n : Nat}, n ≤ np → (f_ons g o (o + 14 + j) n).1 a = g a
  | 0, _ => rfl
  | n + 1, h => by
    have ih := fn_ons (g := g) ha hb hj (n := n) (by omega)
    unfold f_ons f_ons1
    split
    · show f_board _ o (o + 14 + j) (o + 20 + n) a = g a
      unfold OutN at ha; unfold f_board f_on
      rw [u2_ne (by omega), u2_ne (by omega), u2_ne (by omega), u2_ne (by omega), u2_ne (by omega), u2_ne (by omega)]; exact ih
    · exact ih
theorem fn_bus1 {g : S2} {o nb np j a : Nat} (ha : OutN o nb np a) (h : OkL o nb np g) (hj : j < nb) : f_bus1 g o np j a = g a := by
  have h6 := h.1.2
  have hne : a ≠ o + 14 + j := by unfold OutN at ha; omega
  unfold f_bus1
  split
  · have hcl := ((okl_std1 h hj).2.2.2.1 j hj).1.cl.1
    have h1 : f_std1 g (o + 14 + j) a = g a := by
      unfold f_std1; split
      · rw [u2_ne hne]
      · rfl
    unfold f_stand f_std2
    generalize f_std1 g (o + 14 + j) = A at *
    split
    · rw [u2_ne hne, u2_ne hne, u2_ne (by unfold OutN at ha; omega)]; exact h1
    · exact h1
  · unfold f_drive
    split
    · rw [u2_ne hne]
    · rw [u2_ne hne, fn_ons ha h6 hj (Nat.le_refl _)]
      unfold f_letOff
      rw [u2_ne hne, fn_offs ha h6 (Nat.le_refl _)]
      unfold f_arr
      rw [u2_ne hne, u2_ne hne, u2_ne hne]
theorem fn_min {g : S2} {o nb np a : Nat} (ha : OutN o nb np a) (h : OkL o nb np g) : f_min g o nb np a = g a := by
  have h6 := h.1.2
  have h1 : ∀ n, n ≤ nb → f_buses g o np n a = g a := by
    intro n
    induction n with
    | zero => exact fun _ => rfl
    | succ n ih => intro hn; unfold f_buses; rw [fn_bus1 ha (okl_buses h n (by omega)) (by omega)]; exact ih (by omega)
  have h2 : ∀ (g : S2) n, n ≤ np → f_waitN g o n a = g a := by
    intro g n
    induction n with
    | zero => exact fun _ => rfl
    | succ n ih =>
      intro hn; unfold f_waitN f_wait1
      split
      · rw [u2_ne (by unfold OutN at ha; omega)]; exact ih (by omega)
      · exact ih (by omega)
  unfold f_min f_tick
  rw [u2_ne (by unfold OutN at ha; omega), h2 _ np (Nat.le_refl _), h1 nb (Nat.le_refl _)]
theorem fn_mins {g : S2} {o nb np a : Nat} (ha : OutN o nb np a) (h : OkL o nb np g) : ∀ {n : Nat}, f_mins g o nb np n a = g a
  | 0 => rfl
  | n + 1 => by unfold f_mins; rw [fn_min ha (okl_mins h n)]; exact fn_mins ha h
theorem fm_act {d : S2} {t nb np j a k : Nat} (ha : OutM t nb np a k) (hj : j < nb) : (r_act d t j np).1 a k = d a k := by
  have h1 : ∀ (g : S2) n, n ≤ np → (r_offs g t j n).1 a k = g a k := by
    intro g n
    induction n with
    | zero => exact fun _ => rfl
    | succ n ih =>
      intro hn
      unfold r_offs r_offs1
      split
      · show r_off _ t j n a k = g a k
        unfold OutM at ha; unfold r_off
        (repeat rw [u2_app, if_neg (by omega)]); exact ih (by omega)
      · exact ih (by omega)
  have h2 : ∀ (g : S2) x n, n ≤ np → (r_ons g t j x n).1 a k = g a k := by
    intro g x n
    induction n with
    | zero => exact fun _ => rfl
    | succ n ih =>
      intro hn
      unfold r_ons r_ons1
      split
      · show r_board _ t j n a k = g a k
        unfold OutM at ha; unfold r_board
        (repeat rw [u2_app, if_neg (by omega)]); exact ih (by omega)
      · exact ih (by omega)
  unfold r_act
  split
  · have h3 : r_std1 d t j a k = d a k := by
      unfold r_std1; split
      · unfold OutM at ha; rw [u2_app, if_neg (by omega)]
      · rfl
    show r_stand d t j a k = d a k
    unfold r_stand r_std2
    split
    · exact h3
    · unfold OutM at ha
      (repeat rw [u2_app, if_neg (by omega)]); exact h3
  · split
    · show u2 d (t + 4) j _ a k = d a k
      unfold OutM at ha; rw [u2_app, if_neg (by omega)]
    · show u2 _ (t + 4) j _ a k = d a k
      rw [u2_app, if_neg (by unfold OutM at ha; omega), h2 _ _ np (Nat.le_refl _), h1 _ np (Nat.le_refl _)]
      unfold OutM at ha; unfold r_arr
      (repeat rw [u2_app, if_neg (by omega)])
theorem fm_gos {d : S2} {t nb np a k : Nat} (ha : OutM t nb np a k) : ∀ n, (r_gos d t nb np n).1 a k = d a k
  | 0 => rfl
  | n + 1 => by
    have h1 : ∀ (d : S2) n, n ≤ nb → (r_acts d t np n).1 a k = d a k := by
      intro d n
      induction n with
      | zero => exact fun _ => rfl
      | succ n ih => intro hn; show (r_act _ t n np).1 a k = _; rw [fm_act ha (by omega)]; exact ih (by omega)
    have h2 : ∀ (d : S2) n, n ≤ np → r_waitN d t n a k = d a k := by
      intro d n
      induction n with
      | zero => exact fun _ => rfl
      | succ n ih => intro hn; unfold r_waitN; rw [u2_app, if_neg (by unfold OutM at ha; omega)]; exact ih (by omega)
    have ih := fm_gos (d := d) ha n
    show u2 (r_waitN (r_acts (r_gos d t nb np n).1 t np nb).1 t np) t 0 _ a k = d a k
    rw [u2_app, if_neg (by unfold OutM at ha; omega), h2 _ np (Nat.le_refl _), h1 _ nb (Nat.le_refl _), ih]
-- copies
theorem sim_copy {nb np : Nat} {g d : S2} (h : SimK 1 145 nb np e0 g d) (hn : NNL 145 nb d) (hN : NumT g) : SimK 71 159 nb np e0 (f_copy g 71 1 nb np) (r_becs d 159 145 13) ∧ NNL 159 nb (r_becs d 159 145 13) := by
  obtain ⟨⟨c1, c2, c3, c4, c5⟩, hr, ⟨hl, hk⟩, hv, hi⟩ := h
  have h6 := hl.1.2
  have h50 := hl.2.1.2
  obtain ⟨k1, k2, k3, k4, k5⟩ := copy_at (g := g) LL71 h6 h50
  have kb : ∀ r i, 1 ≤ r → r ≤ 13 → i < alen (159 + r) → r_becs d 159 145 13 (159 + r) i = d (145 + r) i := becs_at TT1 (Nat.le_refl _)
  have kn : ∀ a, a < 159 → r_becs d 159 145 13 a = d a := fun a ha => becs_n TT1 (Nat.le_refl _) a (by omega)
  have ke : ∀ r i, 2 ≤ r → r < 6 → i < 6 → r_becs d 159 145 13 (159 + r) i = d (145 + r) i := fun r i h1 h2 h3 => kb r i (by omega) (by omega) (by rw [alen_6 (Or.inr rfl) h1 h2]; exact h3)
  have kp : ∀ r i, 6 ≤ r → r < 14 → i < 50 → r_becs d 159 145 13 (159 + r) i = d (145 + r) i := fun r i h1 h2 h3 => kb r i (by omega) (by omega) (by rw [alen_50 (Or.inr rfl) h1 h2]; exact h3)
  have k0 := becs_0 (g := d) TT1 (Nat.le_refl 13)
  refine ⟨⟨⟨fun i hi => ?_, fun j hj => ?_, fun p k hp hk => ?_, ?_, ?_⟩, fun j hj => ?_, ⟨okl_copy LL71 hl hN, okr_becs TT1 hk⟩, ⟨fun j hj => ?_, fun i hi => ?_, ?_⟩, fun p hp => ?_⟩, fun j hj => ?_⟩
  · rw [k1 i 0 hi (by omega), k1 i 1 hi (by omega), k1 i 2 hi (by omega), kn 142 (by omega), kn 143 (by omega), kb 1 i (by omega) (by omega) (by rw [alen_1 (Or.inr rfl)]; exact hi)]
    exact c1 i hi
  · rw [k2 j 1 hj (by omega) (by omega), k2 j 2 hj (by omega) (by omega), k2 j 3 hj (by omega) (by omega), k2 j 4 hj (by omega) (by omega), k2 j 6 hj (by omega) (by omega), ke 2 j (by omega) (by omega) (by omega), ke 3 j (by omega) (by omega) (by omega), ke 4 j (by omega) (by omega) (by omega), ke 5 j (by omega) (by omega) (by omega), kn 144 (by omega)]
    exact c2 j hj
  · rw [k3 p k hp hk, kp (6 + k) p (by omega) (by omega) (by omega)]
    exact c3 p k hp hk
  · rw [k5 5 (by omega) (by omega), k0.1]; exact c4
  · rw [k5 6 (by omega) (by omega), k0.2]; exact c5
  · rw [k2 j 5 hj (by omega) (by omega), hr j hj]
    congr 2
    exact cnB_congr (fun q hq => by rw [kp 6 q (by omega) (by omega) (by omega), kp 9 q (by omega) (by omega) (by omega)])
  · rw [kn 144 (by omega)]; exact hv.1 j hj
  · rw [kn 142 (by omega)]; exact hv.2.1 i hi
  · rw [k0.2]; exact hv.2.2
  · rw [kp 6 p (by omega) (by omega) (by omega), kp 9 p (by omega) (by omega) (by omega)]; exact hi p hp
  · show NN (r_becs d 159 145 13 (159 + 4) j)
    rw [ke 4 j (by omega) (by omega) (by omega)]; exact hn j hj
theorem fresh_becs {nb np : Nat} {d : S2} (h : FreshR 145 nb np d) : FreshR 159 nb np (r_becs d 159 145 13) := by
  have kb : ∀ r i, 1 ≤ r → r ≤ 13 → i < alen (159 + r) → r_becs d 159 145 13 (159 + r) i = d (145 + r) i := becs_at TT1 (Nat.le_refl _)
  have ke : ∀ r i, 2 ≤ r → r < 6 → i < 6 → r_becs d 159 145 13 (159 + r) i = d (145 + r) i := fun r i h1 h2 h3 => kb r i (by omega) (by omega) (by rw [alen_6 (Or.inr rfl) h1 h2]; exact h3)
  have kp : ∀ r i, 6 ≤ r → r < 14 → i < 50 → r_becs d 159 145 13 (159 + r) i = d (145 + r) i := fun r i h1 h2 h3 => kb r i (by omega) (by omega) (by rw [alen_50 (Or.inr rfl) h1 h2]; exact h3)
  exact ⟨fun j h1 h2 => by rw [ke 3 j (by omega) (by omega) h2, ke 5 j (by omega) (by omega) h2]; exact h.1 j h1 h2, fun p h1 h2 => by rw [kp 6 p (by omega) (by omega) h2, kp 10 p (by omega) (by omega) h2, kp 11 p (by omega) (by omega) h2, kp 13 p (by omega) (by omega) h2]; exact h.2 p h1 h2⟩
theorem sim_hold {nb np n : Nat} {g d : S2} (h : SimK 71 159 nb np e0 g d) (hn : NNL 159 nb d) (hlt : n < 2000) : SimK 71 159 nb np e0 (u2 g 71 6 (nI n)) (u2 d 159 1 (nI n)) ∧ NNL 159 nb (u2 d 159 1 (nI n)) := by
  obtain ⟨hc, hr, ⟨hl, hk⟩, hv, hi⟩ := h
  have h6 := hl.1.2
  refine ⟨⟨simc_T (k := 1) (Or.inr rfl) hc (by omega), fun i hi => ?_, ⟨OkL.L hl (by decide), OkR.u hk (by omega) (by omega) (by omega)⟩, ⟨fun j hj => by rw [u2_n (by omega)]; exact hv.1 j hj, fun i hi => by rw [u2_n (by omega)]; exact hv.2.1 i hi, by rw [u2_s]; exact NN.of (by omega)⟩, hi.u (by omega) (by omega)⟩, nnl_u hn (by omega)⟩
  rw [u2_n (by omega), hr i hi, rid_eq (u2_ne (by omega)) (u2_ne (by omega))]
theorem sumF_ext {f : Nat → Int32} {n : Nat} : ∀ k, (∀ q, n ≤ q → q < n + k → f q = 0) → sumF f (n + k) = sumF f n
  | 0, _ => rfl
  | k + 1, h => by
    have ih := sumF_ext k (fun q h1 h2 => h q h1 (by omega))
    show sumF f (n + k) + f (n + k) = _
    rw [ih, h (n + k) (by omega) (by omega), Int32.add_zero]
theorem sum_50 {f : Nat → Int32} {n : Nat} (hn : n ≤ 50) (h : ∀ q, n ≤ q → q < 50 → f q = 0) : sumF f 50 = sumF f n := by
  have := sumF_ext (f := f) (n := n) (50 - n) (fun q h1 h2 => h q h1 (by omega))
  rw [show n + (50 - n) = 50 by omega] at this
  exact this
/-- pairs counted from the first and from the second -/
def b1 (x : Bool) : Nat := if x = true then 1 else 0
theorem cnB_b (q : Nat → Bool) (n : Nat) : cnB q (n + 1) = cnB q n + b1 (q n) := rfl
theorem cnB_z (q : Nat → Bool) : cnB q 0 = 0 := rfl
theorem cnP_eq {q r : Nat → Nat → Bool} {nb : Nat} (h6 : nb ≤ 6) (h : ∀ a c, a < nb → c < nb → r a c = q c a) : cnP q nb nb = cnQ r nb := by
  have h0 : ∀ n, cnQ r n = 0 ∨ True := fun _ => Or.inr trivial
  rcases (by omega : nb = 0 ∨ nb = 1 ∨ nb = 2 ∨ nb = 3 ∨ nb = 4 ∨ nb = 5 ∨ nb = 6) with rfl | rfl | rfl | rfl | rfl | rfl | rfl
  all_goals simp (disch := omega) only [cnP, cnQ, cnB_b, cnB_z, Nat.reduceAdd, Nat.reduceSub, h, Nat.zero_add, Nat.add_zero, Nat.add_assoc, Nat.add_comm, Nat.add_left_comm]
