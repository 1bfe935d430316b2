/-! what the law notes of the line, and that asking changes nothing of it -/
theorem cnP_congr {q r : Nat → Nat → Bool} {nb : Nat} : ∀ {a : Nat}, a ≤ nb → (∀ i k, i < nb → k < nb → q i k = r i k) → cnP q nb a = cnP r nb a
  | 0, _, _ => rfl
  | a + 1, ha, h => by
    unfold cnP
    rw [cnP_congr (by omega) h, cnB_congr (fun d hd => h a (a + 1 + d) (by omega) (by omega))]
theorem sub2 {a b c d : Int32} (h1 : a = c) (h2 : b = d) : a - b = c - d := by rw [h1, h2]
/-- what a minute would bring -/
def see1 (g : S2) (nb np : Nat) : Nat → Int32
  | 0 => nI (cnB (q_in (f_min g 1 nb np) 1 2) np) - nI (cnB (q_in g 1 2) np)
  | 1 => sumF (fun q => f_min g 1 nb np (1 + 20 + q) 4) np - sumF (fun q => g (1 + 20 + q) 4) np
  | 2 => sumF (fun q => f_min g 1 nb np (1 + 20 + q) 5) np - sumF (fun q => g (1 + 20 + q) 5) np
  | _ => nI (cnP (q_bu (f_min g 1 nb np) 1) nb nb)
theorem see_gen {o nb np : Nat} {G G' g g' : S2} (E : Eqv o 1 nb np G G') (hk : ∀ q, q < np → ∀ k, k < 8 → g (1 + 20 + q) k = g' (1 + 20 + q) k) :
    cnB (q_in G o 2) np = cnB (q_in G' 1 2) np ∧ cnB (q_in g 1 2) np = cnB (q_in g' 1 2) np ∧ (∀ k, k < 8 → sumF (fun q => G (o + 20 + q) k) np = sumF (fun q => G' (1 + 20 + q) k) np ∧ sumF (fun q => g (1 + 20 + q) k) np = sumF (fun q => g' (1 + 20 + q) k) np) ∧ cnP (q_bu G o) nb nb = cnP (q_bu G' 1) nb nb := by
  refine ⟨cnB_congr (fun q hq => by unfold q_in; rw [E.2.2.2 q 0 hq (by decide)]), cnB_congr (fun q hq => by unfold q_in; rw [hk q hq 0 (by decide)]), fun k h8 => ⟨sumF_congr (fun q hq => E.2.2.2 q k hq h8), sumF_congr (fun q hq => hk q hq k h8)⟩, cnP_congr (Nat.le_refl _) (fun i k hi hk => ?_)⟩
  unfold q_bu
  rw [E.2.2.1 i 1 hi (by decide), E.2.2.1 k 1 hk (by decide), E.2.2.1 i 2 hi (by decide), E.2.2.1 k 2 hk (by decide)]
theorem eqv_kp {nb np : Nat} {g g1 : S2} (k : Kp g g1) (h6 : nb ≤ 6) (h50 : np ≤ 50) : Eqv 1 1 nb np g1 g :=
  ⟨fun q h1 h2 => by rw [k 1 (Or.inl (by omega))], fun i q hi hq => by rw [k _ (Or.inl (by omega))], fun i q hi hq => by rw [k _ (Or.inl (by omega))], fun i q hi hq => by rw [k _ (Or.inl (by omega))]⟩
theorem see1_kp {nb np : Nat} {g g1 : S2} (k : Kp g g1) (h : OkL 1 nb np g) : ∀ j, see1 g1 nb np j = see1 g nb np j := by
  have h6 := h.1.2
  have h50 := h.2.1.2
  have E := eqv_min h (eqv_kp k h6 h50)
  obtain ⟨e1, e2, e3, e4⟩ := see_gen E (g := g1) (g' := g) (fun q hq j hj => by rw [k _ (Or.inl (by omega))])
  intro j
  match j with
  | 0 => exact (sub2 (congrArg nI e1) (congrArg nI e2) :)
  | 1 => exact (sub2 (e3 4 (by decide)).1 (e3 4 (by decide)).2 :)
  | 2 => exact (sub2 (e3 5 (by decide)).1 (e3 5 (by decide)).2 :)
  | j + 3 => exact congrArg nI e4
theorem f_see_eq {nb np : Nat} {g : S2} (h : OkL 1 nb np g) (hN : NumT g) : ∀ j, f_see (f_mins (f_copy g 71 1 nb np) 71 nb np 1) nb np j = see1 g nb np j := by
  have h6 := h.1.2
  have h50 := h.2.1.2
  have E : Eqv 71 1 nb np (f_mins (f_copy g 71 1 nb np) 71 nb np 1) (f_min g 1 nb np) := eqv_mins h (eqv_copy h hN) 1
  have hOk := okl_copy LL71 h hN
  obtain ⟨e1, e2, e3, e4⟩ := see_gen E (g := f_mins (f_copy g 71 1 nb np) 71 nb np 1) (g' := g) (fun q hq j hj => by rw [fr_mins (Or.inl (by omega)) hOk, fr_copy (Or.inl (by omega)) h6 h50])
  intro j
  match j with
  | 0 => exact (sub2 (congrArg nI e1) (congrArg nI e2) :)
  | 1 => exact (sub2 (e3 4 (by decide)).1 (e3 4 (by decide)).2 :)
  | 2 => exact (sub2 (e3 5 (by decide)).1 (e3 5 (by decide)).2 :)
  | j + 3 => exact congrArg nI e4
theorem kp_see {nb np n : Nat} {g : S2} (h : OkL 1 nb np g) (hN : NumT g) : Kp g (f_mins (f_copy g 71 1 nb np) 71 nb np n) ∧ NumT (f_mins (f_copy g 71 1 nb np) 71 nb np n) :=
  ⟨kp_mins (kp_copy (fun _ _ => rfl) h.1.2 h.2.1.2) (okl_copy LL71 h hN), okl_num (okl_mins (okl_copy LL71 h hN) n)⟩
theorem Kp.tr {g g1 g2 : S2} (a : Kp g g1) (b : Kp g1 g2) : Kp g g2 := fun q hq => (b q hq).trans (a q hq)
theorem Kp.inv {nb np tv : Nat} {g g1 : S2} (k : Kp g g1) (I : Inv 1 nb np tv g) : Inv 1 nb np tv g1 := I.eq (fun a h1 h2 => k a (Or.inl (by omega)))
theorem tellC_kp {nb np : Nat} {g g1 : S2} (k : Kp g g1) (h6 : nb ≤ 6) (h50 : np ≤ 50) : ∀ j, f_tellC g1 1 nb np j = f_tellC g 1 nb np j := by
  have hL : g1 1 = g 1 := k 1 (Or.inl (by omega))
  have hP : ∀ q, q < np → g1 (1 + 20 + q) = g (1 + 20 + q) := fun q hq => k _ (Or.inl (by omega))
  have hB : ∀ q, q < nb → g1 (1 + 14 + q) = g (1 + 14 + q) := fun q hq => k _ (Or.inl (by omega))
  intro j
  match j with
  | 0 => exact congrFun hL 5
  | 1 => exact congrFun hL 6
  | 2 => exact congrFun hL 3
  | 3 => exact congrFun hL 4
  | 4 => exact congrArg nI (cnB_congr (fun q hq => by unfold q_in; rw [hP q hq]))
  | 5 => exact congrArg nI (cnB_congr (fun q hq => by unfold q_in; rw [hP q hq]))
  | 6 => exact congrArg nI (cnB_congr (fun q hq => by unfold q_in; rw [hP q hq]))
  | 7 => exact sumF_congr (fun q hq => by rw [hP q hq])
  | 8 => exact sumF_congr (fun q hq => by rw [hP q hq])
  | j + 9 => exact congrArg nI (cnP_congr (Nat.le_refl _) (fun i c hi hc => by unfold q_bu; rw [hB i hi, hB c hc]))
theorem tellS_kp {nb np n : Nat} {g g1 : S2} (k : Kp g g1) (h6 : nb ≤ 6) (h50 : np ≤ 50) (hn : n < 10) : ∀ j, f_tellS g1 1 nb np n j = f_tellS g 1 nb np n j := by
  have hS : g1 (1 + 4 + n) = g (1 + 4 + n) := k _ (Or.inl (by omega))
  have hP : ∀ q, q < np → g1 (1 + 20 + q) = g (1 + 20 + q) := fun q hq => k _ (Or.inl (by omega))
  have hB : ∀ q, q < nb → g1 (1 + 14 + q) = g (1 + 14 + q) := fun q hq => k _ (Or.inl (by omega))
  intro j
  match j with
  | 0 => exact congrFun hS 0
  | 1 => exact congrFun hS 1
  | 2 => exact congrArg nI (cnB_congr (fun q hq => by unfold q_wa; rw [hP q hq]))
  | 3 => exact congrArg nI (cnB_congr (fun q hq => by unfold q_st; rw [hB q hq]))
  | j + 4 => exact congrFun hS 2
theorem dig_kp {nb np : Nat} {g g1 : S2} (k : Kp g g1) (h6 : nb ≤ 6) (h50 : np ≤ 50) : f_dig g1 nb np = f_dig g nb np := by
  unfold f_dig
  refine dig2_congr (dig2_congr (dig2_congr (dig1_congr rfl (fun j _ => tellC_kp k h6 h50 j)) (fun i j hi _ => tellS_kp k h6 h50 hi j)) (fun i j hi _ => ?_)) (fun i j hi _ => ?_)
  · rw [k _ (Or.inl (by omega))]
  · rw [k _ (Or.inl (by omega))]
theorem adv_le {nb np mm : Nat} {g : S2} : ∀ n, (f_adv g nb np mm n).2.1 ≤ n - 1
  | 0 => Nat.le_refl 0
  | n + 1 => by
    have ih := adv_le (nb := nb) (np := np) (mm := mm) (g := g) n
    unfold f_adv f_adv1
    split
    · show n ≤ n + 1 - 1; omega
    · show (f_adv g nb np mm n).2.1 ≤ n + 1 - 1; omega
/-- what arrives says -/
def ArrQ (nb np : Nat) (g : S2) (q : Nat) (r : Int32) : Prop := (r = 0 ↔ g (1 + 20 + q) 0 = 2) ∧ (0 < r → (r = 1 ↔ f_min g 1 nb np (1 + 20 + q) 0 = 2))
theorem arrQ_of {nb np q : Nat} {g g1 : S2} {r : Int32} (h : OkL 1 nb np g) (hN : NumT g) (hq : q < np) (hp : f_arrP (f_copy g 71 1 nb np) g1 nb np q r) : ArrQ nb np g q r ∧ Kp g g1 ∧ NumT g1 := by
  obtain ⟨k, hk, hno, hg, hr⟩ := hp
  have E : ∀ j, f_mins (f_copy g 71 1 nb np) 71 nb np j (71 + 20 + q) 0 = f_mins g 1 nb np j (1 + 20 + q) 0 := fun j => (eqv_mins h (eqv_copy h hN) j).2.2.2 q 0 hq (by decide)
  have hno' : ∀ j, j < k → ¬ f_mins g 1 nb np j (1 + 20 + q) 0 = 2 := fun j hj => by rw [← E]; exact hno j hj
  rw [E] at hr
  refine ⟨⟨?_, fun h0 => ?_⟩, by rw [hg]; exact kp_see h hN⟩
  · rcases Nat.eq_zero_or_pos k with q0 | q0
    · subst q0
      rcases hr with ⟨r1, r2⟩ | ⟨r1, -⟩
      · exact ⟨fun _ => r1, fun _ => r2⟩
      · exact absurd r1 (by decide)
    · constructor
      · intro z
        rcases hr with ⟨r1, r2⟩ | ⟨r1, r2, r3⟩
        · rw [r2] at z; exact absurd z (nI_ne0 q0 (by omega))
        · rw [r3] at z; exact absurd z (by decide)
      · intro z
        exact absurd z (hno' 0 q0)
  · rcases hr with ⟨r1, r2⟩ | ⟨r1, r2, r3⟩
    · rcases (by omega : k = 0 ∨ k = 1 ∨ 1 < k) with q0 | q0 | q0
      · rw [r2, q0] at h0; exact absurd h0 (by decide)
      · rw [q0] at r1 r2
        exact ⟨fun _ => r1, fun _ => r2⟩
      · refine ⟨fun z => ?_, fun z => absurd z (hno' 1 q0)⟩
        rw [r2] at z
        exact absurd z (nI_ne (b := 1) (by omega) (by omega) (by decide))
    · rw [r3] at h0; exact absurd h0 (by decide)
theorem arrQ_kp {nb np q : Nat} {g g1 : S2} {r : Int32} (k : Kp g g1) (h : OkL 1 nb np g) (hq : q < np) (A : ArrQ nb np g q r) : ArrQ nb np g1 q r := by
  have h50 := h.2.1.2
  have E := eqv_min h (eqv_kp k h.1.2 h50)
  unfold ArrQ
  rw [E.2.2.2 q 0 hq (by decide), k _ (Or.inl (by omega))]
  exact A
/-- what is noted: t in the law's arrays -/
def Snap (nb np : Nat) (g t : S2) (PD WT : Int32) (D : Int64) : Prop :=
  (∀ j, j < np → ∀ k, k < 7 → t (1 + j) k = g (1 + 20 + j) k) ∧ (∀ j, j < nb → ∀ k, k < 6 → t (2 + np + j) k = g (1 + 14 + j) (k + 1)) ∧
  (∀ k, k < 10 → t (2 + np + nb) k = g (1 + 4 + k) 2 ∧ t (3 + np + nb) k = g (1 + 4 + k) 0) ∧ (∀ k, k < 4 → t (4 + np + nb) k = see1 g nb np k) ∧
  PD = f_tellC g 1 nb np 7 ∧ WT = f_tellC g 1 nb np 8 ∧ D = f_dig g nb np
theorem Snap.kp {nb np : Nat} {g g1 t : S2} {PD WT : Int32} {D : Int64} (S : Snap nb np g t PD WT D) (k : Kp g g1) (h : OkL 1 nb np g) : Snap nb np g1 t PD WT D := by
  have h6 := h.1.2
  have h50 := h.2.1.2
  obtain ⟨a, b, c, d, e, f, i⟩ := S
  refine ⟨fun j hj q hq => ?_, fun j hj q hq => ?_, fun q hq => ?_, fun q hq => ?_, ?_, ?_, ?_⟩
  · rw [k _ (Or.inl (by omega))]; exact a j hj q hq
  · rw [k _ (Or.inl (by omega))]; exact b j hj q hq
  · rw [k _ (Or.inl (by omega))]; exact c q hq
  · rw [see1_kp k h]; exact d q hq
  · rw [tellC_kp k h6 h50]; exact e
  · rw [tellC_kp k h6 h50]; exact f
  · rw [dig_kp k h6 h50]; exact i
/-- the arrays while they are filled: n cells are there, those to come are still 0 -/
def Fil (X : CX) (b : Nat) (w : Int64) (h0 : Nat) (Hs : Heap) (n0 n np nb : Nat) (g t : S2) (H : Heap) (locs : List Loc) : Prop := xw X n0 n np nb t H ∧ H.size = n0 + n ∧ (∀ i, n ≤ i → t i = fun _ => 0) ∧ wd X b g w H ∧ va_S (AB h0) Hs H locs
theorem zero_u {t : S2} {n i k : Nat} {x : Int32} (h : ∀ i, n ≤ i → t i = fun _ => 0) (hi : i < n) : ∀ j, n ≤ j → u2 t i k x j = fun _ => 0 := fun j hj => by rw [u2_ne (by omega)]; exact h j hj
theorem llen_who {np nb j : Nat} (h : j < np) : llen np nb (1 + j) = 7 := by unfold llen; rw [if_pos (by omega)]
theorem llen_bus {np nb j : Nat} (h : j < nb) : llen np nb (2 + np + j) = 6 := by unfold llen; rw [if_neg (by omega), if_pos (by omega)]
theorem llen_lat {np nb : Nat} : llen np nb (2 + np + nb) = 10 := by unfold llen; rw [if_neg (by omega), if_neg (by omega), if_pos (by omega)]
theorem llen_min {np nb : Nat} : llen np nb (3 + np + nb) = 10 := by unfold llen; rw [if_neg (by omega), if_neg (by omega), if_pos (by omega)]
theorem llen_the {np nb : Nat} : llen np nb (4 + np + nb) = 4 := by unfold llen; rw [if_neg (by omega), if_neg (by omega), if_neg (by omega)]
