/-! boarding, driving, standing: the two sides side by side -/
theorem room_iff {m s r : Nat} (hm : m ≤ 2000) (hs : s < 2 ^ 30) (hr : r ≤ 2000) : nI m < nI s - nI r ↔ r + m < s := by
  rw [Int32.lt_iff_toInt_lt, nI_toInt (by omega), pk_sub_toInt hs (by omega)]; omega
theorem r_board_eq {d : S2} {t j p : Nat} : r_board d t j p = u2 (u2 (u2 (u2 (u2 d (t + 13) p 0) (t + 6) p 1) (t + 9) p (nI j)) (t + 10) p (d (t + 10) p + r_fare d t j p)) (t + 5) j (d (t + 5) j + r_fare d t j p) := by
  unfold r_board
  rw [u2_comm (i := t + 5) (i' := t + 13) (by omega), u2_comm (i := t + 10) (i' := t + 13) (by omega), u2_comm (i := t + 9) (i' := t + 13) (by omega), u2_comm (i := t + 6) (i' := t + 13) (by omega)]
theorem price_eq {o t nb np j n : Nat} {g d : S2} (h : SimC o t nb np g d) (hl : OkL o nb np g) (hn : n < np) (hz : d (t + 7) n = d (t + 2) j) : f_price g (o + 20 + n) (f_fareI (stg g o) (g (o + 20 + n) 1) (g (o + 20 + n) 2)) = r_fare d t j n := by
  have h7 := (hl.2.2.2.2 n hn).2.2
  unfold f_price r_fare
  rw [h.2.2.1 n 1 hn (by omega), h.2.2.1 n 2 hn (by omega), h.2.2.1 n 7 hn (by omega), show d (t + (6 + 1)) n = d (t + 2) j from hz]
  rw [h.2.2.1 n 7 hn (by omega)] at h7
  rw [f_fareI_congr (s := stg g o) (s' := d 143) (fun i hi => (h.1 i hi).2.1)]
  show (if d (t + 13) n = 0 then _ else _) = if d (t + 13) n = 1 then _ else _
  rcases h7 with q | q
  · rw [if_pos (show d (t + 13) n = 0 from q), if_neg (by rw [show d (t + 13) n = 0 from q]; decide)]
  · rw [if_neg (by rw [show d (t + 13) n = 1 from q]; decide), if_pos (show d (t + 13) n = 1 from q)]
theorem sim_board {o t nb np j n : Nat} {g d : S2} (ht : isT t) (h : SimK o t nb np e0 g d) (hj : j < nb) (hn : n < np) (h0 : d (t + 6) n = 0) (hz : d (t + 7) n = d (t + 2) j) :
    SimK o t nb np e0 (f_board g o (o + 14 + j) (o + 20 + n)) (r_board d t j n) ∧ r_rid (r_board d t j n) t j np = r_rid d t j np + 1 := by
  obtain ⟨hc, hr, ⟨hl, hk⟩, hv, hi⟩ := h
  have h6 := hl.1.2
  have h50 := hl.2.1.2
  have hT := ht
  unfold isT at hT
  have e6 : ∀ q, q ≠ n → r_board d t j n (t + 6) q = d (t + 6) q := fun q hq => by unfold r_board; (repeat rw [u2_app, if_neg (by omega)])
  have e9 : ∀ q, q ≠ n → r_board d t j n (t + 9) q = d (t + 9) q := fun q hq => by unfold r_board; (repeat rw [u2_app, if_neg (by omega)])
  have s6 : r_board d t j n (t + 6) n = 1 := by unfold r_board; (repeat rw [u2_n (by omega)]); exact u2_s
  have s9 : r_board d t j n (t + 9) n = nI j := by unfold r_board; rw [u2_n (by omega), u2_n (by omega), u2_n (by omega)]; exact u2_s
  have hu : ∀ i, cnB (fun q => decide (d (t + 6) q = 1 ∧ d (t + 9) q = nI i)) np + _ = cnB (fun q => decide (r_board d t j n (t + 6) q = 1 ∧ r_board d t j n (t + 9) q = nI i)) np + _ := fun i =>
    cnB_upd (A := fun q => decide (d (t + 6) q = 1 ∧ d (t + 9) q = nI i)) (B := fun q => decide (r_board d t j n (t + 6) q = 1 ∧ r_board d t j n (t + 9) q = nI i)) (p := n) (fun q hq => by
      show decide (_ ∧ _) = decide (_ ∧ _)
      rw [e6 q hq, e9 q hq]) (n := np) hn
  have hA : ∀ i, decide (d (t + 6) n = 1 ∧ d (t + 9) n = nI i) = false := fun i => decide_eq_false (fun q => absurd (h0.symm.trans q.1) (by decide))
  have hrj : r_rid (r_board d t j n) t j np = r_rid d t j np + 1 := by
    have := hu j
    rw [if_pos (decide_eq_true ⟨s6, s9⟩), if_neg (by rw [hA]; decide)] at this
    exact this.symm
  have hri : ∀ i, i < 6 → i ≠ j → r_rid (r_board d t j n) t i np = r_rid d t i np := by
    intro i hi hij
    have := hu i
    rw [if_neg (fun q => hij (nI_inj (s9.symm.trans (of_decide_eq_true q).2) (by omega) (by omega)).symm), if_neg (by rw [hA]; decide)] at this
    exact this.symm
  have hpe := price_eq hc hl hn hz
  refine ⟨⟨?_, ?_, ⟨okl_board hl hn (by omega), okr_board ht hk⟩, ?_, ?_⟩, hrj⟩
  · rw [r_board_eq]
    unfold f_board f_on
    rw [hpe, hc.2.2.1 n 4 hn (by omega), hl.2.2.1 j (by omega), (hc.2.1 j hj).2.2.2.2]
    exact simc_R h6 (simc_B (k := 6) (r := 5) ht h6 (simc_P (k := 4) ht h6 (simc_P (k := 3) ht h6 (simc_P (k := 0) ht h6 (simc_P (k := 7) ht h6 hc hn (by omega) h50) hn (by omega) h50) hn (by omega) h50) hn (by omega) h50) hj (by omega)) (by omega)
  · intro i hi
    unfold f_board
    by_cases hij : i = j
    · subst hij
      rw [u2_s, hr i hi, hrj]
      exact nI_1 _
    · rw [u2_n (by omega), u2_n (by omega), hri i (by omega) hij]
      unfold f_on
      rw [u2_n (by omega), u2_n (by omega), u2_n (by omega), u2_n (by omega)]
      exact hr i hi
  · unfold r_board
    exact ((((hv.u (by omega) (by omega) (by omega)).u (by omega) (by omega) (by omega)).u (by omega) (by omega) (by omega)).u (by omega) (by omega) (by omega)).u (by omega) (by omega) (by omega)
  · intro p hp
    by_cases hpn : p = n
    · subst hpn
      exact fun _ => ⟨j, hj, s9⟩
    · rw [e6 p hpn, e9 p hpn]
      exact hi p hp
theorem f_board_4 {g : S2} {o j n i : Nat} (hj : j < 6) (hi : i < 6) : f_board g o (o + 14 + j) (o + 20 + n) (o + 14 + i) 4 = g (o + 14 + i) 4 := by
  unfold f_board f_on; (repeat rw [u2_app, if_neg (by omega)])
theorem r_board_144 {d : S2} {t j n i : Nat} (ht : isT t) : r_board d t j n 144 i = d 144 i := by
  unfold isT at ht; unfold r_board; (repeat rw [u2_app, if_neg (by omega)])
theorem sim_ons {o t nb np j : Nat} {g d : S2} (ht : isT t) (h : SimK o t nb np e0 g d) (hj : j < nb) : ∀ n, n ≤ np →
    (f_ons g o (o + 14 + j) n).2 = (r_ons d t j (r_room d t j np) n).2 ∧ (r_ons d t j (r_room d t j np) n).2 ≤ n ∧ r_rid (r_ons d t j (r_room d t j np) n).1 t j np = r_rid d t j np + (r_ons d t j (r_room d t j np) n).2 ∧ (r_ons d t j (r_room d t j np) n).1 144 j = d 144 j ∧
      SimK o t nb np e0 (f_ons g o (o + 14 + j) n).1 (r_ons d t j (r_room d t j np) n).1
  | 0, _ => ⟨rfl, Nat.le_refl _, rfl, rfl, h⟩
  | n + 1, hn => by
    obtain ⟨h2, h2n, hrid, h144, hS⟩ := sim_ons ht h hj n (by omega)
    have hS2 := hS
    obtain ⟨hc, hr, ⟨hl, hk⟩, hv, hi⟩ := hS
    have h6 := hl.1.2
    have h50 := hl.2.1.2
    have hs := hc.2.2.1
    obtain ⟨s, hs30, hse⟩ := h.2.2.2.1.1 j hj
    have hr0 : r_rid d t j np ≤ np := cnB_le _ _
    have hroom : r_room d t j np = nI s - nI (r_rid d t j np) := by unfold r_room; rw [hse]
    show (f_ons1 o (o + 14 + j) n (f_ons g o (o + 14 + j) n)).2 = (r_ons1 t j (r_room d t j np) n (r_ons d t j (r_room d t j np) n)).2 ∧ (r_ons1 t j (r_room d t j np) n (r_ons d t j (r_room d t j np) n)).2 ≤ n + 1 ∧ r_rid (r_ons1 t j (r_room d t j np) n (r_ons d t j (r_room d t j np) n)).1 t j np = r_rid d t j np + (r_ons1 t j (r_room d t j np) n (r_ons d t j (r_room d t j np) n)).2 ∧ (r_ons1 t j (r_room d t j np) n (r_ons d t j (r_room d t j np) n)).1 144 j = d 144 j ∧ SimK o t nb np e0 (f_ons1 o (o + 14 + j) n (f_ons g o (o + 14 + j) n)).1 (r_ons1 t j (r_room d t j np) n (r_ons d t j (r_room d t j np) n)).1
    unfold f_ons1 r_ons1
    generalize f_ons g o (o + 14 + j) n = A at *
    generalize r_ons d t j (r_room d t j np) n = B at *
    have hcond : (A.1 (o + 14 + j) 5 < A.1 (o + 14 + j) 4 ∧ A.1 (o + 20 + n) 0 = 0 ∧ A.1 (o + 20 + n) 1 = A.1 (o + 14 + j) 1) ↔ (nI B.2 < r_room d t j np ∧ B.1 (t + 6) n = 0 ∧ B.1 (t + 7) n = B.1 (t + 2) j) := by
      rw [hs n 0 (by omega) (by omega), hs n 1 (by omega) (by omega), (hc.2.1 j hj).1, (hc.2.1 j hj).2.2.2.1, h144, hse, hr j hj, hrid, hroom]
      show nI (r_rid d t j np + B.2 + 0) < nI s ∧ _ ↔ _
      rw [nI_ltI (by omega) (by omega), room_iff (by omega) hs30 (by omega)]
      exact Iff.rfl
    by_cases z : nI B.2 < r_room d t j np ∧ B.1 (t + 6) n = 0 ∧ B.1 (t + 7) n = B.1 (t + 2) j
    · rw [if_pos (hcond.mpr z), if_pos z]
      obtain ⟨k1, k2⟩ := sim_board ht hS2 hj (show n < np by omega) z.2.1 z.2.2
      exact ⟨by show A.2 + 1 = B.2 + 1; omega, by show B.2 + 1 ≤ n + 1; omega, by show r_rid (r_board B.1 t j n) t j np = r_rid d t j np + (B.2 + 1); omega, (r_board_144 ht).trans h144, k1⟩
    · rw [if_neg (fun q => z (hcond.mp q)), if_neg z]
      exact ⟨h2, by omega, hrid, h144, hS2⟩
theorem rid_eq {d d' : S2} {t j np : Nat} (h6 : d' (t + 6) = d (t + 6)) (h9 : d' (t + 9) = d (t + 9)) : r_rid d' t j np = r_rid d t j np := by unfold r_rid; rw [h6, h9]
/-- a bus's column changes on both sides -/
theorem simk_B {o t nb np j k r : Nat} {g d : S2} {x : Int32} (ht : isT t) (h : SimK o t nb np e0 g d) (hj : j < nb) (hk : (k = 1 ∧ r = 2) ∨ (k = 2 ∧ r = 3) ∨ (k = 3 ∧ r = 4)) (h1 : k = 1 → D10 x) (h2 : k = 2 → x = 0 ∨ x = 1) :
    SimK o t nb np e0 (u2 g (o + 14 + j) k x) (u2 d (t + r) j x) := by
  obtain ⟨hc, hr, ⟨hl, hkk⟩, hv, hi⟩ := h
  have h6 := hl.1.2
  have hT := ht
  unfold isT at hT
  refine ⟨simc_B ht h6 hc hj (by omega), fun i hi => ?_, ⟨OkL.B hl (by omega) (by omega) h1 h2, OkR.u hkk (by omega) (fun e => h1 (by omega)) (by omega)⟩, hv.u (by omega) (by omega) (by omega), hi.u (by omega) (by omega)⟩
  rw [u2_app, if_neg (by omega), hr i hi, rid_eq (u2_ne (by omega)) (u2_ne (by omega))]
theorem sim_arr {o t nb np j : Nat} {g d : S2} (ht : isT t) (h : SimK o t nb np e0 g d) (hj : j < nb) : SimK o t nb np e0 (f_arr g (o + 14 + j)) (r_arr d t j) := by
  have hd := (h.2.2.1.1.2.2.2.1 j hj).1.next
  unfold f_arr r_arr
  rw [(h.1.2.1 j hj).2.2.1]
  rw [(h.1.2.1 j hj).1] at hd ⊢
  exact simk_B ht (simk_B ht (simk_B ht h hj (by omega) (by omega) (by omega)) hj (by omega) (fun _ => hd) (by omega)) hj (by omega) (by omega) (fun _ => Or.inl rfl)
theorem NN_left {a b : Nat} (ha : a ≤ 2000) (hb : b ≤ 2000) : NN (1 + nI a / 2 + nI b / 4) := by
  rw [show (2 : Int32) = nI 2 from rfl, show (4 : Int32) = nI 4 from rfl, pk_div (by omega) (by decide) (by decide), pk_div (by omega) (by decide) (by decide), show (1 : Int32) = nI 1 from rfl, nI_add, nI_add]
  exact NN.of (by omega)
theorem NN_gt {x : Int32} (h : NN x) (h0 : ¬ x = 0) : 0 < x := by
  rcases Classical.em (0 < x) with q | q
  · exact q
  · exact absurd (h.z.mp q) h0
theorem NN_dec2 {x : Int32} (h : NN x) (h0 : 0 < x - 1) : NN (x - 1) := by
  by_cases q : 0 < x
  · exact h.dec q
  · rw [h.z.mp q] at h0; exact absurd h0 (by decide)
theorem r_offs_le {t j : Nat} {d : S2} : ∀ n, (r_offs d t j n).2 ≤ n
  | 0 => Nat.le_refl _
  | n + 1 => by
    have ih := r_offs_le (t := t) (j := j) (d := d) n
    unfold r_offs r_offs1
    split
    · show _ + 1 ≤ n + 1; omega
    · omega
theorem r_ons_le {t j : Nat} {x : Int32} {d : S2} : ∀ n, (r_ons d t j x n).2 ≤ n
  | 0 => Nat.le_refl _
  | n + 1 => by
    have ih := r_ons_le (t := t) (j := j) (x := x) (d := d) n
    unfold r_ons r_ons1
    split
    · show _ + 1 ≤ n + 1; omega
    · omega
theorem r_offs_row {t j a : Nat} {d : S2} (h : a ≠ t + 6 ∧ a ≠ t + 7 ∧ a ≠ t + 9 ∧ a ≠ t + 12) : ∀ n, (r_offs d t j n).1 a = d a
  | 0 => rfl
  | n + 1 => by
    have ih := r_offs_row (j := j) (d := d) h n
    unfold r_offs r_offs1
    split
    · show r_off _ t j n a = _
      unfold r_off
      rw [u2_ne (by omega), u2_ne (by omega), u2_ne (by omega), u2_ne (by omega)]; exact ih
    · exact ih
theorem r_ons_row {t j a : Nat} {x : Int32} {d : S2} (h : a ≠ t + 6 ∧ a ≠ t + 9 ∧ a ≠ t + 10 ∧ a ≠ t + 5 ∧ a ≠ t + 13) : ∀ n, (r_ons d t j x n).1 a = d a
  | 0 => rfl
  | n + 1 => by
    have ih := r_ons_row (j := j) (x := x) (d := d) h n
    unfold r_ons r_ons1
    split
    · show r_board _ t j n a = _
      unfold r_board
      rw [u2_ne (by omega), u2_ne (by omega), u2_ne (by omega), u2_ne (by omega), u2_ne (by omega)]; exact ih
    · exact ih
theorem nnl_u {t nb i k : Nat} {d : S2} {x : Int32} (h : NNL t nb d) (hx : i = t + 4 → NN x) : NNL t nb (u2 d i k x) := fun j hj => u2_if (C := NN) (h j hj) (fun e _ => hx e.symm)
theorem nnl_std1 {t nb j : Nat} {d : S2} (h : NNL t nb d) (hj : j < nb) : NNL t nb (r_std1 d t j) := by
  unfold r_std1
  split
  · rename_i z; exact nnl_u h (fun _ => (h j hj).dec z)
  · exact h
theorem nnl_act {t nb np j : Nat} {d : S2} (ht : isT t) (h : NNL t nb d) (hv : NNv t nb d) (hk : OkR t nb np d) (hj : j < nb) : NNL t nb (r_act d t j np).1 := by
  have hT := ht
  unfold isT at hT
  have h50 := hk.2.1.2
  unfold r_act
  split
  · have h1 := nnl_std1 h hj
    have k1 := okr_std1 (j := j) ht hk
    have v1 : ∀ i, i < 10 → NN (r_std1 d t j 142 i) := by
      intro i hi
      unfold r_std1
      split
      · rw [u2_n (by omega)]; exact hv.2.1 i hi
      · exact hv.2.1 i hi
    show NNL t nb (r_stand d t j)
    unfold r_stand
    generalize r_std1 d t j = d at *
    have hcl := (k1.2.2.1 j hj).cl.1
    unfold r_std2
    split
    · exact h1
    · exact nnl_u (nnl_u (nnl_u h1 (by omega)) (fun _ => v1 _ hcl)) (by omega)
  · split
    · rename_i z
      exact nnl_u h (fun _ => NN_dec2 (h j hj) z)
    · intro i hi
      show NN (u2 _ (t + 4) j _ (t + 4) i)
      rw [u2_app]
      split
      · have h1 := r_offs_le (t := t) (j := j) (d := r_arr d t j) np
        have h2 := r_ons_le (t := t) (j := j) (x := r_room (r_offs (r_arr d t j) t j np).1 t j np) (d := (r_offs (r_arr d t j) t j np).1) np
        exact NN_left (by omega) (by omega)
      · rename_i z
        rw [r_ons_row (by omega), r_offs_row (by omega)]
        unfold r_arr
        rw [u2_n (by omega), u2_n (by omega), u2_app, if_neg z]
        exact h i hi
/-- a bus drives or stands for a minute; who arrives is counted on the right -/
theorem sim_stand {o t nb np j : Nat} {g d : S2} (ht : isT t) (h : SimK o t nb np e0 g d) (hn : NNL t nb d) (hj : j < nb) : SimK o t nb np e0 (f_stand g o (o + 14 + j)) (r_stand d t j) := by
  have hT := ht
  unfold isT at hT
  have h1 : SimK o t nb np e0 (f_std1 g (o + 14 + j)) (r_std1 d t j) := by
    unfold f_std1 r_std1
    rw [(h.1.2.1 j hj).2.2.1]
    split
    · exact simk_B ht h hj (by omega) (by omega) (by omega)
    · exact h
  have hn1 := nnl_std1 hn hj
  unfold f_stand r_stand
  generalize f_std1 g (o + 14 + j) = g at *
  generalize r_std1 d t j = d at *
  obtain ⟨hc, hr, ⟨hl, hk⟩, hv, hi⟩ := h1
  have h6 := hl.1.2
  have hcl := (hl.2.2.2.1 j hj).1.cl.1
  rw [(hc.2.1 j hj).1] at hcl
  unfold f_std2 r_std2 f_lets
  rw [(hc.2.1 j hj).1, (hc.2.1 j hj).2.2.1, hc.2.2.2.1, hc.2.2.2.2, (hc.1 _ hcl).1, (hc.1 _ hcl).2.2]
  have hL := (hn1 j hj).z
  have hH := hv.2.2.z
  by_cases z : 0 < d (t + 4) j ∨ (0 < d t 1 ∧ ¬ d (t + 1) (cl (d (t + 2) j)) = -1 ∧ d t 0 - d (t + 1) (cl (d (t + 2) j)) < d t 1)
  · rw [if_pos z, if_neg]
    · exact ⟨hc, hr, ⟨hl, hk⟩, hv, hi⟩
    · rintro ⟨q1, q2⟩
      rcases z with z | ⟨z1, z2, z3⟩
      · exact hL.mpr q1 z
      · split at q2
        · rename_i y
          rcases y with y | y | y
          · exact hH.mpr y z1
          · exact z2 y
          · exact y z3
        · exact absurd q2 (by decide)
  · rw [if_neg z, if_pos]
    · rw [u2_comm (i := t + 4) (i' := t + 1) (by omega), u2_comm (i := t + 3) (i' := t + 1) (by omega)]
      have k1 : SimK o t nb np e0 (u2 g (o + 4 + cl (d (t + 2) j)) 2 (d t 0)) (u2 d (t + 1) (cl (d (t + 2) j)) (d t 0)) := by
        refine ⟨simc_S ht hc hcl, fun i hi => ?_, ⟨OkL.S hl hcl, OkR.u hk (by omega) (by omega) (by omega)⟩, hv.u (by omega) (by omega) (by omega), hi.u (by omega) (by omega)⟩
        rw [u2_n (by omega), hr i hi, rid_eq (u2_ne (by omega)) (u2_ne (by omega))]
      exact simk_B ht (simk_B ht k1 hj (by omega) (by omega) (fun _ => Or.inr rfl)) hj (by omega) (by omega) (by omega)
    · refine ⟨hL.mp (fun q => z (Or.inl q)), ?_⟩
      rw [if_pos]
      by_cases q1 : d t 1 = 0
      · exact Or.inl q1
      · by_cases q2 : d (t + 1) (cl (d (t + 2) j)) = -1
        · exact Or.inr (Or.inl q2)
        · exact Or.inr (Or.inr (fun q3 => z (Or.inr ⟨NN_gt hv.2.2 q1, q2, q3⟩)))
theorem sim_act {o t nb np j : Nat} {g d : S2} (ht : isT t) (h : SimK o t nb np e0 g d) (hn : NNL t nb d) (hj : j < nb) : SimK o t nb np e0 (f_bus1 g o np j) (r_act d t j np).1 := by
  unfold f_bus1 r_act
  rw [(h.1.2.1 j hj).2.1]
  split
  · exact sim_stand ht h hn hj
  · unfold f_drive
    rw [(h.1.2.1 j hj).2.2.1]
    split
    · exact simk_B ht h hj (by omega) (by omega) (by omega)
    · obtain ⟨o1, o2, o3⟩ := sim_letOff ht (sim_arr ht h hj) hj
      obtain ⟨p1, p2, p3, p4, p5⟩ := sim_ons ht o3 hj np (Nat.le_refl _)
      show SimK o t nb np e0 _ (u2 _ (t + 4) j _)
      rw [o1, p1]
      exact simk_B ht p5 hj (by omega) (by omega) (by omega)
theorem nnv_eq {t nb : Nat} {d d' : S2} (h : NNv t nb d) (h144 : d' 144 = d 144) (h142 : d' 142 = d 142) (h1 : d' t 1 = d t 1) : NNv t nb d' := by
  unfold NNv; rw [h144, h142, h1]; exact h
theorem sim_acts {o t nb np : Nat} {g d : S2} (ht : isT t) (h : SimK o t nb np e0 g d) (hn : NNL t nb d) : ∀ n, n ≤ nb → SimK o t nb np e0 (f_buses g o np n) (r_acts d t np n).1 ∧ NNL t nb (r_acts d t np n).1
  | 0, _ => ⟨h, hn⟩
  | n + 1, h1 => by
    obtain ⟨a, b⟩ := sim_acts ht h hn n (by omega)
    exact ⟨sim_act ht a b (by omega), nnl_act ht b a.2.2.2.1 a.2.2.1.2 (by omega)⟩
theorem sim_wait {o t nb np : Nat} {g d : S2} (ht : isT t) (h : SimK o t nb np e0 g d) (hn : NNL t nb d) : ∀ n, n ≤ np → SimK o t nb np e0 (f_waitN g o n) (r_waitN d t n) ∧ NNL t nb (r_waitN d t n)
  | 0, _ => ⟨h, hn⟩
  | n + 1, h1 => by
    obtain ⟨a, b⟩ := sim_wait ht h hn n (by omega)
    have hT := ht
    unfold isT at hT
    unfold f_waitN f_wait1 r_waitN
    generalize f_waitN g o n = A at *
    generalize r_waitN d t n = B at *
    obtain ⟨hc, hr, ⟨hl, hk⟩, hv, hi⟩ := a
    have h6 := hl.1.2
    have h50 := hl.2.1.2
    refine ⟨?_, nnl_u b (by omega)⟩
    rw [hc.2.2.1 n 0 (by omega) (by omega), hc.2.2.1 n 5 (by omega) (by omega)]
    show SimK o t nb np e0 (if B (t + 6) n = 0 then _ else _) _
    by_cases z : B (t + 6) n = 0
    · rw [if_pos z, if_pos z]
      refine ⟨simc_P (k := 5) ht h6 hc (by omega) (by omega) h50, fun i hi => ?_, ⟨OkL.P hl (by omega) (by omega) (by omega), OkR.u hk (by omega) (by omega) (by omega)⟩, hv.u (by omega) (by omega) (by omega), hi.u (by omega) (by omega)⟩
      rw [u2_n (by omega), hr i hi, rid_eq (u2_ne (by omega)) (u2_ne (by omega))]
    · rw [if_neg z, if_neg z, u2_same (Int32.add_zero _)]
      exact ⟨hc, hr, ⟨hl, hk⟩, hv, hi⟩
theorem sim_go {o t nb np : Nat} {g d : S2} (ht : isT t) (h : SimK o t nb np e0 g d) (hn : NNL t nb d) : SimK o t nb np e0 (f_min g o nb np) (r_go d t nb np).1 ∧ NNL t nb (r_go d t nb np).1 := by
  obtain ⟨a, b⟩ := sim_acts ht h hn nb (Nat.le_refl _)
  obtain ⟨a, b⟩ := sim_wait ht a b np (Nat.le_refl _)
  have hT := ht
  unfold isT at hT
  unfold f_min f_tick r_go
  obtain ⟨hc, hr, ⟨hl, hk⟩, hv, hi⟩ := a
  refine ⟨?_, nnl_u b (by omega)⟩
  rw [hc.2.2.2.1]
  refine ⟨simc_T (k := 0) ht hc (by omega), fun i hi => ?_, ⟨OkL.L hl (by decide), OkR.u hk (by omega) (by omega) (by omega)⟩, hv.u (by omega) (by omega) (by omega), hi.u (by omega) (by omega)⟩
  rw [u2_n (by omega), hr i hi, rid_eq (u2_ne (by omega)) (u2_ne (by omega))]
theorem sim_gos {o t nb np : Nat} {g d : S2} (ht : isT t) (h : SimK o t nb np e0 g d) (hn : NNL t nb d) : ∀ n, SimK o t nb np e0 (f_mins g o nb np n) (r_gos d t nb np n).1 ∧ NNL t nb (r_gos d t nb np n).1
  | 0 => ⟨h, hn⟩
  | n + 1 => by
    obtain ⟨a, b⟩ := sim_gos ht h hn n
    exact sim_go ht a b
