/-! two lines that hold the same: a minute leaves them the same (the trial beside the line) -/
theorem f_cnt_congr {s s' : Nat → Int32} {a : Nat} (h : ∀ i, i < 10 → s i = s' i) : ∀ n, f_cnt s a n = f_cnt s' a n
  | 0 => rfl
  | n + 1 => by
    unfold f_cnt
    rw [f_cnt_congr h n, h _ (Nat.mod_lt _ (by decide)), h _ (Nat.mod_lt _ (by decide))]
theorem f_fareI_congr {s s' : Nat → Int32} {x y : Int32} (h : ∀ i, i < 10 → s i = s' i) : f_fareI s x y = f_fareI s' x y := by
  unfold f_fareI f_fare
  rw [f_cnt_congr h]
def Eqv (o t nb np : Nat) (g d : S2) : Prop :=
  (∀ k, 3 ≤ k → k < 7 → g o k = d t k) ∧ (∀ i k, i < 10 → k < 3 → g (o + 4 + i) k = d (t + 4 + i) k) ∧ (∀ j k, j < nb → k < 7 → g (o + 14 + j) k = d (t + 14 + j) k) ∧ (∀ p k, p < np → k < 8 → g (o + 20 + p) k = d (t + 20 + p) k)
section EQ
variable {o t nb np : Nat} {g d : S2}
theorem Eqv.u (h : Eqv o t nb np g d) {a k : Nat} {x y : Int32} (e : x = y) : Eqv o t nb np (u2 g (o + a) k x) (u2 d (t + a) k y) := by
  obtain ⟨h1, h2, h3, h4⟩ := h
  refine ⟨fun j q1 q2 => ?_, fun i j hi hj => ?_, fun i j hi hj => ?_, fun i j hi hj => ?_⟩
  · rw [u2_app, u2_app]
    by_cases z : a = 0 ∧ j = k
    · rw [if_pos (by omega), if_pos (by omega)]; exact e
    · rw [if_neg (by omega), if_neg (by omega)]; exact h1 j q1 q2
  · rw [u2_app, u2_app]
    by_cases z : 4 + i = a ∧ j = k
    · rw [if_pos (by omega), if_pos (by omega)]; exact e
    · rw [if_neg (by omega), if_neg (by omega)]; exact h2 i j hi hj
  · rw [u2_app, u2_app]
    by_cases z : 14 + i = a ∧ j = k
    · rw [if_pos (by omega), if_pos (by omega)]; exact e
    · rw [if_neg (by omega), if_neg (by omega)]; exact h3 i j hi hj
  · rw [u2_app, u2_app]
    by_cases z : 20 + i = a ∧ j = k
    · rw [if_pos (by omega), if_pos (by omega)]; exact e
    · rw [if_neg (by omega), if_neg (by omega)]; exact h4 i j hi hj
theorem Eqv.S (h : Eqv o t nb np g d) {i k : Nat} {x y : Int32} (e : x = y) : Eqv o t nb np (u2 g (o + 4 + i) k x) (u2 d (t + 4 + i) k y) := by
  rw [Nat.add_assoc o, Nat.add_assoc t]; exact h.u e
theorem Eqv.B (h : Eqv o t nb np g d) {i k : Nat} {x y : Int32} (e : x = y) : Eqv o t nb np (u2 g (o + 14 + i) k x) (u2 d (t + 14 + i) k y) := by
  rw [Nat.add_assoc o, Nat.add_assoc t]; exact h.u e
theorem Eqv.P (h : Eqv o t nb np g d) {i k : Nat} {x y : Int32} (e : x = y) : Eqv o t nb np (u2 g (o + 20 + i) k x) (u2 d (t + 20 + i) k y) := by
  rw [Nat.add_assoc o, Nat.add_assoc t]; exact h.u e
theorem Eqv.L (h : Eqv o t nb np g d) {k : Nat} {x y : Int32} (e : x = y) : Eqv o t nb np (u2 g o k x) (u2 d t k y) := h.u (a := 0) e
theorem Eqv.fare (h : Eqv o t nb np g d) {x y : Int32} : f_fareI (stg g o) x y = f_fareI (stg d t) x y := f_fareI_congr (fun i hi => h.2.1 i 1 hi (by decide))
theorem eqv_off (h : Eqv o t nb np g d) {p : Nat} (hp : p < np) {x y : Int32} (e : x = y) : Eqv o t nb np (f_off g (o + 20 + p) x) (f_off d (t + 20 + p) y) := by
  unfold f_off
  exact (((h.P rfl).P (h.2.2.2 p 2 hp (by decide))).P rfl).P e
theorem eqv_offs {j : Nat} (hj : j < nb) : ∀ {n : Nat}, n ≤ np → Eqv o t nb np g d → Eqv o t nb np (f_offs g o (o + 14 + j) n).1 (f_offs d t (t + 14 + j) n).1 ∧ (f_offs g o (o + 14 + j) n).2 = (f_offs d t (t + 14 + j) n).2
  | 0, _, h => ⟨h, rfl⟩
  | n + 1, hn, h => by
    obtain ⟨i1, i2⟩ := eqv_offs hj (n := n) (by omega) h
    show Eqv o t nb np (f_offs1 o (o + 14 + j) n (f_offs g o (o + 14 + j) n)).1 (f_offs1 t (t + 14 + j) n (f_offs d t (t + 14 + j) n)).1 ∧ (f_offs1 o (o + 14 + j) n (f_offs g o (o + 14 + j) n)).2 = (f_offs1 t (t + 14 + j) n (f_offs d t (t + 14 + j) n)).2
    generalize f_offs g o (o + 14 + j) n = r at i1 i2 ⊢
    generalize f_offs d t (t + 14 + j) n = r' at i1 i2 ⊢
    unfold f_offs1
    rw [i1.2.2.2 n 0 (by omega) (by decide), i1.2.2.2 n 3 (by omega) (by decide), i1.2.2.2 n 2 (by omega) (by decide), i1.2.2.1 j 0 hj (by decide), i1.2.2.1 j 1 hj (by decide)]
    by_cases q : r'.1 (t + 20 + n) 0 = 1 ∧ r'.1 (t + 20 + n) 3 = r'.1 (t + 14 + j) 0 ∧ r'.1 (t + 20 + n) 2 = r'.1 (t + 14 + j) 1
    · rw [if_pos q, if_pos q]
      exact ⟨eqv_off i1 (by omega) (i1.1 5 (by decide) (by decide)), by show r.2 + 1 = r'.2 + 1; rw [i2]⟩
    · rw [if_neg q, if_neg q]; exact ⟨i1, i2⟩
theorem eqv_letOff {j : Nat} (hj : j < nb) (h : Eqv o t nb np g d) : Eqv o t nb np (f_letOff g o (o + 14 + j) np) (f_letOff d t (t + 14 + j) np) := by
  obtain ⟨i1, i2⟩ := eqv_offs hj (Nat.le_refl np) h
  unfold f_letOff
  exact i1.B (by rw [i2, i1.2.2.1 j 5 hj (by decide)])
theorem eqv_price (h : Eqv o t nb np g d) {p : Nat} (hp : p < np) : f_price g (o + 20 + p) (f_fareI (stg g o) (g (o + 20 + p) 1) (g (o + 20 + p) 2)) = f_price d (t + 20 + p) (f_fareI (stg d t) (d (t + 20 + p) 1) (d (t + 20 + p) 2)) := by
  unfold f_price
  rw [h.fare, h.2.2.2 p 1 hp (by decide), h.2.2.2 p 2 hp (by decide), h.2.2.2 p 7 hp (by decide)]
theorem eqv_board (h : Eqv o t nb np g d) {p j : Nat} (hp : p < np) (hj : j < nb) : Eqv o t nb np (f_board g o (o + 14 + j) (o + 20 + p)) (f_board d t (t + 14 + j) (t + 20 + p)) := by
  unfold f_board f_on
  rw [eqv_price h hp]
  refine Eqv.B (Eqv.B (Eqv.P (Eqv.P (Eqv.P (h.P rfl) rfl) ?_) ?_) ?_) ?_
  · exact h.2.2.1 j 0 hj (by decide)
  · rw [h.2.2.2 p 4 hp (by decide)]
  · rw [h.2.2.1 j 6 hj (by decide)]
  · rw [h.2.2.1 j 5 hj (by decide)]
theorem eqv_ons {j : Nat} (hj : j < nb) : ∀ {n : Nat}, n ≤ np → Eqv o t nb np g d → Eqv o t nb np (f_ons g o (o + 14 + j) n).1 (f_ons d t (t + 14 + j) n).1 ∧ (f_ons g o (o + 14 + j) n).2 = (f_ons d t (t + 14 + j) n).2
  | 0, _, h => ⟨h, rfl⟩
  | n + 1, hn, h => by
    obtain ⟨i1, i2⟩ := eqv_ons hj (n := n) (by omega) h
    show Eqv o t nb np (f_ons1 o (o + 14 + j) n (f_ons g o (o + 14 + j) n)).1 (f_ons1 t (t + 14 + j) n (f_ons d t (t + 14 + j) n)).1 ∧ (f_ons1 o (o + 14 + j) n (f_ons g o (o + 14 + j) n)).2 = (f_ons1 t (t + 14 + j) n (f_ons d t (t + 14 + j) n)).2
    generalize f_ons g o (o + 14 + j) n = r at i1 i2 ⊢
    generalize f_ons d t (t + 14 + j) n = r' at i1 i2 ⊢
    unfold f_ons1
    rw [i1.2.2.2 n 0 (by omega) (by decide), i1.2.2.2 n 1 (by omega) (by decide), i1.2.2.1 j 5 hj (by decide), i1.2.2.1 j 4 hj (by decide), i1.2.2.1 j 1 hj (by decide)]
    by_cases q : r'.1 (t + 14 + j) 5 < r'.1 (t + 14 + j) 4 ∧ r'.1 (t + 20 + n) 0 = 0 ∧ r'.1 (t + 20 + n) 1 = r'.1 (t + 14 + j) 1
    · rw [if_pos q, if_pos q]
      exact ⟨eqv_board i1 (by omega) hj, by show r.2 + 1 = r'.2 + 1; rw [i2]⟩
    · rw [if_neg q, if_neg q]; exact ⟨i1, i2⟩
theorem eqv_arr {j : Nat} (hj : j < nb) (h : Eqv o t nb np g d) : Eqv o t nb np (f_arr g (o + 14 + j)) (f_arr d (t + 14 + j)) := by
  unfold f_arr
  rw [h.2.2.1 j 3 hj (by decide), h.2.2.1 j 1 hj (by decide)]
  exact ((h.B rfl).B rfl).B rfl
theorem eqv_drive {j : Nat} (hj : j < nb) (h : Eqv o t nb np g d) : Eqv o t nb np (f_drive g o (o + 14 + j) np) (f_drive d t (t + 14 + j) np) := by
  have h1 := eqv_arr hj h
  obtain ⟨-, h2⟩ := eqv_offs hj (Nat.le_refl np) h1
  obtain ⟨h4, h5⟩ := eqv_ons hj (Nat.le_refl np) (eqv_letOff hj h1)
  unfold f_drive
  rw [h.2.2.1 j 3 hj (by decide), h2, h5]
  by_cases q : 0 < d (t + 14 + j) 3 - 1
  · rw [if_pos q, if_pos q]; exact h.B rfl
  · rw [if_neg q, if_neg q]; exact h4.B rfl
theorem eqv_std1 {j : Nat} (hj : j < nb) (h : Eqv o t nb np g d) : Eqv o t nb np (f_std1 g (o + 14 + j)) (f_std1 d (t + 14 + j)) := by
  unfold f_std1
  rw [h.2.2.1 j 3 hj (by decide)]
  by_cases q : 0 < d (t + 14 + j) 3
  · rw [if_pos q, if_pos q]; exact h.B rfl
  · rw [if_neg q, if_neg q]; exact h
theorem eqv_std2 {j : Nat} (hj : j < nb) (hc : cl (d (t + 14 + j) 1) < 10) (h : Eqv o t nb np g d) : Eqv o t nb np (f_std2 g o (o + 14 + j)) (f_std2 d t (t + 14 + j)) := by
  unfold f_std2 f_lets
  rw [h.2.2.1 j 3 hj (by decide), h.2.2.1 j 1 hj (by decide), h.1 5 (by decide) (by decide), h.1 6 (by decide) (by decide), h.2.1 _ 2 hc (by decide), h.2.1 _ 0 hc (by decide)]
  by_cases q : d (t + 14 + j) 3 = 0 ∧ (if d t 6 = 0 ∨ d (t + 4 + cl (d (t + 14 + j) 1)) 2 = -1 ∨ ¬ (d t 5 - d (t + 4 + cl (d (t + 14 + j) 1)) 2 < d t 6) then (1 : Int32) else 0) = 1
  · rw [if_pos q, if_pos q]; exact ((h.S rfl).B rfl).B rfl
  · rw [if_neg q, if_neg q]; exact h
theorem eqv_bus1 {j : Nat} (hj : j < nb) (hk : OkL t nb np d) (h : Eqv o t nb np g d) : Eqv o t nb np (f_bus1 g o np j) (f_bus1 d t np j) := by
  unfold f_bus1 f_stand
  rw [h.2.2.1 j 2 hj (by decide)]
  by_cases q : d (t + 14 + j) 2 = 0
  · rw [if_pos q, if_pos q]; exact eqv_std2 hj ((okl_std1 hk hj).2.2.2.1 j hj).1.cl.1 (eqv_std1 hj h)
  · rw [if_neg q, if_neg q]; exact eqv_drive hj h
theorem eqv_buses (hk : OkL t nb np d) (h : Eqv o t nb np g d) : ∀ {n : Nat}, n ≤ nb → Eqv o t nb np (f_buses g o np n) (f_buses d t np n)
  | 0, _ => h
  | n + 1, hn => eqv_bus1 (by omega) (okl_buses hk n (by omega)) (eqv_buses hk h (by omega))
theorem eqv_waitN (h : Eqv o t nb np g d) : ∀ {n : Nat}, n ≤ np → Eqv o t nb np (f_waitN g o n) (f_waitN d t n)
  | 0, _ => h
  | n + 1, hn => by
    have ih := eqv_waitN h (n := n) (by omega)
    unfold f_waitN f_wait1
    rw [ih.2.2.2 n 0 (by omega) (by decide), ih.2.2.2 n 5 (by omega) (by decide)]
    by_cases q : f_waitN d t n (t + 20 + n) 0 = 0
    · rw [if_pos q, if_pos q]; exact ih.P rfl
    · rw [if_neg q, if_neg q]; exact ih
theorem eqv_min (hk : OkL t nb np d) (h : Eqv o t nb np g d) : Eqv o t nb np (f_min g o nb np) (f_min d t nb np) := by
  unfold f_min f_tick
  have h1 := eqv_waitN (eqv_buses hk h (Nat.le_refl nb)) (Nat.le_refl np)
  exact h1.L (by rw [h1.1 5 (by decide) (by decide)])
theorem eqv_mins (hk : OkL t nb np d) (h : Eqv o t nb np g d) : ∀ n, Eqv o t nb np (f_mins g o nb np n) (f_mins d t nb np n)
  | 0 => h
  | n + 1 => eqv_min (okl_mins hk n) (eqv_mins hk h n)
end EQ
theorem eqv_copy {g : S2} {nb np : Nat} (h : OkL 1 nb np g) (hN : NumT g) : Eqv 71 1 nb np (f_copy g 71 1 nb np) g := by
  obtain ⟨h1, h2, h3, h4, h5⟩ := copy_at (g := g) (t := 71) (o := 1) LL71 h.1.2 h.2.1.2
  refine ⟨fun k q1 q2 => h5 k q1 q2, fun i k hi hk => h1 i k hi hk, fun j k hj hk => ?_, fun p k hp hk => h3 p k hp hk⟩
  rcases Nat.eq_zero_or_pos k with rfl | q
  · have h6 := h.1.2
    rw [h4 j (by omega), hN j (by omega), h.2.2.1 j (by omega)]
  · exact h2 j k hj q hk
