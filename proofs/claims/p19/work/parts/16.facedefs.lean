/-! the face: which exception (0: none), by the number that the law's helper gives it; frames of a line's changes -/
def er_set (a1 a2 a3 : Int32) : Nat := if f_in a1 0 9 = 0 then 1 else if f_in a2 1 9 = 0 ∨ f_in a3 0 9 = 0 then 2 else 0
def er_hold (a1 : Int32) : Nat := if f_in a1 0 15 = 0 then 1 else 0
def er_start (nb : Int32) (a1 a2 : Int32) : Nat := if f_in a1 0 9 = 0 then 1 else if f_in a2 1 20 = 0 then 2 else if ¬ nb < 6 then 3 else 0
def er_queue (np : Int32) (a1 a2 : Int32) : Nat := if f_in a1 0 9 = 0 ∨ f_in a2 0 9 = 0 then 1 else if a1 = a2 then 2 else if ¬ np < 50 then 3 else 0
def er_change (np st at_ : Int32) (a1 a2 : Int32) : Nat := if f_in a1 0 (np - 1) = 0 ∨ f_in a2 0 9 = 0 then 1 else if ¬ st = 2 ∨ at_ = a2 then 2 else 0
def er_2 (m1 m2 : Int32) (a1 a2 : Int32) : Nat := if f_in a1 0 m1 = 0 ∨ f_in a2 0 m2 = 0 then 1 else 0
def er_1 (lo m1 : Int32) (a1 : Int32) : Nat := if f_in a1 lo m1 = 0 then 1 else 0
def er_see (a1 a2 : Int32) : Nat := if f_in a1 1 120 = 0 then 1 else if f_in a2 0 3 = 0 then 2 else 0
-- frames
def Out (o a : Nat) : Prop := a < o ∨ o + 70 ≤ a
theorem fr_off {g : S2} {o p a : Nat} {t : Int32} (ha : Out o a) (hp : p < 50) : f_off g (o + 20 + p) t a = g a := by
  unfold Out at ha; unfold f_off
  rw [u2_ne (by omega), u2_ne (by omega), u2_ne (by omega), u2_ne (by omega)]
theorem fr_offs {g : S2} {o B a : Nat} (ha : Out o a) : ∀ {n : Nat}, n ≤ 50 → (f_offs g o B n).1 a = g a
  | 0, _ => rfl
  | n + 1, h => by
    unfold f_offs f_offs1
    split
    · exact (fr_off (p := n) ha (by omega)).trans (fr_offs ha (by omega))
    · exact fr_offs ha (by omega)
theorem fr_letOff {g : S2} {o j a np : Nat} (ha : Out o a) (hj : j < 6) (hn : np ≤ 50) : f_letOff g o (o + 14 + j) np a = g a := by
  unfold f_letOff
  rw [u2_ne (by unfold Out at ha; omega)]
  exact fr_offs ha hn
theorem fr_board {g : S2} {o j p a : Nat} (ha : Out o a) (hj : j < 6) (hp : p < 50) : f_board g o (o + 14 + j) (o + 20 + p) a = g a := by
  unfold Out at ha; unfold f_board f_on
  rw [u2_ne (by omega), u2_ne (by omega), u2_ne (by omega), u2_ne (by omega), u2_ne (by omega), u2_ne (by omega)]
theorem fr_ons {g : S2} {o j a : Nat} (ha : Out o a) (hj : j < 6) : ∀ {n : Nat}, n ≤ 50 → (f_ons g o (o + 14 + j) n).1 a = g a
  | 0, _ => rfl
  | n + 1, h => by
    unfold f_ons f_ons1
    split
    · exact (fr_board (p := n) ha hj (by omega)).trans (fr_ons ha hj (by omega))
    · exact fr_ons ha hj (by omega)
theorem fr_arr {g : S2} {o j a : Nat} (ha : Out o a) (hj : j < 6) : f_arr g (o + 14 + j) a = g a := by
  unfold Out at ha; unfold f_arr
  rw [u2_ne (by omega), u2_ne (by omega), u2_ne (by omega)]
theorem fr_drive {g : S2} {o j a np : Nat} (ha : Out o a) (hj : j < 6) (hn : np ≤ 50) : f_drive g o (o + 14 + j) np a = g a := by
  have hne : a ≠ o + 14 + j := by unfold Out at ha; omega
  unfold f_drive
  split
  · rw [u2_ne hne]
  · rw [u2_ne hne, fr_ons ha hj hn, fr_letOff ha hj hn, fr_arr ha hj]
theorem fr_std1 {g : S2} {o j a : Nat} (ha : Out o a) (hj : j < 6) : f_std1 g (o + 14 + j) a = g a := by
  unfold f_std1
  split
  · rw [u2_ne (by unfold Out at ha; omega)]
  · rfl
theorem fr_std2 {g : S2} {o j a : Nat} (ha : Out o a) (hj : j < 6) (hc : cl (g (o + 14 + j) 1) < 10) : f_std2 g o (o + 14 + j) a = g a := by
  unfold f_std2
  split
  · rw [u2_ne (by unfold Out at ha; omega), u2_ne (by unfold Out at ha; omega), u2_ne (by unfold Out at ha; omega)]
  · rfl
theorem fr_bus1 {g : S2} {o nb np j a : Nat} (ha : Out o a) (h : OkL o nb np g) (hj : j < nb) : f_bus1 g o np j a = g a := by
  have h6 := h.1.2
  unfold f_bus1 f_stand
  split
  · rw [fr_std2 ha (by omega) ((okl_std1 h hj).2.2.2.1 j hj).1.cl.1, fr_std1 ha (by omega)]
  · exact fr_drive ha (by omega) h.2.1.2
theorem fr_buses {g : S2} {o nb np a : Nat} (ha : Out o a) (h : OkL o nb np g) : ∀ {n : Nat}, n ≤ nb → f_buses g o np n a = g a
  | 0, _ => rfl
  | n + 1, hn => by
    unfold f_buses
    rw [fr_bus1 ha (okl_buses h n (by omega)) (by omega)]
    exact fr_buses ha h (by omega)
theorem fr_waitN {g : S2} {o a : Nat} (ha : Out o a) : ∀ {n : Nat}, n ≤ 50 → f_waitN g o n a = g a
  | 0, _ => rfl
  | n + 1, hn => by
    unfold f_waitN f_wait1
    split
    · rw [u2_ne (by unfold Out at ha; omega)]; exact fr_waitN ha (by omega)
    · exact fr_waitN ha (by omega)
theorem fr_min {g : S2} {o nb np a : Nat} (ha : Out o a) (h : OkL o nb np g) : f_min g o nb np a = g a := by
  unfold f_min f_tick
  rw [u2_ne (by unfold Out at ha; omega), fr_waitN ha h.2.1.2, fr_buses ha h (Nat.le_refl _)]
theorem fr_mins {g : S2} {o nb np a : Nat} (ha : Out o a) (h : OkL o nb np g) : ∀ {n : Nat}, f_mins g o nb np n a = g a
  | 0 => rfl
  | n + 1 => by
    unfold f_mins
    rw [fr_min ha (okl_mins h n)]
    exact fr_mins ha h
theorem fr_copy {g : S2} {t o nb np a : Nat} (ha : Out t a) (hb : nb ≤ 6) (hp : np ≤ 50) : f_copy g t o nb np a = g a := by
  unfold Out at ha; unfold f_copy
  rw [u2_ne (by omega), u2_ne (by omega), u2_ne (by omega), u2_ne (by omega), cpPs_n hp (by omega), cpBs_n hb (by omega), cpSs_n (Nat.le_refl _) (by omega)]
-- the trial behind a copy
theorem cpB_at {g : S2} {t o : Nat} (hl : isLL t o) : ∀ {n : Nat}, n ≤ 6 → ∀ j k, j < n → 1 ≤ k → k < 7 → f_cpBs g t o n (t + 14 + j) k = g (o + 14 + j) k
  | 0, _, j, k, hj, _, _ => by omega
  | n + 1, hn, j, k, hj, h1, h7 => by
    unfold isLL at hl
    unfold f_cpBs f_cpB
    by_cases e : j = n
    · subst e
      have hs : f_cpBs g t o j (o + 14 + j) = g (o + 14 + j) := cpBs_n (by omega) (by omega)
      rcases (by omega : k = 1 ∨ k = 2 ∨ k = 3 ∨ k = 4 ∨ k = 5 ∨ k = 6) with rfl | rfl | rfl | rfl | rfl | rfl <;> simp [u2_app, hs]
    · rw [u2_n (by omega), u2_n (by omega), u2_n (by omega), u2_n (by omega), u2_n (by omega), u2_n (by omega)]
      exact cpB_at (by unfold isLL; omega) (by omega) j k (by omega) h1 h7
theorem cpB_0 {g : S2} {t o : Nat} : ∀ {n : Nat} {a : Nat}, f_cpBs g t o n a 0 = g a 0
  | 0, a => rfl
  | n + 1, a => by
    unfold f_cpBs f_cpB
    rw [u2_app, if_neg (by omega), u2_app, if_neg (by omega), u2_app, if_neg (by omega), u2_app, if_neg (by omega), u2_app, if_neg (by omega), u2_app, if_neg (by omega)]
    exact cpB_0
theorem cpP_at {g : S2} {t o : Nat} (hl : isLL t o) : ∀ {n : Nat}, n ≤ 50 → ∀ j k, j < n → k < 8 → f_cpPs g t o n (t + 20 + j) k = g (o + 20 + j) k
  | 0, _, j, k, hj, _ => by omega
  | n + 1, hn, j, k, hj, h7 => by
    unfold isLL at hl
    unfold f_cpPs f_cpP
    by_cases e : j = n
    · subst e
      have hs : f_cpPs g t o j (o + 20 + j) = g (o + 20 + j) := cpPs_n (by omega) (by omega)
      rcases (by omega : k = 0 ∨ k = 1 ∨ k = 2 ∨ k = 3 ∨ k = 4 ∨ k = 5 ∨ k = 6 ∨ k = 7) with rfl | rfl | rfl | rfl | rfl | rfl | rfl | rfl <;> simp [u2_app, hs]
    · rw [u2_n (by omega), u2_n (by omega), u2_n (by omega), u2_n (by omega), u2_n (by omega), u2_n (by omega), u2_n (by omega), u2_n (by omega)]
      exact cpP_at (by unfold isLL; omega) (by omega) j k (by omega) h7
theorem cpS_at {g : S2} {t o : Nat} (hl : isLL t o) : ∀ {n : Nat}, n ≤ 10 → ∀ j k, j < n → k < 3 → f_cpSs g t o n (t + 4 + j) k = g (o + 4 + j) k
  | 0, _, j, k, hj, _ => by omega
  | n + 1, hn, j, k, hj, h7 => by
    unfold isLL at hl
    unfold f_cpSs f_cpS
    by_cases e : j = n
    · subst e
      have hs : f_cpSs g t o j (o + 4 + j) = g (o + 4 + j) := cpSs_n (by omega) (by omega)
      rcases (by omega : k = 0 ∨ k = 1 ∨ k = 2) with rfl | rfl | rfl <;> simp [u2_app, hs]
    · rw [u2_n (by omega), u2_n (by omega), u2_n (by omega)]
      exact cpS_at (by unfold isLL; omega) (by omega) j k (by omega) h7
/-- what the copy holds -/
theorem copy_at {g : S2} {t o nb np : Nat} (hl : isLL t o) (hb : nb ≤ 6) (hp : np ≤ 50) :
    (∀ j k, j < 10 → k < 3 → f_copy g t o nb np (t + 4 + j) k = g (o + 4 + j) k) ∧ (∀ j k, j < nb → 1 ≤ k → k < 7 → f_copy g t o nb np (t + 14 + j) k = g (o + 14 + j) k) ∧ (∀ j k, j < np → k < 8 → f_copy g t o nb np (t + 20 + j) k = g (o + 20 + j) k) ∧
    (∀ j, j < 6 → f_copy g t o nb np (t + 14 + j) 0 = g (t + 14 + j) 0) ∧ (∀ k, 3 ≤ k → k < 7 → f_copy g t o nb np t k = g o k) := by
  have hl2 := hl
  unfold isLL at hl
  unfold f_copy
  refine ⟨fun j k hj hk => ?_, fun j k hj h1 hk => ?_, fun j k hj hk => ?_, fun j hj => ?_, fun k h3 hk => ?_⟩
  · rw [u2_n (by omega), u2_n (by omega), u2_n (by omega), u2_n (by omega), cpPs_n hp (by omega), cpBs_n hb (by omega)]
    exact cpS_at hl2 (Nat.le_refl _) j k hj hk
  · rw [u2_n (by omega), u2_n (by omega), u2_n (by omega), u2_n (by omega), cpPs_n hp (by omega), cpB_at hl2 hb j k hj h1 hk, cpSs_n (Nat.le_refl _) (by omega)]
  · rw [u2_n (by omega), u2_n (by omega), u2_n (by omega), u2_n (by omega), cpP_at hl2 hp j k hj hk, cpBs_n hb (by omega), cpSs_n (Nat.le_refl _) (by omega)]
  · rw [u2_n (by omega), u2_n (by omega), u2_n (by omega), u2_n (by omega), cpPs_n hp (by omega), cpB_0, cpSs_n (Nat.le_refl _) (by omega)]
  · rcases (by omega : k = 3 ∨ k = 4 ∨ k = 5 ∨ k = 6) with rfl | rfl | rfl | rfl <;> simp [u2_app]
theorem okl_copy {g : S2} {t o nb np : Nat} (hl : isLL t o) (h : OkL o nb np g) (hnum : ∀ j, j < 6 → g (t + 14 + j) 0 = nI j) : OkL t nb np (f_copy g t o nb np) := by
  obtain ⟨⟨a1, a2⟩, ⟨b1, b2⟩, c, d, e⟩ := h
  obtain ⟨h1, h2, h3, h4, h5⟩ := copy_at (g := g) (t := t) (o := o) hl a2 b2
  refine ⟨⟨by rw [h5 3 (by omega) (by omega)]; exact a1, a2⟩, ⟨by rw [h5 4 (by omega) (by omega)]; exact b1, b2⟩, fun j hj => by rw [h4 j hj]; exact hnum j hj, fun j hj => ?_, fun p hp => ?_⟩
  · rw [h2 j 1 hj (by omega) (by omega), h2 j 2 hj (by omega) (by omega)]; exact d j hj
  · rw [h3 p 1 hp (by omega), h3 p 2 hp (by omega), h3 p 7 hp (by omega)]; exact e p hp
/-- the trial's buses have their numbers -/
def NumT (g : S2) : Prop := ∀ j, j < 6 → g (71 + 14 + j) 0 = nI j
theorem LL71 : isLL 71 1 := Or.inr ⟨rfl, rfl⟩
/-- advise: trial, best, fewest behind n holds -/
def f_adv1 (nb np mm n : Nat) (r : S2 × Nat × Int32) : S2 × Nat × Int32 :=
  if n = 0 ∨ sumF (fun q => f_mins (u2 (f_copy r.1 71 1 nb np) 71 6 (nI n)) 71 nb np mm (71 + 20 + q) 5) np < r.2.2 then (f_mins (u2 (f_copy r.1 71 1 nb np) 71 6 (nI n)) 71 nb np mm, n, sumF (fun q => f_mins (u2 (f_copy r.1 71 1 nb np) 71 6 (nI n)) 71 nb np mm (71 + 20 + q) 5) np)
  else (f_mins (u2 (f_copy r.1 71 1 nb np) 71 6 (nI n)) 71 nb np mm, r.2)
def f_adv (g : S2) (nb np mm : Nat) : Nat → S2 × Nat × Int32
  | 0 => (g, 0, 0)
  | n + 1 => f_adv1 nb np mm n (f_adv g nb np mm n)
/-- what stays while the trial is used -/
def Kp (g g1 : S2) : Prop := ∀ a, Out 71 a → g1 a = g a
theorem Kp.ok {g g1 : S2} {nb np : Nat} (k : Kp g g1) (h : OkL 1 nb np g) : OkL 1 nb np g1 := okl_eq h (fun a h1 h2 => k a (Or.inl (by omega)))
theorem okl_num {o nb np : Nat} {g : S2} (h : OkL o nb np g) : ∀ j, j < 6 → g (o + 14 + j) 0 = nI j := h.2.2.1
theorem kp_copy {g g1 : S2} {nb np : Nat} (k : Kp g g1) (hb : nb ≤ 6) (hp : np ≤ 50) : Kp g (f_copy g1 71 1 nb np) := fun a ha => by rw [fr_copy ha hb hp]; exact k a ha
theorem kp_mins {g g1 : S2} {nb np n : Nat} (k : Kp g g1) (h : OkL 71 nb np g1) : Kp g (f_mins g1 71 nb np n) := fun a ha => by rw [fr_mins ha h]; exact k a ha
theorem kp_hold {g g1 : S2} {j : Nat} {x : Int32} (k : Kp g g1) : Kp g (u2 g1 71 j x) := fun a ha => by rw [u2_ne (by unfold Out at ha; omega)]; exact k a ha
theorem adv_ok {g : S2} {nb np mm : Nat} (h : OkL 1 nb np g) (hn : NumT g) : ∀ n, Kp g (f_adv g nb np mm n).1 ∧ NumT (f_adv g nb np mm n).1
  | 0 => ⟨fun _ _ => rfl, hn⟩
  | n + 1 => by
    obtain ⟨k, hN⟩ := adv_ok (mm := mm) h hn n
    have h1 := okl_copy LL71 (k.ok h) hN
    have h2 : OkL 71 nb np (u2 (f_copy (f_adv g nb np mm n).1 71 1 nb np) 71 6 (nI n)) := OkL.L h1 (by decide)
    have h3 := okl_mins h2 mm
    have hk : Kp g (f_mins (u2 (f_copy (f_adv g nb np mm n).1 71 1 nb np) 71 6 (nI n)) 71 nb np mm) := kp_mins (kp_hold (kp_copy k h.1.2 h.2.1.2)) h2
    unfold f_adv f_adv1
    split
    · exact ⟨hk, okl_num h3⟩
    · exact ⟨hk, okl_num h3⟩
