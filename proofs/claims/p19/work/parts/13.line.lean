/-! a line's state: what its methods do, and what stays true of it -/
def cl (x : Int32) : Nat := x.toNatClampNeg
theorem cl_nI {x : Int32} {a n : Nat} (h : x = nI a) (ha : a < n) (hn : n ≤ 2048) : cl x = a := by
  subst h; exact nI_clamp (by omega)
def D10 (x : Int32) : Prop := ∃ a, a < 10 ∧ x = nI a
theorem D10.cl {x : Int32} (h : D10 x) : cl x < 10 ∧ x = nI (cl x) := by
  obtain ⟨a, ha, rfl⟩ := h
  rw [cl_nI rfl ha (by omega)]
  exact ⟨ha, rfl⟩
def rem10 (x : Int32) : Int32 := x - x / 10 * 10
theorem rem10_nI {n : Nat} (h : n < 2 ^ 31) : rem10 (nI n) = nI (n % 10) := pk_rem (d := 10) h (by decide) (by decide)
theorem D10.next {x : Int32} (h : D10 x) : D10 (rem10 (x + 1)) := by
  obtain ⟨a, ha, rfl⟩ := h
  refine ⟨(a + 1) % 10, by omega, ?_⟩
  rw [nI_1, rem10_nI (by omega)]
def f_fareI (sg : Nat → Int32) (x y : Int32) : Int32 := f_fare sg (cl x) (cl y)
/-- a line o with nb buses and np passengers -/
def OkL (o nb np : Nat) (g : S2) : Prop :=
  (g o 3 = nI nb ∧ nb ≤ 6) ∧ (g o 4 = nI np ∧ np ≤ 50) ∧ (∀ j, j < 6 → g (o + 14 + j) 0 = nI j) ∧ (∀ j, j < nb → D10 (g (o + 14 + j) 1) ∧ (g (o + 14 + j) 2 = 0 ∨ g (o + 14 + j) 2 = 1)) ∧
  (∀ p, p < np → D10 (g (o + 20 + p) 1) ∧ D10 (g (o + 20 + p) 2) ∧ (g (o + 20 + p) 7 = 0 ∨ g (o + 20 + p) 7 = 1))
theorem u2_if {g : S2} {i k a j : Nat} {x : Int32} {C : Int32 → Prop} (h : C (g a j)) (hx : a = i → j = k → C x) : C (u2 g i k x a j) := by
  rw [u2_app]
  split
  · rename_i q; exact hx q.1 q.2
  · exact h
theorem OkL.P {o nb np p k : Nat} {g : S2} {x : Int32} (h : OkL o nb np g) (hp : p < 50) (h1 : k = 1 ∨ k = 2 → D10 x) (h7 : k = 7 → x = 0 ∨ x = 1) : OkL o nb np (u2 g (o + 20 + p) k x) := by
  obtain ⟨⟨a1, a2⟩, ⟨b1, b2⟩, c, d, e⟩ := h
  refine ⟨⟨by rw [u2_n (by omega)]; exact a1, a2⟩, ⟨by rw [u2_n (by omega)]; exact b1, b2⟩, fun j hj => by rw [u2_n (by omega)]; exact c j hj, fun j hj => ?_, fun q hq => ?_⟩
  · rw [u2_n (by omega), u2_n (by omega)]; exact d j hj
  · exact ⟨u2_if (C := D10) (e q hq).1 (fun _ h => h1 (Or.inl h.symm)), u2_if (C := D10) (e q hq).2.1 (fun _ h => h1 (Or.inr h.symm)), u2_if (C := fun z => z = 0 ∨ z = 1) (e q hq).2.2 (fun _ h => h7 h.symm)⟩
theorem OkL.B {o nb np j k : Nat} {g : S2} {x : Int32} (h : OkL o nb np g) (hj : j < 6) (h0 : k ≠ 0) (h1 : k = 1 → D10 x) (h2 : k = 2 → x = 0 ∨ x = 1) : OkL o nb np (u2 g (o + 14 + j) k x) := by
  obtain ⟨⟨a1, a2⟩, ⟨b1, b2⟩, c, d, e⟩ := h
  refine ⟨⟨by rw [u2_n (by omega)]; exact a1, a2⟩, ⟨by rw [u2_n (by omega)]; exact b1, b2⟩, fun i hi => ?_, fun i hi => ?_, fun q hq => ?_⟩
  · rw [u2_app, if_neg (by omega)]; exact c i hi
  · exact ⟨u2_if (C := D10) (d i hi).1 (fun _ h => h1 h.symm), u2_if (C := fun z => z = 0 ∨ z = 1) (d i hi).2 (fun _ h => h2 h.symm)⟩
  · rw [u2_n (by omega), u2_n (by omega), u2_n (by omega)]; exact e q hq
theorem OkL.S {o nb np i k : Nat} {g : S2} {x : Int32} (h : OkL o nb np g) (hi : i < 10) : OkL o nb np (u2 g (o + 4 + i) k x) := by
  obtain ⟨⟨a1, a2⟩, ⟨b1, b2⟩, c, d, e⟩ := h
  refine ⟨⟨by rw [u2_n (by omega)]; exact a1, a2⟩, ⟨by rw [u2_n (by omega)]; exact b1, b2⟩, fun i hi => ?_, fun i hi => ?_, fun q hq => ?_⟩
  · rw [u2_n (by omega)]; exact c i hi
  · rw [u2_n (by omega), u2_n (by omega)]; exact d i hi
  · rw [u2_n (by omega), u2_n (by omega), u2_n (by omega)]; exact e q hq
theorem OkL.L {o nb np k : Nat} {g : S2} {x : Int32} (h : OkL o nb np g) (hk : k ≠ 3 ∧ k ≠ 4) : OkL o nb np (u2 g o k x) := by
  obtain ⟨⟨a1, a2⟩, ⟨b1, b2⟩, c, d, e⟩ := h
  refine ⟨⟨by rw [u2_app, if_neg (by omega)]; exact a1, a2⟩, ⟨by rw [u2_app, if_neg (by omega)]; exact b1, b2⟩, fun i hi => ?_, fun i hi => ?_, fun q hq => ?_⟩
  · rw [u2_n (by omega)]; exact c i hi
  · rw [u2_n (by omega), u2_n (by omega)]; exact d i hi
  · rw [u2_n (by omega), u2_n (by omega), u2_n (by omega)]; exact e q hq
/-- who rides in B and wants off here arrives: passenger n -/
def f_offs1 (o B n : Nat) (r : S2 × Nat) : S2 × Nat := if r.1 (o + 20 + n) 0 = 1 ∧ r.1 (o + 20 + n) 3 = r.1 B 0 ∧ r.1 (o + 20 + n) 2 = r.1 B 1 then (f_off r.1 (o + 20 + n) (r.1 o 5), r.2 + 1) else r
def f_offs (g : S2) (o B : Nat) : Nat → S2 × Nat
  | 0 => (g, 0)
  | n + 1 => f_offs1 o B n (f_offs g o B n)
def f_letOff (g : S2) (o B np : Nat) : S2 := u2 (f_offs g o B np).1 B 5 ((f_offs g o B np).1 B 5 - nI (f_offs g o B np).2)
def stg (g : S2) (o : Nat) : Nat → Int32 := fun i => g (o + 4 + i) 1
def f_board (g : S2) (o B P : Nat) : S2 := u2 (u2 (f_on g P B (f_fareI (stg g o) (g P 1) (g P 2))) B 6 (g B 6 + f_price g P (f_fareI (stg g o) (g P 1) (g P 2)))) B 5 (g B 5 + 1)
def f_ons1 (o B n : Nat) (r : S2 × Nat) : S2 × Nat := if r.1 B 5 < r.1 B 4 ∧ r.1 (o + 20 + n) 0 = 0 ∧ r.1 (o + 20 + n) 1 = r.1 B 1 then (f_board r.1 o B (o + 20 + n), r.2 + 1) else r
def f_ons (g : S2) (o B : Nat) : Nat → S2 × Nat
  | 0 => (g, 0)
  | n + 1 => f_ons1 o B n (f_ons g o B n)
def f_arr (g : S2) (B : Nat) : S2 := u2 (u2 (u2 g B 3 (g B 3 - 1)) B 1 (rem10 (g B 1 + 1))) B 2 0
def f_drive (g : S2) (o B np : Nat) : S2 :=
  if 0 < g B 3 - 1 then u2 g B 3 (g B 3 - 1)
  else u2 (f_ons (f_letOff (f_arr g B) o B np) o B np).1 B 3 (1 + nI (f_ons (f_letOff (f_arr g B) o B np) o B np).2 / 2 + nI (f_offs (f_arr g B) o B np).2 / 4)
def f_std1 (g : S2) (B : Nat) : S2 := if 0 < g B 3 then u2 g B 3 (g B 3 - 1) else g
def f_std2 (g : S2) (o B : Nat) : S2 :=
  if g B 3 = 0 ∧ f_lets g (o + 4 + cl (g B 1)) (g o 5) (g o 6) = 1 then u2 (u2 (u2 g (o + 4 + cl (g B 1)) 2 (g o 5)) B 2 1) B 3 (g (o + 4 + cl (g B 1)) 0) else g
def f_stand (g : S2) (o B : Nat) : S2 := f_std2 (f_std1 g B) o B
def f_bus1 (g : S2) (o np j : Nat) : S2 := if g (o + 14 + j) 2 = 0 then f_stand g o (o + 14 + j) else f_drive g o (o + 14 + j) np
def f_buses (g : S2) (o np : Nat) : Nat → S2
  | 0 => g
  | n + 1 => f_bus1 (f_buses g o np n) o np n
def f_wait1 (g : S2) (o p : Nat) : S2 := if g (o + 20 + p) 0 = 0 then u2 g (o + 20 + p) 5 (g (o + 20 + p) 5 + 1) else g
def f_waitN (g : S2) (o : Nat) : Nat → S2
  | 0 => g
  | n + 1 => f_wait1 (f_waitN g o n) o n
def f_tick (g : S2) (o : Nat) : S2 := u2 g o 5 (g o 5 + 1)
def f_min (g : S2) (o nb np : Nat) : S2 := f_tick (f_waitN (f_buses g o np nb) o np) o
def f_mins (g : S2) (o nb np : Nat) : Nat → S2
  | 0 => g
  | n + 1 => f_min (f_mins g o nb np n) o nb np
theorem okl_off {o nb np p : Nat} {g : S2} {t : Int32} (h : OkL o nb np g) (hp : p < np) : OkL o nb np (f_off g (o + 20 + p) t) := by
  have h50 := h.2.1.2
  unfold f_off
  refine OkL.P (OkL.P (OkL.P (OkL.P h (by omega) (by omega) (by omega)) (by omega) (fun _ => (h.2.2.2.2 p hp).2.1) (by omega)) (by omega) (by omega) (by omega)) (by omega) (by omega) (by omega)
theorem okl_offs {o nb np j : Nat} {g : S2} (h : OkL o nb np g) : ∀ n, n ≤ np → OkL o nb np (f_offs g o (o + 14 + j) n).1
  | 0, _ => h
  | n + 1, hn => by
    have ih := okl_offs (j := j) h n (by omega)
    unfold f_offs f_offs1
    split
    · exact okl_off ih (by omega)
    · exact ih
theorem okl_on {o nb np p B : Nat} {g : S2} {x : Int32} (h : OkL o nb np g) (hp : p < np) : OkL o nb np (f_on g (o + 20 + p) B x) := by
  have h50 := h.2.1.2
  unfold f_on
  refine OkL.P (OkL.P (OkL.P (OkL.P h (by omega) (by omega) (fun _ => Or.inl rfl)) (by omega) (by omega) (by omega)) (by omega) (by omega) (by omega)) (by omega) (by omega) (by omega)
theorem okl_board {o nb np p j : Nat} {g : S2} (h : OkL o nb np g) (hp : p < np) (hj : j < 6) : OkL o nb np (f_board g o (o + 14 + j) (o + 20 + p)) := by
  unfold f_board
  exact OkL.B (OkL.B (okl_on h hp) hj (by decide) (by omega) (by omega)) hj (by decide) (by omega) (by omega)
theorem okl_ons {o nb np j : Nat} {g : S2} (h : OkL o nb np g) (hj : j < 6) : ∀ n, n ≤ np → OkL o nb np (f_ons g o (o + 14 + j) n).1
  | 0, _ => h
  | n + 1, hn => by
    have ih := okl_ons (j := j) h hj n (by omega)
    unfold f_ons f_ons1
    split
    · exact okl_board ih (by omega) hj
    · exact ih
theorem okl_letOff {o nb np j : Nat} {g : S2} (h : OkL o nb np g) (hj : j < 6) : OkL o nb np (f_letOff g o (o + 14 + j) np) := by
  unfold f_letOff
  exact OkL.B (okl_offs h np (Nat.le_refl _)) hj (by decide) (by omega) (by omega)
theorem okl_arr {o nb np j : Nat} {g : S2} (h : OkL o nb np g) (hj : j < nb) : OkL o nb np (f_arr g (o + 14 + j)) := by
  have h6 := h.1.2
  unfold f_arr
  exact OkL.B (OkL.B (OkL.B h (by omega) (by decide) (by omega) (by omega)) (by omega) (by decide) (fun _ => (h.2.2.2.1 j hj).1.next) (by omega)) (by omega) (by decide) (by omega) (fun _ => Or.inl rfl)
theorem okl_drive {o nb np j : Nat} {g : S2} (h : OkL o nb np g) (hj : j < nb) : OkL o nb np (f_drive g o (o + 14 + j) np) := by
  have h6 := h.1.2
  unfold f_drive
  split
  · exact OkL.B h (by omega) (by decide) (by omega) (by omega)
  · exact OkL.B (okl_ons (okl_letOff (okl_arr h hj) (by omega)) (by omega) np (Nat.le_refl _)) (by omega) (by decide) (by omega) (by omega)
theorem okl_std1 {o nb np j : Nat} {g : S2} (h : OkL o nb np g) (hj : j < nb) : OkL o nb np (f_std1 g (o + 14 + j)) := by
  have h6 := h.1.2
  unfold f_std1
  split
  · exact OkL.B h (by omega) (by decide) (by omega) (by omega)
  · exact h
theorem okl_std2 {o nb np j : Nat} {g : S2} (h : OkL o nb np g) (hj : j < nb) : OkL o nb np (f_std2 g o (o + 14 + j)) := by
  have h6 := h.1.2
  unfold f_std2
  split
  · exact OkL.B (OkL.B (OkL.S h (h.2.2.2.1 j hj).1.cl.1) (by omega) (by decide) (by omega) (fun _ => Or.inr rfl)) (by omega) (by decide) (by omega) (by omega)
  · exact h
theorem okl_bus1 {o nb np j : Nat} {g : S2} (h : OkL o nb np g) (hj : j < nb) : OkL o nb np (f_bus1 g o np j) := by
  unfold f_bus1
  split
  · exact okl_std2 (okl_std1 h hj) hj
  · exact okl_drive h hj
theorem okl_buses {o nb np : Nat} {g : S2} (h : OkL o nb np g) : ∀ n, n ≤ nb → OkL o nb np (f_buses g o np n)
  | 0, _ => h
  | n + 1, hn => okl_bus1 (okl_buses h n (by omega)) (by omega)
theorem okl_wait1 {o nb np p : Nat} {g : S2} (h : OkL o nb np g) (hp : p < np) : OkL o nb np (f_wait1 g o p) := by
  have h50 := h.2.1.2
  unfold f_wait1
  split
  · exact OkL.P h (by omega) (by omega) (by omega)
  · exact h
theorem okl_waitN {o nb np : Nat} {g : S2} (h : OkL o nb np g) : ∀ n, n ≤ np → OkL o nb np (f_waitN g o n)
  | 0, _ => h
  | n + 1, hn => okl_wait1 (okl_waitN h n (by omega)) (by omega)
theorem okl_min {o nb np : Nat} {g : S2} (h : OkL o nb np g) : OkL o nb np (f_min g o nb np) := by
  unfold f_min f_tick
  exact OkL.L (okl_waitN (okl_buses h nb (Nat.le_refl _)) np (Nat.le_refl _)) (by decide)
theorem okl_mins {o nb np : Nat} {g : S2} (h : OkL o nb np g) : ∀ n, OkL o nb np (f_mins g o nb np n)
  | 0 => h
  | n + 1 => okl_min (okl_mins h n)
/-- seats once full stay full: the rest of the passengers changes nothing -/
theorem f_ons_full {o B : Nat} {g : S2} : ∀ {n m : Nat}, n ≤ m → ¬ (f_ons g o B n).1 B 5 < (f_ons g o B n).1 B 4 → f_ons g o B m = f_ons g o B n
  | n, 0, h, _ => by rw [show n = 0 by omega]
  | n, m + 1, h, hf => by
    rcases Nat.lt_or_ge m n with q | q
    · rw [show n = m + 1 by omega]
    · have ih := f_ons_full (m := m) q hf
      show f_ons1 o B m (f_ons g o B m) = _
      rw [ih]
      unfold f_ons1
      rw [if_neg (fun z => hf z.1)]
section TOP
variable {p : Program} {l : Launch} {e : Env} {R : Room} {s : State} {m : MethodId} {args : Array Value} {below : List Frame} {meth : Method} {c : Code} {H : Heap} {locs : List Loc} {cells slots : Nat} {Q : State → Prop}
variable {pc : Nat} {ls : Array Slot} {rest : List Value}
/-- the int on top by another name -/
theorem w_top {x y : Int32} (h : x = y) (kk : W p l e R s m args below meth c H locs cells slots Q (F0 m pc ls (.int y :: rest))) : W p l e R s m args below meth c H locs cells slots Q (F0 m pc ls (.int x :: rest)) := h ▸ kk
theorem w_topl {x y : Int64} (h : x = y) (kk : W p l e R s m args below meth c H locs cells slots Q (F0 m pc ls (.long y :: rest))) : W p l e R s m args below meth c H locs cells slots Q (F0 m pc ls (.long x :: rest)) := h ▸ kk
end TOP
