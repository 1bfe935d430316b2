theorem f_on_B {g : S2} {P B k : Nat} {x : Int32} (h : B ≠ P) : f_on g P B x B k = g B k := by
  unfold f_on; rw [u2_n h, u2_n h, u2_n h, u2_n h]
theorem f_lets01 {g : S2} {i : Nat} {t h : Int32} : f_lets g i t h = 0 ∨ f_lets g i t h = 1 := by unfold f_lets; exact ite01
theorem f_leaves0 {g : S2} {P B : Nat} {k : Int32} : f_leaves g P B k = 0 ↔ ¬ (g P 0 = 1 ∧ g P 3 = g B 0 ∧ g P 2 = k) := by unfold f_leaves; exact ite0
theorem f_leaves1 {g : S2} {P B : Nat} {k : Int32} : ¬ f_leaves g P B k = 0 ↔ (g P 0 = 1 ∧ g P 3 = g B 0 ∧ g P 2 = k) := by unfold f_leaves; exact ite1
theorem f_waits0 {g : S2} {P : Nat} {k : Int32} : f_waits g P k = 0 ↔ ¬ (g P 0 = 0 ∧ g P 1 = k) := by unfold f_waits; exact ite0
theorem f_waits1 {g : S2} {P : Nat} {k : Int32} : ¬ f_waits g P k = 0 ↔ (g P 0 = 0 ∧ g P 1 = k) := by unfold f_waits; exact ite1
theorem f_bunch0 {g : S2} {i j : Nat} : f_bunch g i j = 0 ↔ ¬ (g i 1 = g j 1 ∧ g i 2 = g j 2) := by unfold f_bunch; exact ite0
theorem f_bunch1 {g : S2} {i j : Nat} : ¬ f_bunch g i j = 0 ↔ (g i 1 = g j 1 ∧ g i 2 = g j 2) := by unfold f_bunch; exact ite1
-- what a line tells
def q_in (g : S2) (o : Nat) (k : Int32) : Nat → Bool := fun q => decide (g (o + 20 + q) 0 = k)
def q_wa (g : S2) (o : Nat) (k : Int32) : Nat → Bool := fun q => decide (g (o + 20 + q) 0 = 0 ∧ g (o + 20 + q) 1 = k)
def q_st (g : S2) (o : Nat) (k : Int32) : Nat → Bool := fun q => decide (g (o + 14 + q) 2 = 0 ∧ g (o + 14 + q) 1 = k)
def q_bu (g : S2) (o : Nat) : Nat → Nat → Bool := fun a c => decide (g (o + 14 + a) 1 = g (o + 14 + c) 1 ∧ g (o + 14 + a) 2 = g (o + 14 + c) 2)
def f_tellS (g : S2) (o nb np n : Nat) : Nat → Int32
  | 0 => g (o + 4 + n) 0
  | 1 => g (o + 4 + n) 1
  | 2 => nI (cnB (q_wa g o (nI n)) np)
  | 3 => nI (cnB (q_st g o (nI n)) nb)
  | _ => g (o + 4 + n) 2
def f_tellC (g : S2) (o nb np : Nat) : Nat → Int32
  | 0 => g o 5
  | 1 => g o 6
  | 2 => g o 3
  | 3 => g o 4
  | 4 => nI (cnB (q_in g o 0) np)
  | 5 => nI (cnB (q_in g o 1) np)
  | 6 => nI (cnB (q_in g o 2) np)
  | 7 => sumF (fun q => g (o + 20 + q) 4) np
  | 8 => sumF (fun q => g (o + 20 + q) 5) np
  | _ => nI (cnP (q_bu g o) nb nb)
-- a line copied from another one
def f_cpSs (g : S2) (t o : Nat) : Nat → S2
  | 0 => g
  | n + 1 => f_cpS (f_cpSs g t o n) (t + 4 + n) (o + 4 + n)
def f_cpBs (g : S2) (t o : Nat) : Nat → S2
  | 0 => g
  | n + 1 => f_cpB (f_cpBs g t o n) (t + 14 + n) (o + 14 + n)
def f_cpPs (g : S2) (t o : Nat) : Nat → S2
  | 0 => g
  | n + 1 => f_cpP (f_cpPs g t o n) (t + 20 + n) (o + 20 + n)
def f_copy (g : S2) (t o nb np : Nat) : S2 :=
  u2 (u2 (u2 (u2 (f_cpPs (f_cpBs (f_cpSs g t o 10) t o nb) t o np) t 3 (g o 3)) t 4 (g o 4)) t 5 (g o 5)) t 6 (g o 6)
theorem cpSs_n {g : S2} {t o a : Nat} : ∀ {n : Nat}, n ≤ 10 → (a < t + 4 ∨ t + 14 ≤ a) → f_cpSs g t o n a = g a
  | 0, _, _ => rfl
  | n + 1, h, ha => by
    unfold f_cpSs f_cpS
    rw [u2_ne (by omega), u2_ne (by omega), u2_ne (by omega)]
    exact cpSs_n (by omega) ha
theorem cpBs_n {g : S2} {t o a : Nat} : ∀ {n : Nat}, n ≤ 6 → (a < t + 14 ∨ t + 20 ≤ a) → f_cpBs g t o n a = g a
  | 0, _, _ => rfl
  | n + 1, h, ha => by
    unfold f_cpBs f_cpB
    rw [u2_ne (by omega), u2_ne (by omega), u2_ne (by omega), u2_ne (by omega), u2_ne (by omega), u2_ne (by omega)]
    exact cpBs_n (by omega) ha
theorem cpPs_n {g : S2} {t o a : Nat} : ∀ {n : Nat}, n ≤ 50 → (a < t + 20 ∨ t + 70 ≤ a) → f_cpPs g t o n a = g a
  | 0, _, _ => rfl
  | n + 1, h, ha => by
    unfold f_cpPs f_cpP
    rw [u2_ne (by omega), u2_ne (by omega), u2_ne (by omega), u2_ne (by omega), u2_ne (by omega), u2_ne (by omega), u2_ne (by omega), u2_ne (by omega)]
    exact cpPs_n (by omega) ha
/-- two different lines -/
def isLL (t o : Nat) : Prop := (t = 1 ∧ o = 71) ∨ (t = 71 ∧ o = 1)
theorem okl_eq {o nb np : Nat} {g g' : S2} (h : OkL o nb np g) (e : ∀ a, o ≤ a → a < o + 70 → g' a = g a) : OkL o nb np g' := by
  obtain ⟨⟨a1, a2⟩, ⟨b1, b2⟩, c, d, f⟩ := h
  refine ⟨⟨by rw [e o (by omega) (by omega)]; exact a1, a2⟩, ⟨by rw [e o (by omega) (by omega)]; exact b1, b2⟩, fun j hj => by rw [e _ (by omega) (by omega)]; exact c j hj, fun j hj => by rw [e _ (by omega) (by omega)]; exact d j hj, fun p hp => by rw [e _ (by omega) (by omega)]; exact f p hp⟩
theorem okl_cpSs {t o nb np n : Nat} {g : S2} (hl : isLL t o) (h : OkL o nb np g) (hn : n ≤ 10) : OkL o nb np (f_cpSs g t o n) := okl_eq h (fun a h1 h2 => cpSs_n hn (by unfold isLL at hl; omega))
theorem okl_cpBs {t o nb np n : Nat} {g : S2} (hl : isLL t o) (h : OkL o nb np g) (hn : n ≤ 6) : OkL o nb np (f_cpBs g t o n) := okl_eq h (fun a h1 h2 => cpBs_n hn (by unfold isLL at hl; omega))
theorem okl_cpPs {t o nb np n : Nat} {g : S2} (hl : isLL t o) (h : OkL o nb np g) (hn : n ≤ 50) : OkL o nb np (f_cpPs g t o n) := okl_eq h (fun a h1 h2 => cpPs_n hn (by unfold isLL at hl; omega))
def f_addBus (g : S2) (o nb : Nat) (x y : Int32) : S2 := u2 (u2 (u2 (u2 g (o + 14 + nb) 1 x) (o + 14 + nb) 3 1) (o + 14 + nb) 4 y) o 3 (nI (nb + 1))
def f_addPas (g : S2) (o np : Nat) (x y : Int32) : S2 := u2 (u2 (u2 g (o + 20 + np) 1 x) (o + 20 + np) 2 y) o 4 (nI (np + 1))
theorem isLL.l {t o : Nat} (h : isLL t o) : isL t := by unfold isLL at h; unfold isL; omega
theorem isLL.r {t o : Nat} (h : isLL t o) : isL o := by unfold isLL at h; unfold isL; omega
