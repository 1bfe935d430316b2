/-! a minute of a line, bus by bus: what has come of the line g0 when n buses are done -/
theorem cnB_upd {A B : Nat → Bool} {p : Nat} (h : ∀ q, q ≠ p → A q = B q) : ∀ {n : Nat}, p < n → cnB A n + (if B p = true then 1 else 0) = cnB B n + (if A p = true then 1 else 0)
  | 0, hp => by omega
  | n + 1, hp => by
    show cnB A n + (if A n = true then 1 else 0) + _ = cnB B n + (if B n = true then 1 else 0) + _
    by_cases e : p = n
    · subst e
      rw [cnB_congr (q := A) (r := B) (fun k hk => h k (by omega))]
      omega
    · have ih := cnB_upd h (n := n) (by omega)
      rw [h n (Ne.symm e)]
      omega
theorem sumF_upd {f f' : Nat → Int32} {p : Nat} {x : Int32} (h : ∀ q, q ≠ p → f' q = f q) (hx : f' p = f p + x) : ∀ {n : Nat}, p < n → sumF f' n = sumF f n + x
  | 0, hp => by omega
  | n + 1, hp => by
    show sumF f' n + f' n = sumF f n + f n + x
    by_cases e : p = n
    · subst e
      rw [sumF_congr (q := f') (r := f) (fun k hk => h k (by omega)), hx, Int32.add_assoc]
    · rw [sumF_upd h hx (n := n) (by omega), h n (Ne.symm e), Int32.add_assoc, Int32.add_comm x, ← Int32.add_assoc]
theorem nI_ne {a b : Nat} (h : a ≠ b) (ha : a < 2000) (hb : b < 2000) : nI a ≠ nI b := fun q => h ((nI_eq (by omega) (by omega)).mp q)
def rid (g : S2) (o np j : Nat) : Nat := cnB (fun q => decide (g (o + 20 + q) 0 = 1 ∧ g (o + 20 + q) 3 = nI j)) np
theorem rid_congr {g g' : S2} {o np j : Nat} (h : ∀ q, q < np → g' (o + 20 + q) 0 = g (o + 20 + q) 0 ∧ g' (o + 20 + q) 3 = g (o + 20 + q) 3) : rid g' o np j = rid g o np j :=
  cnB_congr (fun q hq => by rw [(h q hq).1, (h q hq).2])
def prc (g : S2) (o p : Nat) : Int32 := f_price g (o + 20 + p) (f_fareI (stg g o) (g (o + 20 + p) 1) (g (o + 20 + p) 2))
def e1 (j n : Nat) : Nat → Nat := fun i => if i = j then n else 0
def PasR (t : Int32) (A : Nat → Int32) (nB nC : Nat) (pr : Int32) (u v : Nat → Int32) : Prop :=
  v 2 = u 2 ∧ v 5 = u 5 ∧ ((∀ k, k < 8 → v k = u k) ∨
   (u 0 = 0 ∧ v 0 = 1 ∧ v 1 = u 1 ∧ (∃ j, j < nB ∧ v 3 = nI j ∧ A j = u 1) ∧ v 4 = u 4 + pr ∧ v 6 = u 6 ∧ v 7 = 0) ∨
   (u 0 = 1 ∧ v 0 = 2 ∧ v 1 = u 2 ∧ (∃ j, j < nC ∧ u 3 = nI j ∧ A j = u 2) ∧ v 3 = -1 ∧ v 4 = u 4 ∧ v 6 = t ∧ v 7 = u 7))
theorem PasR.mono {t : Int32} {A A' : Nat → Int32} {nB nC nB' nC' : Nat} {pr : Int32} {u v : Nat → Int32} (h : PasR t A nB nC pr u v) (hB : nB ≤ nB') (hC : nC ≤ nC') (hBC : nB ≤ nC) (hA : ∀ j, j < nC → A' j = A j) : PasR t A' nB' nC' pr u v := by
  obtain ⟨a, b, h | ⟨c1, c2, c3, ⟨j, j1, j2, j3⟩, c4⟩ | ⟨c1, c2, c3, ⟨j, j1, j2, j3⟩, c4⟩⟩ := h
  · exact ⟨a, b, Or.inl h⟩
  · exact ⟨a, b, Or.inr (Or.inl ⟨c1, c2, c3, ⟨j, by omega, j2, by rw [hA j (by omega)]; exact j3⟩, c4⟩)⟩
  · exact ⟨a, b, Or.inr (Or.inr ⟨c1, c2, c3, ⟨j, by omega, j2, by rw [hA j (by omega)]; exact j3⟩, c4⟩)⟩
def StopR (t : Int32) (u v : Nat → Int32) : Prop := v 0 = u 0 ∧ v 1 = u 1 ∧ (v 2 = u 2 ∨ v 2 = t)
def BusG (t h : Int32) (S0 S : Nat → Nat → Int32) (u v : Nat → Int32) (r0 : Nat) : Prop :=
  (u 2 = 1 ∧ 1 < r0 ∧ v 2 = 1 ∧ v 1 = u 1 ∧ v 3 = nI (r0 - 1)) ∨
  (u 2 = 1 ∧ r0 ≤ 1 ∧ v 2 = 0 ∧ v 1 = rem10 (u 1 + 1) ∧ ∃ r, 1 ≤ r ∧ r ≤ 40 ∧ v 3 = nI r) ∨
  (u 2 = 0 ∧ v 2 = 0 ∧ v 1 = u 1 ∧ v 3 = nI (r0 - 1) ∧ (r0 < 2 → ¬ h = 0 ∧ t - S (cl (u 1)) 2 < h)) ∨
  (u 2 = 0 ∧ r0 ≤ 1 ∧ v 2 = 1 ∧ v 1 = u 1 ∧ v 3 = S0 (cl (u 1)) 0 ∧ S (cl (u 1)) 2 = t ∧ (h = 0 ∨ S0 (cl (u 1)) 2 = -1 ∨ ¬ (t - S0 (cl (u 1)) 2 < h)))
theorem sub_self {t : Nat} : nI t - nI t = 0 := by rw [pk_sub (Nat.le_refl t), Nat.sub_self]; rfl
theorem BusG.mono {tv hv : Nat} {S0 S S' : Nat → Nat → Int32} {u v : Nat → Int32} {r0 : Nat} (hhv : hv ≤ 15) (h : BusG (nI tv) (nI hv) S0 S u v r0) (hS : S' (cl (u 1)) 2 = S (cl (u 1)) 2 ∨ S' (cl (u 1)) 2 = nI tv) : BusG (nI tv) (nI hv) S0 S' u v r0 := by
  rcases h with h | h | ⟨a, b, c, d, f⟩ | ⟨a, b, c, d, f, k, l⟩
  · exact Or.inl h
  · exact Or.inr (Or.inl h)
  · refine Or.inr (Or.inr (Or.inl ⟨a, b, c, d, fun q => ?_⟩))
    obtain ⟨f1, f2⟩ := f q
    refine ⟨f1, ?_⟩
    rcases hS with z | z
    · rw [z]; exact f2
    · rw [z, sub_self]
      rcases Nat.eq_zero_or_pos hv with rfl | y
      · exact absurd rfl f1
      · exact nI_lt y (by omega)
  · refine Or.inr (Or.inr (Or.inr ⟨a, b, c, d, f, ?_, l⟩))
    rcases hS with z | z
    · rw [z]; exact k
    · exact z
def Tak (m : Nat) (u v : Nat → Int32) : Prop := ∃ a e, a < 2 ^ 30 ∧ e ≤ m ∧ u 6 = nI a ∧ v 6 = nI (a + e)
def RidOk (g0 g : S2) (o np : Nat) (e : Nat → Nat) (j : Nat) : Prop :=
  g (o + 14 + j) 5 = nI (rid g o np j + e j) ∧ g (o + 14 + j) 4 = g0 (o + 14 + j) 4 ∧ ∃ z, z ≤ 20 ∧ g0 (o + 14 + j) 4 = nI z ∧ rid g o np j + e j ≤ z
/-- n buses are done; the rows of the buses from nR on are as they were; who got on is in one of nB, who got off was in one of nC; e: who got off of a bus that still counts them -/
def Mid (o nb np : Nat) (t h : Int32) (g0 g : S2) (n nR nB nC : Nat) (e : Nat → Nat) : Prop :=
  OkL o nb np g ∧ (g o 5 = t ∧ g o 6 = h) ∧ (∀ i, i < 10 → StopR t (g0 (o + 4 + i)) (g (o + 4 + i))) ∧
  (∀ j, j < n → (∃ r0, r0 ≤ 40 ∧ g0 (o + 14 + j) 3 = nI r0 ∧ BusG t h (fun i => g0 (o + 4 + i)) (fun i => g (o + 4 + i)) (g0 (o + 14 + j)) (g (o + 14 + j)) r0) ∧ Tak 600 (g0 (o + 14 + j)) (g (o + 14 + j))) ∧
  (∀ j, nR ≤ j → j < nb → ∀ k, k < 7 → g (o + 14 + j) k = g0 (o + 14 + j) k) ∧
  (∀ p, p < np → PasR t (fun j => g (o + 14 + j) 1) nB nC (prc g0 o p) (g0 (o + 20 + p)) (g (o + 20 + p))) ∧
  (∀ j, j < nb → RidOk g0 g o np e j) ∧
  sumF (fun q => g (o + 20 + q) 4) np = sumF (fun q => g (o + 14 + q) 6) nb
section MID
variable {o nb np n nR nB nC : Nat} {tv hv : Nat} {g0 g : S2} {e : Nat → Nat}
theorem cl0 (K0 : OkL o nb np g0) {j : Nat} (hj : j < nb) : cl (g0 (o + 14 + j) 1) < 10 := (K0.2.2.2.1 j hj).1.cl.1
theorem mid_setB (K0 : OkL o nb np g0) (hhv : hv ≤ 15) {k : Nat} {x : Int32} (hk : k = 1 ∨ k = 2 ∨ k = 3) (hR : n < nR) (hn : n < nb) (hBC : nB ≤ nC) (hA : k = 1 → nC ≤ n) (h1 : k = 1 → D10 x) (h2 : k = 2 → x = 0 ∨ x = 1) (M : Mid o nb np (nI tv) (nI hv) g0 g n nR nB nC e) : Mid o nb np (nI tv) (nI hv) g0 (u2 g (o + 14 + n) k x) n nR nB nC e := by
  obtain ⟨a, ⟨b1, b2⟩, c, d, f, i, j, s⟩ := M
  have h6 := a.1.2
  refine ⟨OkL.B a (by omega) (by omega) h1 h2, ⟨by rw [u2_n (by omega)]; exact b1, by rw [u2_n (by omega)]; exact b2⟩, fun q hq => by rw [u2_ne (by omega)]; exact c q hq, fun q hq => ?_, fun q h1 h2 k hk => by rw [u2_n (by omega)]; exact f q h1 h2 k hk, fun q hq => ?_, fun q hq => ?_, ?_⟩
  · obtain ⟨⟨r0, d1, d2, d3⟩, d4⟩ := d q hq
    have hc := cl0 K0 (j := q) (by omega)
    rw [u2_ne (show o + 14 + q ≠ o + 14 + n by omega)]
    exact ⟨⟨r0, d1, d2, d3.mono hhv (Or.inl (by show u2 g (o + 14 + n) k x (o + 4 + cl (g0 (o + 14 + q) 1)) 2 = _; rw [u2_n (by omega)]))⟩, d4⟩
  · rw [u2_ne (show o + 20 + q ≠ o + 14 + n by omega)]
    exact (i q hq).mono (Nat.le_refl _) (Nat.le_refl _) hBC (fun j hj => by
      show u2 g (o + 14 + n) k x (o + 14 + j) 1 = g (o + 14 + j) 1
      rw [u2_app, if_neg (fun z => by have := hA z.2.symm; omega)])
  · unfold RidOk
    rw [rid_congr (g := g) (fun z hz => by rw [u2_n (by omega), u2_n (by omega)]; exact ⟨rfl, rfl⟩), u2_app, if_neg (by omega), u2_app, if_neg (by omega)]
    exact j q hq
  · exact (sumF_congr (fun z hz => by rw [u2_n (by omega)])).trans (s.trans (sumF_congr (fun z hz => by rw [u2_app, if_neg (by omega)])).symm)
theorem off_k {p k : Nat} {x : Int32} : f_off g (o + 20 + p) x (o + 20 + p) k = if k = 6 then x else if k = 3 then -1 else if k = 1 then g (o + 20 + p) 2 else if k = 0 then 2 else g (o + 20 + p) k := by
  unfold f_off
  simp only [u2_app]
  simp
theorem off_ne {p a : Nat} {x : Int32} (h : a ≠ o + 20 + p) : f_off g (o + 20 + p) x a = g a := by
  unfold f_off
  rw [u2_ne h, u2_ne h, u2_ne h, u2_ne h]
theorem mid_off (K0 : OkL o nb np g0) (hhv : hv ≤ 15) {p c : Nat} (hp : p < np) (hn : n < nb) (hq : g (o + 20 + p) 0 = 1 ∧ g (o + 20 + p) 3 = g (o + 14 + n) 0 ∧ g (o + 20 + p) 2 = g (o + 14 + n) 1) (M : Mid o nb np (nI tv) (nI hv) g0 g n (n + 1) n (n + 1) (e1 n c)) : Mid o nb np (nI tv) (nI hv) g0 (f_off g (o + 20 + p) (g o 5)) n (n + 1) n (n + 1) (e1 n (c + 1)) := by
  obtain ⟨a, ⟨b1, b2⟩, cc, d, f, i, j, s⟩ := M
  have h6 := a.1.2
  have h50 := a.2.1.2
  have hnum : g (o + 20 + p) 3 = nI n := hq.2.1.trans (a.2.2.1 n (by omega))
  have hs1 : f_off g (o + 20 + p) (g o 5) (o + 20 + p) 4 = g (o + 20 + p) 4 := by rw [off_k]; simp
  refine ⟨okl_off a hp, ⟨by rw [off_ne (by omega)]; exact b1, by rw [off_ne (by omega)]; exact b2⟩, fun q hq => by rw [off_ne (by omega)]; exact cc q hq, fun q hq => ?_, fun q h1 h2 k hk => by rw [off_ne (by omega)]; exact f q h1 h2 k hk, fun q hq2 => ?_, fun q hq2 => ?_, ?_⟩
  · obtain ⟨⟨r0, d1, d2, d3⟩, d4⟩ := d q hq
    have hc := cl0 K0 (j := q) (by omega)
    rw [off_ne (by omega)]
    exact ⟨⟨r0, d1, d2, d3.mono hhv (Or.inl (by show f_off g (o + 20 + p) (g o 5) (o + 4 + cl (g0 (o + 14 + q) 1)) 2 = _; rw [off_ne (by omega)]))⟩, d4⟩
  · have hA : ∀ j, j < n + 1 → (fun j => f_off g (o + 20 + p) (g o 5) (o + 14 + j) 1) j = (fun j => g (o + 14 + j) 1) j := fun j hj => by
      show f_off g (o + 20 + p) (g o 5) (o + 14 + j) 1 = _
      rw [off_ne (by omega)]
    by_cases hqp : q = p
    · subst hqp
      obtain ⟨p1, p2, h | ⟨c1, c2, c3, ⟨j, j1, j2, j3⟩, c4⟩ | ⟨c1, c2, c3⟩⟩ := i q hq2
      · refine ⟨by rw [off_k]; simp [p1], by rw [off_k]; simp [p2], Or.inr (Or.inr ⟨by rw [← h 0 (by decide)]; exact hq.1, by rw [off_k]; simp, by rw [off_k]; simp [h 2 (by decide)], ⟨n, by omega, by rw [← h 3 (by decide)]; exact hnum, ?_⟩, by rw [off_k]; simp, by rw [off_k]; simp [h 4 (by decide)], by rw [off_k]; simp [b1], by rw [off_k]; simp [h 7 (by decide)]⟩)⟩
        show f_off g (o + 20 + q) (g o 5) (o + 14 + n) 1 = _
        rw [off_ne (by omega), ← h 2 (by decide)]; exact hq.2.2.symm
      · exact absurd (hnum.symm.trans j2) (nI_ne (by omega) (by omega) (by omega))
      · exact absurd (hq.1.symm.trans c2) (by decide)
    · rw [off_ne (show o + 20 + q ≠ o + 20 + p by omega)]
      exact (i q hq2).mono (Nat.le_refl _) (Nat.le_refl _) (by omega) hA
  · obtain ⟨r1, r2, z, r3, r4, r5⟩ := j q hq2
    have hu := cnB_upd (A := fun z => decide (f_off g (o + 20 + p) (g o 5) (o + 20 + z) 0 = 1 ∧ f_off g (o + 20 + p) (g o 5) (o + 20 + z) 3 = nI q)) (B := fun z => decide (g (o + 20 + z) 0 = 1 ∧ g (o + 20 + z) 3 = nI q)) (p := p) (fun z hz => by rw [off_ne (show o + 20 + z ≠ o + 20 + p by omega)]) hp
    have hA : decide (f_off g (o + 20 + p) (g o 5) (o + 20 + p) 0 = 1 ∧ f_off g (o + 20 + p) (g o 5) (o + 20 + p) 3 = nI q) = false := by
      rw [off_k]; simp
    have hB : decide (g (o + 20 + p) 0 = 1 ∧ g (o + 20 + p) 3 = nI q) = decide (n = q) := by
      rw [hnum, hq.1]
      by_cases e9 : n = q
      · subst e9; simp
      · simp [e9, nI_ne e9 (by omega) (by omega)]
    rw [hA, hB] at hu
    replace hu : rid (f_off g (o + 20 + p) (g o 5)) o np q + (if decide (n = q) = true then 1 else 0) = rid g o np q + (if false = true then 1 else 0) := hu
    rw [if_neg (show ¬ false = true by decide)] at hu
    have hr : rid (f_off g (o + 20 + p) (g o 5)) o np q + e1 n (c + 1) q = rid g o np q + e1 n c q := by
      unfold e1
      by_cases e9 : n = q
      · subst e9
        rw [if_pos (decide_eq_true rfl)] at hu
        rw [if_pos rfl, if_pos rfl]
        omega
      · rw [if_neg (by rw [decide_eq_false e9]; decide)] at hu
        rw [if_neg (Ne.symm e9), if_neg (Ne.symm e9)]
        omega
    unfold RidOk
    rw [hr, off_ne (by omega)]
    exact ⟨r1, r2, z, r3, r4, r5⟩
  · exact (sumF_congr (fun z hz => by
      by_cases e9 : z = p
      · subst e9; exact hs1
      · rw [off_ne (by omega)])).trans (s.trans (sumF_congr (fun z hz => by rw [off_ne (by omega)])).symm)
theorem mid_offs (K0 : OkL o nb np g0) (hhv : hv ≤ 15) (hn : n < nb) (M : Mid o nb np (nI tv) (nI hv) g0 g n (n + 1) n (n + 1) (e1 n 0)) : ∀ k, k ≤ np → Mid o nb np (nI tv) (nI hv) g0 (f_offs g o (o + 14 + n) k).1 n (n + 1) n (n + 1) (e1 n (f_offs g o (o + 14 + n) k).2) ∧ (f_offs g o (o + 14 + n) k).1 (o + 14 + n) = g (o + 14 + n) ∧ (f_offs g o (o + 14 + n) k).2 ≤ k
  | 0, _ => ⟨M, rfl, Nat.le_refl 0⟩
  | k + 1, hk => by
    obtain ⟨ih, ih2, ih3⟩ := mid_offs K0 hhv hn M k (by omega)
    show Mid o nb np (nI tv) (nI hv) g0 (f_offs1 o (o + 14 + n) k (f_offs g o (o + 14 + n) k)).1 n (n + 1) n (n + 1) (e1 n (f_offs1 o (o + 14 + n) k (f_offs g o (o + 14 + n) k)).2) ∧ (f_offs1 o (o + 14 + n) k (f_offs g o (o + 14 + n) k)).1 (o + 14 + n) = g (o + 14 + n) ∧ (f_offs1 o (o + 14 + n) k (f_offs g o (o + 14 + n) k)).2 ≤ k + 1
    have h6 := M.1.1.2
    generalize f_offs g o (o + 14 + n) k = r at ih ih2 ih3 ⊢
    unfold f_offs1
    split
    · rename_i q
      exact ⟨mid_off K0 hhv (by omega) hn q ih, by show f_off r.1 (o + 20 + k) (r.1 o 5) (o + 14 + n) = _; rw [off_ne (by omega)]; exact ih2, by show r.2 + 1 ≤ k + 1; omega⟩
    · exact ⟨ih, ih2, by omega⟩
theorem mid_letOff (K0 : OkL o nb np g0) (hhv : hv ≤ 15) (hn : n < nb) (M : Mid o nb np (nI tv) (nI hv) g0 g n (n + 1) n (n + 1) (e1 n 0)) : Mid o nb np (nI tv) (nI hv) g0 (f_letOff g o (o + 14 + n) np) n (n + 1) n (n + 1) (e1 n 0) := by
  obtain ⟨⟨a, ⟨b1, b2⟩, cc, d, f, i, j, s⟩, h2, h3⟩ := mid_offs K0 hhv hn M np (Nat.le_refl _)
  have h6 := a.1.2
  unfold f_letOff
  generalize f_offs g o (o + 14 + n) np = r at a b1 b2 cc d f i j s h2 h3
  refine ⟨OkL.B a (by omega) (by decide) (by omega) (by omega), ⟨by rw [u2_n (by omega)]; exact b1, by rw [u2_n (by omega)]; exact b2⟩, fun q hq => by rw [u2_ne (by omega)]; exact cc q hq, fun q hq => ?_, fun q h1 h2 k hk => by rw [u2_n (by omega)]; exact f q h1 h2 k hk, fun q hq => ?_, fun q hq => ?_, ?_⟩
  · obtain ⟨⟨r0, d1, d2, d3⟩, d4⟩ := d q hq
    have hc := cl0 K0 (j := q) (by omega)
    rw [u2_ne (show o + 14 + q ≠ o + 14 + n by omega)]
    exact ⟨⟨r0, d1, d2, d3.mono hhv (Or.inl (by show u2 r.1 (o + 14 + n) 5 _ (o + 4 + cl (g0 (o + 14 + q) 1)) 2 = _; rw [u2_n (by omega)]))⟩, d4⟩
  · rw [u2_ne (show o + 20 + q ≠ o + 14 + n by omega)]
    exact (i q hq).mono (Nat.le_refl _) (Nat.le_refl _) (by omega) (fun j hj => by
      show u2 r.1 (o + 14 + n) 5 _ (o + 14 + j) 1 = r.1 (o + 14 + j) 1
      rw [u2_app, if_neg (by omega)])
  · obtain ⟨r1, r2, z, r3, r4, r5⟩ := j q hq
    unfold RidOk
    rw [rid_congr (g := r.1) (fun z hz => by rw [u2_n (by omega), u2_n (by omega)]; exact ⟨rfl, rfl⟩)]
    by_cases e9 : q = n
    · subst e9
      unfold e1 at r1 r5 ⊢
      rw [if_pos rfl] at r1 r5
      rw [if_pos rfl, u2_s, u2_k (by decide), r1, pk_sub (by omega)]
      exact ⟨congrArg nI (by omega), r2, z, r3, r4, by omega⟩
    · unfold e1 at r1 r5 ⊢
      rw [if_neg e9] at r1 r5
      rw [if_neg e9, u2_n (by omega), u2_n (by omega)]
      exact ⟨r1, r2, z, r3, r4, r5⟩
  · exact (sumF_congr (fun z hz => by rw [u2_n (by omega)])).trans (s.trans (sumF_congr (fun z hz => by rw [u2_app, if_neg (by omega)])).symm)
end MID
