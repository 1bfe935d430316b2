/-! who gets on; a whole bus; a whole minute -/
section MID2
variable {o nb np n nR nB nC : Nat} {tv hv : Nat} {g0 g : S2} {e : Nat → Nat}
theorem f_cnt9 {sg : Nat → Int32} {a c : Nat} (ha : a < 10) (hc : c < 10) : ∃ m, m ≤ 11 ∧ f_fare sg a c = nI m := by
  unfold f_fare
  by_cases h : a = c
  · rw [if_pos h]; exact ⟨0, by omega, rfl⟩
  · rw [if_neg h]
    refine ⟨_, ?_, rfl⟩
    have h9 := f_cnt_le sg a (if a < c then c - a else c + 10 - a)
    split at h9 <;> split <;> omega
theorem fare11 {sg : Nat → Int32} {x y : Int32} (hx : D10 x) (hy : D10 y) : ∃ m, m ≤ 11 ∧ f_fareI sg x y = nI m := f_cnt9 hx.cl.1 hy.cl.1
theorem price11 {P : Nat} {x : Int32} (h : ∃ m, m ≤ 11 ∧ x = nI m) : ∃ m, m ≤ 11 ∧ f_price g P x = nI m := by
  obtain ⟨m, hm, rfl⟩ := h
  unfold f_price
  split
  · exact ⟨m, hm, rfl⟩
  · exact ⟨m / 2, by omega, by rw [show (2 : Int32) = nI 2 from rfl, pk_div (by omega) (by decide) (by decide)]⟩
theorem board_P {p j k : Nat} : f_board g o (o + 14 + j) (o + 20 + p) (o + 20 + p) k = if o + 20 + p = o + 14 + j then f_board g o (o + 14 + j) (o + 20 + p) (o + 20 + p) k else if k = 4 then g (o + 20 + p) 4 + f_price g (o + 20 + p) (f_fareI (stg g o) (g (o + 20 + p) 1) (g (o + 20 + p) 2)) else if k = 3 then g (o + 14 + j) 0 else if k = 0 then 1 else if k = 7 then 0 else g (o + 20 + p) k := by
  by_cases h : o + 20 + p = o + 14 + j
  · rw [if_pos h]
  · rw [if_neg h]
    unfold f_board f_on
    rw [u2_ne h, u2_ne h]
    simp only [u2_app]
    simp
theorem board_B {p j k : Nat} (h : o + 14 + j ≠ o + 20 + p) : f_board g o (o + 14 + j) (o + 20 + p) (o + 14 + j) k = if k = 5 then g (o + 14 + j) 5 + 1 else if k = 6 then g (o + 14 + j) 6 + f_price g (o + 20 + p) (f_fareI (stg g o) (g (o + 20 + p) 1) (g (o + 20 + p) 2)) else g (o + 14 + j) k := by
  unfold f_board f_on
  simp only [u2_app]
  simp [h]
theorem board_ne {p j a : Nat} (h : a ≠ o + 14 + j) (h2 : a ≠ o + 20 + p) : f_board g o (o + 14 + j) (o + 20 + p) a = g a := by
  unfold f_board f_on
  rw [u2_ne h, u2_ne h, u2_ne h2, u2_ne h2, u2_ne h2, u2_ne h2]
/-- beside Mid: bus n is at its stop, m of the passengers have been looked at -/
def At (o n m : Nat) (g0 g : S2) : Prop := g (o + 14 + n) 1 = rem10 (g0 (o + 14 + n) 1 + 1) ∧ g (o + 14 + n) 2 = 0 ∧ Tak (12 * m) (g0 (o + 14 + n)) (g (o + 14 + n))
theorem mid_board (K0 : OkL o nb np g0) (hhv : hv ≤ 15) {p : Nat} (hp : p < np) (hn : n < nb) (hq : g (o + 14 + n) 5 < g (o + 14 + n) 4 ∧ g (o + 20 + p) 0 = 0 ∧ g (o + 20 + p) 1 = g (o + 14 + n) 1) (M : Mid o nb np (nI tv) (nI hv) g0 g n (n + 1) (n + 1) (n + 1) (e1 n 0)) (hT : At o n p g0 g) :
    Mid o nb np (nI tv) (nI hv) g0 (f_board g o (o + 14 + n) (o + 20 + p)) n (n + 1) (n + 1) (n + 1) (e1 n 0) ∧ At o n (p + 1) g0 (f_board g o (o + 14 + n) (o + 20 + p)) := by
  obtain ⟨a, ⟨b1, b2⟩, cc, d, f, i, j, s⟩ := M
  have h6 := a.1.2
  have h50 := a.2.1.2
  have hne : ∀ j, j < 6 → o + 14 + j ≠ o + 20 + p := fun j hj => by omega
  have hPne : ¬ o + 20 + p = o + 14 + n := by omega
  have hnum : g (o + 14 + n) 0 = nI n := a.2.2.1 n (by omega)
  obtain ⟨pm, hpm, hpr⟩ := price11 (g := g) (P := o + 20 + p) (fare11 (sg := stg g o) (a.2.2.2.2 p hp).1 (a.2.2.2.2 p hp).2.1)
  refine ⟨⟨okl_board a hp (by omega), ⟨by rw [board_ne (by omega) (by omega)]; exact b1, by rw [board_ne (by omega) (by omega)]; exact b2⟩, fun q hq => by rw [board_ne (by omega) (by omega)]; exact cc q hq, fun q hq => ?_, fun q h1 h2 k hk => by rw [board_ne (by omega) (by omega)]; exact f q h1 h2 k hk, fun q hq2 => ?_, fun q hq2 => ?_, ?_⟩, ?_⟩
  · obtain ⟨⟨r0, d1, d2, d3⟩, d4⟩ := d q hq
    have hc := cl0 K0 (j := q) (by omega)
    rw [board_ne (by omega) (by omega)]
    exact ⟨⟨r0, d1, d2, d3.mono hhv (Or.inl (by show f_board g o (o + 14 + n) (o + 20 + p) (o + 4 + cl (g0 (o + 14 + q) 1)) 2 = _; rw [board_ne (by omega) (by omega)]))⟩, d4⟩
  · have hA : ∀ j, j < n + 1 → (fun j => f_board g o (o + 14 + n) (o + 20 + p) (o + 14 + j) 1) j = (fun j => g (o + 14 + j) 1) j := fun j hj => by
      show f_board g o (o + 14 + n) (o + 20 + p) (o + 14 + j) 1 = _
      by_cases e9 : j = n
      · subst e9; rw [board_B (hne _ (by omega)), if_neg (by decide), if_neg (by decide)]
      · rw [board_ne (by omega) (by omega)]
    by_cases hqp : q = p
    · subst hqp
      obtain ⟨p1, p2, h | ⟨c1, c2, c3⟩ | ⟨c1, c2, c3⟩⟩ := i q hq2
      · have hpc : f_price g (o + 20 + q) (f_fareI (stg g o) (g (o + 20 + q) 1) (g (o + 20 + q) 2)) = prc g0 o q := by
          unfold prc f_price
          rw [f_fareI_congr (s := stg g o) (s' := stg g0 o) (fun i hi => (cc i hi).2.1), h 1 (by decide), h 2 (by decide), h 7 (by decide)]
        refine ⟨by rw [board_P, if_neg hPne]; exact p1, by rw [board_P, if_neg hPne]; exact p2, Or.inr (Or.inl ⟨by rw [← h 0 (by decide)]; exact hq.2.1, by rw [board_P, if_neg hPne]; rfl, by rw [board_P, if_neg hPne]; exact h 1 (by decide), ⟨n, by omega, by rw [board_P, if_neg hPne]; exact hnum, ?_⟩, by rw [board_P, if_neg hPne, hpc]; show g (o + 20 + q) 4 + _ = _; rw [h 4 (by decide)], by rw [board_P, if_neg hPne]; exact h 6 (by decide), by rw [board_P, if_neg hPne]; rfl⟩)⟩
        rw [hA n (by omega), ← h 1 (by decide)]; exact hq.2.2.symm
      · exact absurd (hq.2.1.symm.trans c2) (by decide)
      · exact absurd (hq.2.1.symm.trans c2) (by decide)
    · rw [board_ne (show o + 20 + q ≠ o + 14 + n by omega) (show o + 20 + q ≠ o + 20 + p by omega)]
      exact (i q hq2).mono (Nat.le_refl _) (Nat.le_refl _) (Nat.le_refl _) hA
  · obtain ⟨r1, r2, z, r3, r4, r5⟩ := j q hq2
    have hu := cnB_upd (A := fun z => decide (f_board g o (o + 14 + n) (o + 20 + p) (o + 20 + z) 0 = 1 ∧ f_board g o (o + 14 + n) (o + 20 + p) (o + 20 + z) 3 = nI q)) (B := fun z => decide (g (o + 20 + z) 0 = 1 ∧ g (o + 20 + z) 3 = nI q)) (p := p) (fun z hz => by rw [board_ne (show o + 20 + z ≠ o + 14 + n by omega) (show o + 20 + z ≠ o + 20 + p by omega)]) hp
    have hA : decide (f_board g o (o + 14 + n) (o + 20 + p) (o + 20 + p) 0 = 1 ∧ f_board g o (o + 14 + n) (o + 20 + p) (o + 20 + p) 3 = nI q) = decide (n = q) := by
      rw [board_P, if_neg hPne, board_P, if_neg hPne]
      show decide ((1 : Int32) = 1 ∧ g (o + 14 + n) 0 = nI q) = _
      rw [hnum]
      by_cases e9 : n = q
      · subst e9; simp
      · simp [e9, nI_ne e9 (by omega) (by omega)]
    have hB : decide (g (o + 20 + p) 0 = 1 ∧ g (o + 20 + p) 3 = nI q) = false := by
      rw [hq.2.1]; simp
    rw [hA, hB] at hu
    replace hu : rid (f_board g o (o + 14 + n) (o + 20 + p)) o np q + (if false = true then 1 else 0) = rid g o np q + (if decide (n = q) = true then 1 else 0) := hu
    rw [if_neg (show ¬ false = true by decide)] at hu
    unfold RidOk
    by_cases e9 : n = q
    · subst e9
      rw [if_pos (decide_eq_true rfl)] at hu
      unfold e1 at r1 r5 ⊢
      rw [if_pos rfl] at r1 r5
      rw [if_pos rfl, board_B (hne n (by omega)), if_pos rfl, board_B (hne n (by omega)), if_neg (by decide), if_neg (by decide)]
      have hlt : rid g o np n < z := by
        have h1 := hq.1
        rw [r1, r2, r4] at h1
        have := (nI_ltI (by omega) (by omega)).mp h1
        omega
      exact ⟨by rw [r1, nI_1]; exact congrArg nI (by omega), r2, z, r3, r4, by omega⟩
    · rw [if_neg (by rw [decide_eq_false e9]; decide)] at hu
      unfold e1 at r1 r5 ⊢
      rw [if_neg (Ne.symm e9)] at r1 r5
      rw [if_neg (Ne.symm e9), board_ne (by omega) (by omega), show rid (f_board g o (o + 14 + n) (o + 20 + p)) o np q = rid g o np q by omega]
      exact ⟨r1, r2, z, r3, r4, r5⟩
  · have s1 : sumF (fun q => f_board g o (o + 14 + n) (o + 20 + p) (o + 20 + q) 4) np = sumF (fun q => g (o + 20 + q) 4) np + f_price g (o + 20 + p) (f_fareI (stg g o) (g (o + 20 + p) 1) (g (o + 20 + p) 2)) :=
      sumF_upd (p := p) (fun q hq => by rw [board_ne (by omega) (by omega)]) (by rw [board_P, if_neg hPne]; rfl) hp
    have s2 : sumF (fun q => f_board g o (o + 14 + n) (o + 20 + p) (o + 14 + q) 6) nb = sumF (fun q => g (o + 14 + q) 6) nb + f_price g (o + 20 + p) (f_fareI (stg g o) (g (o + 20 + p) 1) (g (o + 20 + p) 2)) := by
      have s3 : sumF (fun q => f_board g o (o + 14 + n) (o + 20 + p) (o + 14 + q) 6) nb = sumF (fun q => if q = n then f_board g o (o + 14 + n) (o + 20 + p) (o + 14 + n) 6 else g (o + 14 + q) 6) nb := sumF_congr (fun q hq => by
        by_cases e9 : q = n
        · subst e9; rw [if_pos rfl]
        · rw [if_neg e9, board_ne (by omega) (by omega)])
      rw [s3]
      exact sumF_upd (p := n) (fun q hq => by rw [if_neg hq]) (by rw [if_pos rfl, board_B (hne n (by omega)), if_neg (by decide), if_pos rfl]) hn
    rw [s1, s2, s]
  · obtain ⟨t1, t2, u, w, w1, w2, w3, w4⟩ := hT
    refine ⟨by rw [board_B (hne n (by omega)), if_neg (by decide), if_neg (by decide)]; exact t1, by rw [board_B (hne n (by omega)), if_neg (by decide), if_neg (by decide)]; exact t2, u, w + pm, w1, by omega, w3, ?_⟩
    rw [board_B (hne n (by omega)), if_neg (by decide), if_pos rfl, w4, hpr, nI_add]
    exact congrArg nI (by omega)
theorem mid_ons (K0 : OkL o nb np g0) (hhv : hv ≤ 15) (hn : n < nb) (M : Mid o nb np (nI tv) (nI hv) g0 g n (n + 1) (n + 1) (n + 1) (e1 n 0)) (hT : At o n 0 g0 g) : ∀ k, k ≤ np → Mid o nb np (nI tv) (nI hv) g0 (f_ons g o (o + 14 + n) k).1 n (n + 1) (n + 1) (n + 1) (e1 n 0) ∧ At o n k g0 (f_ons g o (o + 14 + n) k).1 ∧ (f_ons g o (o + 14 + n) k).2 ≤ k
  | 0, _ => ⟨M, hT, Nat.le_refl 0⟩
  | k + 1, hk => by
    obtain ⟨ih, ih2, ih3⟩ := mid_ons K0 hhv hn M hT k (by omega)
    show Mid o nb np (nI tv) (nI hv) g0 (f_ons1 o (o + 14 + n) k (f_ons g o (o + 14 + n) k)).1 n (n + 1) (n + 1) (n + 1) (e1 n 0) ∧ At o n (k + 1) g0 (f_ons1 o (o + 14 + n) k (f_ons g o (o + 14 + n) k)).1 ∧ (f_ons1 o (o + 14 + n) k (f_ons g o (o + 14 + n) k)).2 ≤ k + 1
    generalize f_ons g o (o + 14 + n) k = r at ih ih2 ih3 ⊢
    unfold f_ons1
    split
    · rename_i q
      obtain ⟨y1, y2⟩ := mid_board K0 hhv (by omega) hn q ih ih2
      exact ⟨y1, y2, by show r.2 + 1 ≤ k + 1; omega⟩
    · obtain ⟨y1, y2, u, w, w1, w2, w3⟩ := ih2
      exact ⟨ih, ⟨y1, y2, u, w, w1, by omega, w3⟩, by omega⟩
theorem Mid.weak {nR' nB' nC' : Nat} (M : Mid o nb np (nI tv) (nI hv) g0 g n nR nB nC e) (hR : nR ≤ nR') (hB : nB ≤ nB') (hC : nC ≤ nC') (hBC : nB ≤ nC) : Mid o nb np (nI tv) (nI hv) g0 g n nR' nB' nC' e := by
  obtain ⟨a, b, c, d, f, i, j⟩ := M
  exact ⟨a, b, c, d, fun q h1 h2 => f q (by omega) h2, fun q hq => (i q hq).mono hB hC hBC (fun _ _ => rfl), j⟩
theorem mid_e {e' : Nat → Nat} (M : Mid o nb np (nI tv) (nI hv) g0 g n nR nB nC e) (h : e' = e) : Mid o nb np (nI tv) (nI hv) g0 g n nR nB nC e' := h ▸ M
theorem e1_0 : e1 n 0 = fun _ => 0 := by funext i; unfold e1; split <;> rfl
end MID2
